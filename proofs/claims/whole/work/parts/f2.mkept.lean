section
variable {σ τ μ : mj_St} {D : Nat → Nat → Nat}
theorem mk_gok_D {s h o g : Nat} {mt : Int32} {l : Nat → Int32} {x : Nat → Nat} (hM : mk_isM μ D) (hk : mj_okD D) (hL : mk_Lx D (mj_b mt) l x) (hs : s < 512) (hh : h < 12) (ho : o < 8) :
    mj_gok μ (nI h) (nI o) mt (D 14 14) l s = true ↔ mj_vok D (mj_b mt) (mj_b (μ.1 61 46)) 1 o g h x (mj_sb s) := by
  have e : mj_gok μ (nI h) (nI o) mt (D 14 14) l s = (decide (nI s &&& (mj_Gset μ (nI h) (nI o) mt l (D 14 14) ^^^ -1) = 0) && mj_bo1 μ (nI h) mt (D 14 14) l s o) := rfl
  rw [e, Bool.and_eq_true, decide_eq_true_eq, mk_sub_D hM hk hL hs hh ho, mk_vok_P (P := fun o' => o' = o) (fun i _ => by
    unfold mj_maV
    rw [if_pos rfl]
    exact ⟨fun z => ⟨o, rfl, z⟩, fun ⟨o', e, z⟩ => by rw [← e]; exact z⟩) ⟨o, rfl⟩]
  have op : ∀ i, mk_opE D (mj_b mt) (mj_b (μ.1 61 46)) o h x i ↔ mj_opD D (mj_b mt) (mj_b (μ.1 61 46)) 1 o g h x i := fun i => by
    unfold mk_opE mj_opD mj_kaV
    rw [if_pos rfl]
  constructor
  · rintro ⟨a, b⟩
    refine ⟨fun i hi => ⟨(a i hi).1, (op i).mp (a i hi).2⟩, fun o' ho' => ?_⟩
    rw [ho']
    exact (mk_bo1_D hM hk hL hs (fun i hi => (a i hi).1) (fun i hi => (a i hi).2.2.2.2.2.2.1) hh ho).mp b
  · rintro ⟨a, b⟩
    refine ⟨fun i hi => ⟨(a i hi).1, (op i).mpr (a i hi).2⟩, ?_⟩
    exact (mk_bo1_D hM hk hL hs (fun i hi => (a i hi).1) (fun i hi => (a i hi).2.2.2.2.2.2.1) hh ho).mpr (b o rfl)
theorem mk_Lx_ag {mt : Nat → Bool} {l l' : Nat → Int32} {x : Nat → Nat} (hM : mk_isM μ D) (hk : mj_okD D) (h : mj_Ag μ (D 14 14) l l') (hL : mk_Lx D mt l' x) : mk_Lx D mt l x := fun i hi h5 hm => by
  rw [h i hi ((mk_wk_M hM hk hi).2.mpr h5)]
  exact hL i hi h5 hm
theorem mk_Lx_nxb {mt : Nat → Bool} {l : Nat → Int32} {x : Nat → Nat} {s : Nat} (hk : mj_okD D) (hL : mk_Lx D mt l x) (hs : s < 512) (hsx : ∀ i, mj_sb s i = true → x i ≠ 0) : mk_Lx D mt (mj_nxb l s) (mj_less x (mj_sb s)) := fun i hi h5 hm => by
  have N9 := hk.1
  obtain ⟨l1, l2⟩ := hL i hi h5 hm
  have e : mj_b (nI s) i = mj_sb s i := mj_b_nI (by omega)
  unfold mj_nxb mj_bis mj_less
  rw [e, l1]
  cases c : mj_sb s i
  · rw [if_neg (by decide), if_neg (by decide)]
    exact ⟨rfl, by omega⟩
  · rw [if_pos rfl, if_pos rfl]
    have := hsx i c
    exact ⟨mj_nI_sub (b := 1) (by omega), by omega⟩
theorem mk_sb_nb {A : Nat → Bool} (h : ∀ i, A i = true → i < 9) : mj_sb (mj_nb A 9) = A := by
  funext i
  unfold mj_sb
  rw [mj_nb_b]
  cases z : A i
  · rw [Bool.and_false]
  · rw [decide_eq_true (h i z)]; rfl
theorem mk_nx_D {s h o g : Nat} {mt : Int32} {l : Nat → Int32} {x : Nat → Nat} (hM : mk_isM μ D) (hk : mj_okD D) (hL : mk_Lx D (mj_b mt) l x) (hs : s < 512) (hh : h < 12) (ho : o < 8) (hg : mj_gok μ (nI h) (nI o) mt (D 14 14) l s = true) :
    mk_Lx D (mj_b mt) (mj_nxd μ (nI h) (nI s) (nI o) mt l) (mj_less x (mj_sb s)) := by
  have v := (mk_gok_D (g := g) hM hk hL hs hh ho).mp hg
  unfold mj_gok at hg
  simp only [Bool.and_eq_true, decide_eq_true_eq] at hg
  exact mk_Lx_ag hM hk (mj_nxd_0 hk.1 hg.2.2) (mk_Lx_nxb hk hL hs (fun i hi => (v.1 i hi).2.1.2.2.2.2.2.1))
theorem mk_nw1 {h u : Nat} (hu : mj_newD D 1 h u) : u = 0 := by
  unfold mj_newD at hu
  rw [if_pos rfl] at hu
  exact hu
/-- what can be kept, by the reference: told of the deal -/
theorem mk_Kp_D {o : Nat} {mt : Int32} (hM : mk_isM μ D) (hk : mj_okD D) (ho : o < 8) : ∀ (r g : Nat) (l : Nat → Int32) (x : Nat → Nat), r ≤ 12 → mk_Lx D (mj_b mt) l x → (mj_Kp μ (nI o) mt (D 14 14) r l = true ↔ mj_DW D (mj_b mt) (mj_b (μ.1 61 46)) 1 o mj_Qno r g x) := by
  have N9 := hk.1
  intro r
  induction r with
  | zero => intro g l x _ _; exact ⟨fun _ => trivial, fun _ => rfl⟩
  | succ r ih =>
    intro g l x hr hL
    have hh : 11 - r < 12 := by omega
    show mj_anyF (fun s => mj_gok μ (nI (11 - r)) (nI o) mt (D 14 14) l s && mj_Kp μ (nI o) mt (D 14 14) r (mj_nxd μ (nI (11 - r)) (nI s) (nI o) mt l)) 0 512 = true ↔ _
    rw [mj_anyF_iff]
    constructor
    · rintro ⟨s, -, hs, hb⟩
      rw [Bool.and_eq_true] at hb
      refine ⟨mj_sb s, (mk_gok_D hM hk hL (by omega) hh ho).mp hb.1, trivial, fun u hu => ?_⟩
      exact (ih _ _ _ (by omega) (mk_nx_D (g := g) hM hk hL (by omega) hh ho hb.1)).mp hb.2
    · rintro ⟨A, a1, -, a3⟩
      have eA := mk_sb_nb (A := A) (fun i hi => by have := (a1.1 i hi).1; omega)
      rw [← eA] at a1 a3
      have s9 := mj_nb_lt (A := A) (n := 9)
      have hg := (mk_gok_D hM hk hL s9 hh ho).mpr a1
      refine ⟨_, Nat.zero_le _, by omega, ?_⟩
      rw [Bool.and_eq_true]
      exact ⟨hg, (ih _ _ _ (by omega) (mk_nx_D (g := g) hM hk hL s9 hh ho hg)).mpr (a3 0 mj_newD_0)⟩
theorem mk_pk_D {o r g s : Nat} {mt : Int32} {l : Nat → Int32} {x : Nat → Nat} (hM : mk_isM μ D) (hk : mj_okD D) (ho : o < 8) (hr : r + 1 ≤ 12) (hL : mk_Lx D (mj_b mt) l x) (hs : s < 512) : mj_pk μ (nI o) mt (D 14 14) r l s = true ↔ mj_mw D (mj_b mt) (mj_b (μ.1 61 46)) 1 o r g x (mj_sb s) := by
  have hh : 11 - r < 12 := by omega
  unfold mj_pk mj_mw
  rw [Bool.and_eq_true]
  constructor
  · rintro ⟨a, b⟩
    exact ⟨(mk_gok_D hM hk hL hs hh ho).mp a, fun u hu => (mk_Kp_D hM hk ho r _ _ _ (by omega) (mk_nx_D (g := g) hM hk hL hs hh ho a)).mp b⟩
  · rintro ⟨a, b⟩
    have hg := (mk_gok_D hM hk hL hs hh ho).mpr a
    exact ⟨hg, (mk_Kp_D hM hk ho r _ _ _ (by omega) (mk_nx_D (g := g) hM hk hL hs hh ho hg)).mpr (b 0 mj_newD_0)⟩
/-- the first set that wins is the least -/
theorem mk_fst_lst {mt rg : Nat → Bool} {gr o r g : Nat} {x : Nat → Nat} {p : Nat → Bool} (hk : mj_okD D) (hp : ∀ s, s < 512 → (p s = true ↔ mj_mw D mt rg gr o r g x (mj_sb s))) : (∀ A, mj_mw D mt rg gr o r g x A → ∃ s, mk_lst D mt rg gr o r g x s ∧ mj_fst p 0 512 = nI s) ∧ ((∀ A, ¬ mj_mw D mt rg gr o r g x A) → mj_fst p 0 512 = -1) := by
  have N9 := hk.1
  constructor
  · intro A hA
    have eA := mk_sb_nb (A := A) (fun i hi => by have := (hA.1.1 i hi).1; omega)
    have s9 := mj_nb_lt (A := A) (n := 9)
    rw [← eA] at hA
    have pA := (hp _ s9).mpr hA
    rcases mj_fst_cases (p := p) 512 0 with z | ⟨k, -, k2, k3, k4, k5⟩
    · rw [z.2 _ (Nat.zero_le _) (by omega)] at pA
      exact absurd pA (by decide)
    · refine ⟨k, ⟨by omega, (hp k (by omega)).mp k3, fun s' hs' hm => ?_⟩, k4⟩
      have := (hp s' (by omega)).mpr hm
      rw [k5 s' (Nat.zero_le _) hs'] at this
      exact absurd this (by decide)
  · intro hn
    rcases mj_fst_cases (p := p) 512 0 with z | ⟨k, -, k2, k3, k4, k5⟩
    · exact z.1
    · exact absurd ((hp k (by omega)).mp k3) (hn _)
/-- the reference's first keeping, hour by hour -/
theorem mk_Mhr_D {o g : Nat} {mt : Int32} (hM : mk_isM μ D) (hk : mj_okD D) (ho : o < 8) : ∀ (j h : Nat) (l : Nat → Int32) (x : Nat → Nat) (s0 : Int32), h + j < 12 → mk_Lx D (mj_b mt) l x → mj_DW D (mj_b mt) (mj_b (μ.1 61 46)) 1 o mj_Qno (12 - h) g x → ∃ v, mk_pth D (mj_b mt) (mj_b (μ.1 61 46)) 1 o g (j + 1) h x v ∧ mj_Mhr μ (nI o) mt (D 14 14) (j + 1) h l s0 = nI v := by
  intro j
  induction j with
  | zero =>
    intro h l x s0 hh hL hW
    rw [show 12 - h = 11 - h + 1 by omega] at hW
    obtain ⟨A, hA⟩ := mj_mw_DW.mp hW
    obtain ⟨s, s1, s2⟩ := (mk_fst_lst hk (fun s hs => mk_pk_D (r := 11 - h) (g := g) hM hk ho (by omega) hL hs)).1 A hA
    exact ⟨s, ⟨s, s1, by rw [if_pos rfl]⟩, s2⟩
  | succ j ih =>
    intro h l x s0 hh hL hW
    rw [show 12 - h = 11 - h + 1 by omega] at hW
    obtain ⟨A, hA⟩ := mj_mw_DW.mp hW
    obtain ⟨s, s1, s2⟩ := (mk_fst_lst hk (fun s hs => mk_pk_D (r := 11 - h) (g := g) hM hk ho (by omega) hL hs)).1 A hA
    have hm := s1.2.1
    have e11 : 11 - (11 - h) = h := by omega
    have hg := (mk_gok_D hM hk hL s1.1 (show 11 - (11 - h) < 12 by omega) ho).mpr hm.1
    rw [e11] at hg
    have hL' := mk_nx_D (g := g) hM hk hL s1.1 (by omega) ho hg
    have hW' := hm.2 0 mj_newD_0
    rw [Nat.or_zero, show 11 - h = 12 - (h + 1) by omega] at hW'
    obtain ⟨v, v1, v2⟩ := ih (h + 1) _ _ (nI s) (by omega) hL' hW'
    refine ⟨v, ⟨s, s1, by rw [if_neg (Nat.succ_ne_zero j)]; exact v1⟩, ?_⟩
    show mj_Mhr μ (nI o) mt (D 14 14) (j + 1) (h + 1) (mj_nxd μ (nI h) (mj_fst (mj_pk μ (nI o) mt (D 14 14) (11 - h) l) 0 512) (nI o) mt l) (mj_fst (mj_pk μ (nI o) mt (D 14 14) (11 - h) l) 0 512) = nI v
    rw [s2]
    exact v2
theorem mk_mus_b {p : Nat → Bool} {b : Nat} (hb : b < 32) : ∀ (j s : Nat) (a : Int32), s + j ≤ 512 → (mj_b (mj_mus p s j a) b = true ↔ mj_b a b = true ∧ ∀ i, s ≤ i → i < s + j → p i = true → i.testBit b = true) := by
  intro j
  induction j with
  | zero => intro s a _; exact ⟨fun z => ⟨z, fun i a b => by omega⟩, fun z => z.1⟩
  | succ j ih =>
    intro s a hj
    show mj_b (mj_mus p (s + 1) j (if p s = true then a &&& nI s else a)) b = true ↔ _
    rw [ih _ _ (by omega)]
    by_cases c : p s = true
    · rw [if_pos c, mj_b_and, Bool.and_eq_true, mj_b_nI (by omega)]
      constructor
      · rintro ⟨⟨z1, z2⟩, z3⟩
        refine ⟨z1, fun i h1 h2 h3 => ?_⟩
        by_cases e : i = s
        · rw [e]; exact z2
        · exact z3 i (by omega) (by omega) h3
      · rintro ⟨z1, z2⟩
        exact ⟨⟨z1, z2 s (Nat.le_refl _) (by omega) c⟩, fun i h1 h2 h3 => z2 i (by omega) (by omega) h3⟩
    · rw [if_neg c]
      refine and_congr Iff.rfl ⟨fun z i h1 h2 h3 => ?_, fun z i h1 h2 h3 => z i (by omega) (by omega) h3⟩
      by_cases e : i = s
      · rw [e] at h3; exact absurd h3 c
      · exact z i (by omega) (by omega) h3
theorem mk_mus_D {mt rg : Nat → Bool} {gr o r g : Nat} {x : Nat → Nat} {p : Nat → Bool} {a : Int32} (hk : mj_okD D) (ha : ∀ b, b < 32 → (mj_b a b = true ↔ b < D 14 14)) (hp : ∀ s, s < 512 → (p s = true ↔ mj_mw D mt rg gr o r g x (mj_sb s))) : mk_mst D mt rg gr o r g x (mj_mus p 0 512 a) := by
  have N9 := hk.1
  intro b hb
  rw [mk_mus_b hb 512 0 a (by omega), ha b hb]
  refine and_congr Iff.rfl ⟨fun z A hA => ?_, fun z i _ h2 h3 => ?_⟩
  · have eA := mk_sb_nb (A := A) (fun i hi => by have := (hA.1.1 i hi).1; omega)
    have s9 := mj_nb_lt (A := A) (n := 9)
    rw [← eA] at hA
    have := z _ (Nat.zero_le _) (by omega) ((hp _ s9).mpr hA)
    have q := congrFun eA b
    unfold mj_sb at q
    rw [← q]
    exact this
  · exact z _ ((hp i (by omega)).mp h3)
/-- once the pinned hour is behind -/
theorem mk_DW_past {mt rg : Nat → Bool} {gr o i f : Nat} : ∀ (r g : Nat) (x : Nat → Nat), f < 12 - r → mj_DW D mt rg gr o mj_Qno r g x → mj_DW D mt rg gr o (mj_Qpn i f) r g x := by
  intro r
  induction r with
  | zero => intro g x _ _; trivial
  | succ r ih =>
    intro g x hf hW
    obtain ⟨A, a1, -, a3⟩ := hW
    exact ⟨A, a1, ⟨fun z => by omega, fun z => by omega⟩, fun u hu => ih _ _ (by omega) (a3 u hu)⟩
/-- a work done first in an hour, by the reference: told of the deal -/
theorem mk_Fi_D {o i f : Nat} {mt : Int32} (hM : mk_isM μ D) (hk : mj_okD D) (ho : o < 8) (hi : i < D 14 14) (hf : f < 12) : ∀ (r g : Nat) (l : Nat → Int32) (x : Nat → Nat), r ≤ 12 → 12 - r ≤ f → mk_Lx D (mj_b mt) l x → (mj_Fi μ (nI o) mt (D 14 14) i f r l = true ↔ mj_DW D (mj_b mt) (mj_b (μ.1 61 46)) 1 o (mj_Qpn i f) r g x) := by
  have N9 := hk.1
  intro r
  induction r with
  | zero => intro g l x _ h0 _; omega
  | succ r ih =>
    intro g l x hr hfr hL
    have hh : 11 - r < 12 := by omega
    rw [mj_Fi_s, mj_anyF_iff]
    have q : ∀ s, s < 512 → (decide (mj_b (nI s) i = decide (11 - r = f)) = true ↔ mj_Qpn i f (11 - r) (mj_sb s)) := fun s hs => by
      have e : mj_b (nI s) i = mj_sb s i := mj_b_nI (by omega)
      unfold mj_Qpn
      rw [decide_eq_true_eq, e]
      by_cases c : 11 - r = f
      · rw [decide_eq_true c]
        exact ⟨fun z => ⟨fun y => by omega, fun _ => z⟩, fun z => z.2 c⟩
      · rw [decide_eq_false c]
        exact ⟨fun z => ⟨fun _ => z, fun y => absurd y c⟩, fun z => z.1 (by omega)⟩
    have rest : ∀ s, s < 512 → mj_gok μ (nI (11 - r)) (nI o) mt (D 14 14) l s = true → ((if 11 - r = f then mj_Kp μ (nI o) mt (D 14 14) r (mj_nxd μ (nI (11 - r)) (nI s) (nI o) mt l) else mj_Fi μ (nI o) mt (D 14 14) i f r (mj_nxd μ (nI (11 - r)) (nI s) (nI o) mt l)) = true ↔ ∀ g', mj_DW D (mj_b mt) (mj_b (μ.1 61 46)) 1 o (mj_Qpn i f) r g' (mj_less x (mj_sb s))) := fun s hs hg => by
      have hL' := mk_nx_D (g := g) hM hk hL hs hh ho hg
      by_cases c : 11 - r = f
      · rw [if_pos c]
        constructor
        · intro z g'
          exact mk_DW_past _ _ _ (by omega) ((mk_Kp_D hM hk ho r g' _ _ (by omega) hL').mp z)
        · intro z
          exact (mk_Kp_D hM hk ho r g _ _ (by omega) hL').mpr (mj_DW_mono (fun _ _ _ => trivial) _ _ _ (z g))
      · rw [if_neg c]
        constructor
        · intro z g'
          exact (ih g' _ _ (by omega) (by omega) hL').mp z
        · intro z
          exact (ih g _ _ (by omega) (by omega) hL').mpr (z g)
    have any : ∀ (g g' : Nat) (r : Nat) (x : Nat → Nat), mj_DW D (mj_b mt) (mj_b (μ.1 61 46)) 1 o (mj_Qpn i f) r g x → mj_DW D (mj_b mt) (mj_b (μ.1 61 46)) 1 o (mj_Qpn i f) r g' x := by
      intro g g' r
      induction r generalizing g g' with
      | zero => intro x _; trivial
      | succ r ih2 =>
        intro x hW
        obtain ⟨A, a1, a2, a3⟩ := hW
        have P := fun g => mk_vok_P (D := D) (mt := mj_b mt) (rg := mj_b (μ.1 61 46)) (gr := 1) (o := o) (g := g) (h := 11 - r) (x := x) (A := A) (P := fun o' => o' = o) (fun i _ => by
          unfold mj_maV
          rw [if_pos rfl]
          exact ⟨fun z => ⟨o, rfl, z⟩, fun ⟨o', e, z⟩ => by rw [← e]; exact z⟩) ⟨o, rfl⟩
        have b1 := (P g).mp a1
        refine ⟨A, (P g').mpr ⟨fun i hi => ⟨(b1.1 i hi).1, ?_⟩, b1.2⟩, a2, fun u hu => ih2 _ _ _ (a3 u hu)⟩
        have := (b1.1 i hi).2
        unfold mj_opD mj_kaV at this ⊢
        rw [if_pos rfl] at this ⊢
        exact this
    constructor
    · rintro ⟨s, -, hs, hb⟩
      have hs' : s < 512 := by omega
      unfold mj_Fip at hb
      rw [Bool.and_eq_true, Bool.and_eq_true] at hb
      exact ⟨mj_sb s, (mk_gok_D hM hk hL hs' hh ho).mp hb.1, (q s hs').mp hb.2.1, fun u _ => (rest s hs' hb.1).mp hb.2.2 _⟩
    · rintro ⟨A, a1, a2, a3⟩
      have eA := mk_sb_nb (A := A) (fun i hi => by have := (a1.1 i hi).1; omega)
      rw [← eA] at a1 a2 a3
      have s9 := mj_nb_lt (A := A) (n := 9)
      have hg := (mk_gok_D hM hk hL s9 hh ho).mpr a1
      refine ⟨_, Nat.zero_le _, by omega, ?_⟩
      unfold mj_Fip
      rw [Bool.and_eq_true, Bool.and_eq_true]
      exact ⟨hg, (q _ s9).mpr a2, (rest _ s9 hg).mpr (fun g' => any _ _ _ _ (a3 0 mj_newD_0))⟩
end
