section
variable {σ τ π : mj_St} {D : Nat → Nat → Nat}
/-- a set as a number -/
def mj_nb (A : Nat → Bool) : Nat → Nat
  | 0 => 0
  | n + 1 => mj_nb A n ||| (if A n = true then 2 ^ n else 0)
theorem mj_nb_b {A : Nat → Bool} {i : Nat} : ∀ n, (mj_nb A n).testBit i = (decide (i < n) && A i) := by
  intro n
  induction n with
  | zero => rw [decide_eq_false (Nat.not_lt_zero i), Bool.false_and]; exact Nat.zero_testBit i
  | succ n ih =>
    show (mj_nb A n ||| (if A n = true then 2 ^ n else 0)).testBit i = _
    rw [Nat.testBit_or, ih]
    by_cases e : i = n
    · subst e
      rw [decide_eq_false (Nat.lt_irrefl i), decide_eq_true (Nat.lt_succ_self i), Bool.false_and, Bool.false_or, Bool.true_and]
      cases c : A i
      · rw [if_neg (by decide)]; exact Nat.zero_testBit i
      · rw [if_pos rfl, Nat.testBit_two_pow]; exact decide_eq_true rfl
    · have z : (if A n = true then 2 ^ n else 0).testBit i = false := by
        split
        · rw [Nat.testBit_two_pow]; exact decide_eq_false (by omega)
        · exact Nat.zero_testBit i
      rw [z, Bool.or_false, show decide (i < n + 1) = decide (i < n) from mj_dec (by omega)]
theorem mj_nb_lt {A : Nat → Bool} {n : Nat} : mj_nb A n < 2 ^ n := Nat.lt_pow_two_of_testBit _ (fun i hi => by
  rw [mj_nb_b, decide_eq_false (by omega), Bool.false_and])
def mj_sb (s : Nat) : Nat → Bool := fun i => s.testBit i
/-- a move by which the rest is won -/
def mj_mw (D : Nat → Nat → Nat) (mt rg : Nat → Bool) (gr o r g : Nat) (x : Nat → Nat) (A : Nat → Bool) : Prop := mj_vok D mt rg gr o g (11 - r) x A ∧ ∀ u, mj_newD D gr (12 - r) u → mj_DW D mt rg gr o mj_Qno r (g ||| u) (mj_less x A)
theorem mj_mw_DW {mt rg : Nat → Bool} {gr o r g : Nat} {x : Nat → Nat} : mj_DW D mt rg gr o mj_Qno (r + 1) g x ↔ ∃ A, mj_mw D mt rg gr o r g x A := by
  constructor
  · rintro ⟨A, a1, -, a3⟩
    exact ⟨A, a1, a3⟩
  · rintro ⟨A, a1, a3⟩
    exact ⟨A, a1, trivial, a3⟩
/-- the least set that wins -/
def mk_lst (D : Nat → Nat → Nat) (mt rg : Nat → Bool) (gr o r g : Nat) (x : Nat → Nat) (s : Nat) : Prop := s < 512 ∧ mj_mw D mt rg gr o r g x (mj_sb s) ∧ ∀ s', s' < s → ¬ mj_mw D mt rg gr o r g x (mj_sb s')
theorem mk_lst_u {mt rg : Nat → Bool} {gr o r g s s' : Nat} {x : Nat → Nat} (h : mk_lst D mt rg gr o r g x s) (h' : mk_lst D mt rg gr o r g x s') : s = s' := by
  rcases Nat.lt_trichotomy s s' with c | c | c
  · exact absurd h.2.1 (h'.2.2 s c)
  · exact c
  · exact absurd h'.2.1 (h.2.2 s' c)
/-- least sets, hour by hour: the last -/
def mk_pth (D : Nat → Nat → Nat) (mt rg : Nat → Bool) (gr o g : Nat) : Nat → Nat → (Nat → Nat) → Nat → Prop
  | 0, _, _, _ => False
  | j + 1, h, x, v => ∃ s, mk_lst D mt rg gr o (11 - h) g x s ∧ (if j = 0 then v = s else mk_pth D mt rg gr o g j (h + 1) (mj_less x (mj_sb s)) v)
theorem mk_pth_u {mt rg : Nat → Bool} {gr o g : Nat} : ∀ (j h : Nat) (x : Nat → Nat) (v v' : Nat), mk_pth D mt rg gr o g j h x v → mk_pth D mt rg gr o g j h x v' → v = v' := by
  intro j
  induction j with
  | zero => intro h x v v' a _; exact a.elim
  | succ j ih =>
    intro h x v v' a b
    obtain ⟨s, s1, s2⟩ := a
    obtain ⟨t, t1, t2⟩ := b
    have e := mk_lst_u s1 t1
    subst e
    by_cases c : j = 0
    · rw [if_pos c] at s2 t2
      rw [s2, t2]
    · rw [if_neg c] at s2 t2
      exact ih _ _ _ _ s2 t2
/-- a search that is ready, no hour pinned -/
def mj_Sr (π : mj_St) (D : Nat → Nat → Nat) (mt rg : Nat → Bool) (gr o sg : Nat) (L : List Nat) : Prop := mj_Env π D mt rg gr o sg L (fun _ _ => false) ∧ mj_nl D mt ∧ (∀ h, mj_pin π h = 0) ∧ ∃ R, mj_TH π L.length (D 14 17) gr (fun p => D 25 (L.getD p 0)) (fun p => D 17 (L.getD p 0)) R
theorem mj_Sr_Q {mt rg : Nat → Bool} {gr o sg : Nat} {L : List Nat} (h : mj_Sr π D mt rg gr o sg L) : mj_Qok π D L (fun _ _ => false) mj_Qno := fun t k _ _ _ _ => ⟨fun _ => trivial, fun _ => ⟨fun _ _ _ => rfl, fun p _ z => by
  rw [h.2.2.1, mj_b_0] at z
  exact absurd z (by decide)⟩⟩
theorem mj_Sr_p {mt rg : Nat → Bool} {gr o sg : Nat} {L : List Nat} (h : mj_Sr π D mt rg gr o sg L) : ∀ t p, p < 32 → 6 ≤ p → mj_b (mj_pin π t) p = false := fun t p _ _ => by rw [h.2.2.1]; exact mj_b_0
def mj_Cn (π : mj_St) (D : Nat → Nat → Nat) (L : List Nat) (h g s : Nat) : Prop := mj_Cns π L.length (fun p => D 25 (L.getD p 0)) (fun p => D 17 (L.getD p 0)) h g s
/-- what follows a move of a search -/
theorem mj_Sr_fl {mt rg : Nat → Bool} {gr o sg r g s k : Nat} {L : List Nat} {x : Nat → Nat} (hS : mj_Sr π D mt rg gr o sg L) (hR : mj_Rel D mt L sg g s x) (hC : mj_Cn π D L (11 - r) g s) (hr : r + 1 ≤ 12 - D 14 17) (hg : g < gr) (hk : k < 22) (ho : mj_okm π L.length g (11 - r) s k) :
    mj_fl π (mj_W π L.length r) r g (s - mj_tK k) = true ↔ ∀ u, mj_newD D gr (12 - r) u → mj_DW D mt rg gr o mj_Qno r (g ||| u) (mj_less x (mj_igm L k)) := by
  have hQ := mj_Sr_Q hS
  have hp := mj_Sr_p hS
  obtain ⟨hE, hl, -, R, hT⟩ := hS
  have hSch := hE.1
  have hB := hE.2.1
  have hw : D 14 17 ≤ 11 - r := by omega
  have e12 : 12 - r = 11 - r + 1 := by omega
  have e : mj_fl π (mj_W π L.length r) r g (s - mj_tK k) = mj_fl π (mj_W0 π L.length r) r g (s - mj_tK k) := by
    refine mj_fl_congr (n := L.length) (fun u hu => ?_)
    by_cases r0 : r = 0
    · subst r0; rfl
    · rw [e12] at hu
      refine mj_W_eq hT r (g ||| u) _ (by omega) ?_ ?_
      · exact (hT.2.2.1 g u (11 - r) hg (by omega) (by omega) (hu (by omega))).1
      · rw [e12]
        exact mj_Cns_nx hT hC hk hg (by omega) (by omega) ho hu
  rw [e, mj_fl_iff]
  by_cases r0 : r = 0
  · subst r0
    exact ⟨fun _ _ _ => trivial, fun _ => Or.inl rfl⟩
  · have ht : D 14 17 ≤ 12 - r := by omega
    have ht2 : 12 - r < 12 := by omega
    have one : ∀ u, mj_nws π g (12 - r) u → (mj_W0 π L.length r (g ||| u) (s - mj_tK k) = true ↔ mj_DW D mt rg gr o mj_Qno r (g ||| u) (mj_less x (mj_igm L k))) := fun u hu => by
      obtain ⟨u1, u2, u3⟩ := mj_nws_u hSch hB hg ht ht2 hu
      exact mj_W0_D hE hl hQ hp r _ _ _ (by omega) (mj_or_gr hSch.2.2.1 hg u1 u2) (mj_Rel_nx hE hR hk ho hw (fun f hf => by rw [← e12]; exact u3 f hf))
    constructor
    · intro z u hu
      rcases z with z | z
      · exact absurd z r0
      · have hu' := (mj_nws_new hSch hB hg ht ht2).mpr hu
        exact (one u hu').mp (z u hu')
    · intro z
      refine Or.inr (fun u hu => ?_)
      exact (one u hu).mpr (z u ((mj_nws_new hSch hB hg ht ht2).mp hu))
/-- a choice of the class's, told of the deal -/
theorem mj_cho3_D {mt rg : Nat → Bool} {gr o sg r g s k : Nat} {L : List Nat} {x : Nat → Nat} (hS : mj_Sr π D mt rg gr o sg L) (hR : mj_Rel D mt L sg g s x) (hC : mj_Cn π D L (11 - r) g s) (hr : r + 1 ≤ 12 - D 14 17) (hg : g < gr) (hk : k < 22) :
    (¬ mj_mvs π g (11 - r) s L.length = -1 ∧ mj_cho3 π L.length r g s (mj_mvs π g (11 - r) s L.length) k = true) ↔ ((∀ p, p < 6 → (mj_sK k).testBit p = true → p < L.length) ∧ mj_mw D mt rg gr o r g x (mj_igm L k)) := by
  have hQ := mj_Sr_Q hS
  have hp := mj_Sr_p hS
  have hfl := fun ho => mj_Sr_fl hS hR hC hr hg hk ho
  obtain ⟨hE, hl, -, R, hT⟩ := hS
  have n6 := hT.1
  have hw : D 14 17 ≤ 11 - r := by omega
  have hh : 11 - r < 12 := by omega
  have mvq := mj_mvQ (k := k) hE hR hl hQ hg hw hh hk
  unfold mj_cho3
  rw [Bool.and_eq_true]
  constructor
  · rintro ⟨a, b, c⟩
    have e := mj_mvs_hrm (mj_mvs_ne a).1
    rw [e] at a b
    have ho := (mj_okm_iff n6 hk (hp (11 - r))).mp ⟨a, b⟩
    obtain ⟨m1, m2, -⟩ := mvq.mp ho
    exact ⟨m1, m2, (hfl ho).mp c⟩
  · rintro ⟨m1, m2, m3⟩
    have ho := mvq.mpr ⟨m1, m2, trivial⟩
    have hW : mj_W0 π L.length (r + 1) g s = true := (mj_W0_D hE hl hQ hp (r + 1) g s x hr hg hR).mpr ⟨_, m2, trivial, m3⟩
    have e := mj_mvs_hrm (mj_W0_room hT hg hr hC hW)
    obtain ⟨i1, i2⟩ := (mj_okm_iff n6 hk (hp (11 - r))).mpr ho
    rw [e]
    exact ⟨i1, i2, (hfl ho).mpr m3⟩
theorem mk_tb_lt : ∀ (i x y : Nat), x.testBit i = false → y.testBit i = true → (∀ j, i < j → x.testBit j = y.testBit j) → x < y := by
  intro i
  induction i with
  | zero =>
    intro x y hx hy h
    have e : x / 2 = y / 2 := Nat.eq_of_testBit_eq (fun j => by
      rw [← Nat.testBit_succ, ← Nat.testBit_succ]
      exact h (j + 1) (by omega))
    rw [Nat.testBit_zero] at hx hy
    have hx := of_decide_eq_false hx
    have hy := of_decide_eq_true hy
    omega
  | succ i ih =>
    intro x y hx hy h
    rw [Nat.testBit_succ] at hx hy
    have := ih (x / 2) (y / 2) hx hy (fun j hj => by
      rw [← Nat.testBit_succ, ← Nat.testBit_succ]
      exact h (j + 1) (by omega))
    omega
theorem mj_sK_hb : ∀ k, k < 22 → ∀ k', k' < 22 → (decide (k' ≤ k) || mj_anyF (fun p => !((mj_sK k).testBit p) && ((mj_sK k').testBit p && !(mj_anyF (fun j => decide (p < j) && !((mj_sK k).testBit j == (mj_sK k').testBit j)) 0 6))) 0 6) = true := by decide +kernel
theorem mj_igm_9 {mt : Nat → Bool} {gr o sg k i : Nat} {L : List Nat} (h : mj_Sch π D mt gr o sg L) (hi : mj_igm L k i = true) : i < 9 := by
  obtain ⟨p, hp, -, e⟩ := mj_igm_i.mp hi
  have := (mj_Sch_pl h hp).1
  have := h.2.1.1
  omega
theorem mj_sb_nb {mt : Nat → Bool} {gr o sg k : Nat} {L : List Nat} (h : mj_Sch π D mt gr o sg L) : mj_sb (mj_nb (mj_igm L k) 9) = mj_igm L k := by
  funext i
  unfold mj_sb
  rw [mj_nb_b]
  cases z : mj_igm L k i
  · rw [Bool.and_false]
  · rw [decide_eq_true (mj_igm_9 h z)]; rfl
/-- the larger choice is the larger set -/
theorem mj_nb_ord {mt : Nat → Bool} {gr o sg k k' : Nat} {L : List Nat} (h : mj_Sch π D mt gr o sg L) (hk : k < 22) (hk' : k' < 22) (hp' : ∀ p, p < 6 → (mj_sK k').testBit p = true → p < L.length) (hp : ∀ p, p < 6 → (mj_sK k).testBit p = true → p < L.length) (hkk : k < k') : mj_nb (mj_igm L k) 9 < mj_nb (mj_igm L k') 9 := by
  have hb := mj_sK_hb k hk k' hk'
  rw [decide_eq_false (by omega), Bool.false_or] at hb
  obtain ⟨p, -, p6, hb⟩ := (mj_anyF_iff _ _).mp hb
  rw [Bool.and_eq_true, Bool.and_eq_true, Bool.not_eq_true', Bool.not_eq_true'] at hb
  obtain ⟨b1, b2, b3⟩ := hb
  have pn := hp' p (by omega) b2
  have l9 := (mj_Sch_pl h pn).1
  have k9 := h.2.1.1
  have n6 := mj_Sch_len h
  have up : ∀ q, p < q → q < 6 → (mj_sK k).testBit q = (mj_sK k').testBit q := fun q a b => by
    cases z : ((mj_sK k).testBit q == (mj_sK k').testBit q)
    · have : mj_anyF (fun j => decide (p < j) && !((mj_sK k).testBit j == (mj_sK k').testBit j)) 0 6 = true := (mj_anyF_iff _ _).mpr ⟨q, by omega, by omega, by rw [z, decide_eq_true a]; rfl⟩
      rw [this] at b3
      exact absurd b3 (by decide)
    · exact eq_of_beq z
  have ab : ∀ j, L.getD p 0 < j → mj_igm L k j = mj_igm L k' j := fun j hj => by
    have one : ∀ a b, (∀ q, p < q → q < 6 → (mj_sK a).testBit q = true → (mj_sK b).testBit q = true) → mj_igm L a j = true → mj_igm L b j = true := fun a b hab z => by
      obtain ⟨q, q1, q2, q3⟩ := mj_igm_i.mp z
      have : p < q := by
        rcases Nat.lt_trichotomy p q with c | c | c
        · exact c
        · rw [← c] at q3; omega
        · have := mj_L_lt h c pn
          omega
      exact mj_igm_i.mpr ⟨q, q1, hab q this (by omega) q2, q3⟩
    cases z : mj_igm L k j
    · cases y : mj_igm L k' j
      · rfl
      · rw [one k' k (fun q a b c => by rw [up q a b]; exact c) y] at z
        exact absurd z (by decide)
    · exact (one k k' (fun q a b c => by rw [← up q a b]; exact c) z).symm
  refine mk_tb_lt (L.getD p 0) _ _ ?_ ?_ (fun j hj => ?_)
  · rw [mj_nb_b, mj_igm_p h pn, b1, Bool.and_false]
  · rw [mj_nb_b, mj_igm_p h pn, b2, decide_eq_true (by omega)]
    rfl
  · rw [mj_nb_b, mj_nb_b, ab j hj]
/-- the first choice is the least set -/
theorem mk_nxc_lst {mt rg : Nat → Bool} {gr o sg r g s : Nat} {L : List Nat} {x : Nat → Nat} (hS : mj_Sr π D mt rg gr o sg L) (hR : mj_Rel D mt L sg g s x) (hC : mj_Cn π D L (11 - r) g s) (hr : r + 1 ≤ 12 - D 14 17) (hg : g < gr) (hW : mj_DW D mt rg gr o mj_Qno (r + 1) g x) :
    ∃ k, k < 22 ∧ mj_nxc π L.length r g s 0 = nI k ∧ mj_okm π L.length g (11 - r) s k ∧ mj_mw D mt rg gr o r g x (mj_igm L k) ∧ mk_lst D mt rg gr o r g x (mj_nb (mj_igm L k) 9) := by
  have hSch := hS.1.1
  have hl := hS.2.1
  have hQ := mj_Sr_Q hS
  have n6 := mj_Sch_len hSch
  have hw : D 14 17 ≤ 11 - r := by omega
  have hh : 11 - r < 12 := by omega
  have top := mj_top_lt n6
  have any : ∀ A, mj_mw D mt rg gr o r g x A → ∃ k, k < 22 ∧ k ≤ mj_top L.length ∧ (∀ p, p < 6 → (mj_sK k).testBit p = true → p < L.length) ∧ A = mj_igm L k ∧ ¬ mj_mvs π g (11 - r) s L.length = -1 ∧ mj_cho3 π L.length r g s (mj_mvs π g (11 - r) s L.length) k = true := fun A hA => by
    obtain ⟨k, ht, hk, hp, e⟩ := mj_vok_k hSch hR hl hw hh hA.1
    rw [e] at hA
    obtain ⟨c1, c2⟩ := (mj_cho3_D hS hR hC hr hg hk).mpr ⟨hp, hA⟩
    exact ⟨k, hk, ht, hp, e, c1, c2⟩
  obtain ⟨A, hA⟩ := mj_mw_DW.mp hW
  obtain ⟨k0, k01, k02, -, -, hv, k03⟩ := any A hA
  unfold mj_nxc
  rw [if_neg hv, Nat.sub_zero]
  rcases mj_fst_cases (p := mj_cho3 π L.length r g s (mj_mvs π g (11 - r) s L.length)) (mj_top L.length + 1) 0 with z | ⟨k, -, k2, k3, k4, k5⟩
  · have := z.2 k0 (Nat.zero_le _) (by omega)
    rw [this] at k03
    exact absurd k03 (by decide)
  · have hk22 : k < 22 := by omega
    obtain ⟨m1, m2⟩ := (mj_cho3_D hS hR hC hr hg hk22).mp ⟨hv, k3⟩
    refine ⟨k, hk22, k4, (mj_mvQ hS.1 hR hl hQ hg hw hh hk22).mpr ⟨m1, m2.1, trivial⟩, m2, mj_nb_lt (n := 9), ?_, fun s' hs' hm => ?_⟩
    · rw [mj_sb_nb hSch]
      exact m2
    · obtain ⟨k', a1, a2, a3, a4, -, a6⟩ := any _ hm
      have es : s' = mj_nb (mj_igm L k') 9 := by
        apply Nat.eq_of_testBit_eq
        intro i
        have := congrFun a4 i
        unfold mj_sb at this
        rw [this, mj_nb_b]
        cases z : mj_igm L k' i
        · rw [Bool.and_false]
        · rw [decide_eq_true (mj_igm_9 hSch z)]; rfl
      rcases Nat.lt_trichotomy k k' with c | c | c
      · have := mj_nb_ord hSch hk22 a1 a3 m1 c
        omega
      · rw [← c] at es
        omega
      · rw [k5 k' (Nat.zero_le _) c] at a6
        exact absurd a6 (by decide)
/-- the promises of a set of places -/
theorem mj_pof_b {mt : Nat → Bool} {gr o sg b : Nat} {L : List Nat} {x : Int32} (h : mj_Sch π D mt gr o sg L) (hb : b < 32) : ∀ m, m ≤ L.length → mj_b (mj_pof π x m) b = mj_anyF (fun p => mj_b x p && decide (L.getD p 0 = b)) 0 m := by
  intro m
  induction m with
  | zero => intro _; exact mj_b_0
  | succ m ih =>
    intro hm
    have e47 := h.2.2.2.2.2.2.2.2.2.1 m (by omega)
    have l9 := (mj_Sch_pl h (show m < L.length by omega)).1
    have k9 := h.2.1.1
    have ih' := ih (by omega)
    unfold mj_pof at ih' ⊢
    rw [mj_it_s, mj_b_or, ih', mj_anyS, Nat.zero_add]
    congr 1
    cases c : mj_b x m
    · rw [if_neg (by decide), mj_b_0, Bool.false_and]
    · rw [if_pos rfl, e47, mj_b_sh1 (by omega) hb, Bool.true_and]
      exact mj_dec ⟨fun z => z.symm, fun z => z.symm⟩
theorem mj_pof_nb {mt : Nat → Bool} {gr o sg k : Nat} {L : List Nat} (h : mj_Sch π D mt gr o sg L) (hk : k < 22) : mj_pof π (nI (mj_sK k)) L.length = nI (mj_nb (mj_igm L k) 9) := by
  have s64 := mj_sK_lt k hk
  have lt := mj_nb_lt (A := mj_igm L k) (n := 9)
  apply mj_b_ext
  intro b hb
  rw [mj_pof_b h hb _ (Nat.le_refl _), mj_b_nI (by omega), mj_nb_b]
  have e : mj_anyF (fun p => mj_b (nI (mj_sK k)) p && decide (L.getD p 0 = b)) 0 L.length = mj_igm L k b := by
    unfold mj_igm
    refine mj_anyF_congr _ _ (fun p _ _ => ?_)
    rw [mj_b_nI (by omega)]
  rw [e]
  cases z : mj_igm L k b
  · rw [Bool.and_false]
  · rw [decide_eq_true (mj_igm_9 h z)]; rfl
end
