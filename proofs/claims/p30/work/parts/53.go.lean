/-! ONE STEP OF THE LAW ALONG A ROUTE -/
section GO
variable {X : Nat → Int32} {N K n : Nat} {S : List Nat} {t o : Nat}
/-- what a cell that is no wire, or was gone along, adds: nothing -/
theorem vic_same (h : t ∈ S ∨ ∀ k, k < N → X (7 + t) ≠ nI k) : bset (vicE eC X (S ++ [t])) N = bset (vicE eC X S) N := bset_cg (fun k hk => by
  rcases h with h | h
  · unfold vicE
    rw [decide_eq_decide]
    constructor
    · rintro ⟨a, ha, e⟩
      rcases List.mem_append.mp ha with ha | ha
      · exact ⟨a, ha, e⟩
      · rw [List.mem_singleton.mp ha] at e
        exact ⟨t, h, e⟩
    · rintro ⟨a, ha, e⟩
      exact ⟨a, List.mem_append_left _ ha, e⟩
  · exact vic_n (h k hk))
theorem pri_same (h : t ∈ S ∨ ∀ k, k < N → X (7 + t) ≠ nI k) : priE eC X N (S ++ [t]) = priE eC X N S := sumN_cg (fun k hk => by
  unfold dueE
  rw [thr_n (h.imp id (fun q => q k hk))])
theorem vic_hit (hN : N ≤ 6) (ho : o < N) (h : X (7 + t) = nI o) : bset (vicE eC X S) N ||| 2 ^ o = bset (vicE eC X (S ++ [t])) N := bset_add ho (by
  unfold vicE
  exact decide_eq_true ⟨t, List.mem_append_right _ List.mem_cons_self, h⟩) (fun j hj hne => vic_n (fun e => by
  have e : X (7 + t) = nI j := e
  rw [h] at e
  exact hne ((nI_eq (by omega) (by omega)).mp e).symm))
theorem pri_hit (hN : N ≤ 6) (ht : t < 162) (ho : o < N) (hm : t ∉ S) (h : X (7 + t) = nI o) : priE eC X N S + (prX X + stX X o) = priE eC X N (S ++ [t]) := (sumN_upd (f := dueE eC X S) (g := dueE eC X (S ++ [t])) (k := o) (w := prX X + stX X o) ho (by
  unfold dueE
  rw [thr_s ht hm h, Nat.add_mul, Nat.one_mul]) (fun j hj hne => by
  unfold dueE
  rw [thr_n (Or.inr (fun e => by
    have e : X (7 + t) = nI j := e
    rw [h] at e
    exact hne ((nI_eq (by omega) (by omega)).mp e).symm))])).symm
/-- a neighbour is behind a via or a step -/
theorem nb_via {k c t vc : Nat} (hc : c < 162) (hk : k < 3) (h : nb k c = some t) : (t % 81 = c % 81 ∧ ¬ t / 81 = c / 81 ∧ mv vc k c = vc) ∨ (¬ t % 81 = c % 81 ∧ t / 81 = c / 81 ∧ mv vc k c = 1 ∧ ((c < 81 ∧ t / 9 = c / 9 ∧ t = c + 1) ∨ (c < 81 ∧ t / 9 = c / 9 ∧ c = t + 1) ∨ (81 ≤ c ∧ t = c + 9) ∨ (81 ≤ c ∧ c = t + 9))) := by
  unfold nb at h
  unfold mv
  by_cases h1 : c < 81
  · rw [if_pos h1] at h
    by_cases k0 : k = 0
    · rw [if_pos k0] at h
      split at h
      · have := Option.some.inj h
        right
        refine ⟨by omega, by omega, by rw [if_neg (by omega)], Or.inr (Or.inl ⟨h1, by omega, by omega⟩)⟩
      · cases h
    · rw [if_neg k0] at h
      by_cases k1 : k = 1
      · rw [if_pos k1] at h
        split at h
        · have := Option.some.inj h
          right
          refine ⟨by omega, by omega, by rw [if_neg (by omega)], Or.inl ⟨h1, by omega, by omega⟩⟩
        · cases h
      · rw [if_neg k1] at h
        have := Option.some.inj h
        left
        exact ⟨by omega, by omega, by rw [if_pos (by omega)]⟩
  · rw [if_neg h1] at h
    by_cases k0 : k = 0
    · rw [if_pos k0] at h
      have := Option.some.inj h
      left
      exact ⟨by omega, by omega, by rw [if_pos (by omega)]⟩
    · rw [if_neg k0] at h
      by_cases k1 : k = 1
      · rw [if_pos k1] at h
        split at h
        · have := Option.some.inj h
          right
          refine ⟨by omega, by omega, by rw [if_neg (by omega)], Or.inr (Or.inr (Or.inr ⟨by omega, by omega⟩))⟩
        · cases h
      · rw [if_neg k1] at h
        split at h
        · have := Option.some.inj h
          right
          refine ⟨by omega, by omega, by rw [if_neg (by omega)], Or.inr (Or.inr (Or.inl ⟨by omega, by omega⟩))⟩
        · cases h
theorem sub_ne {a b k : Nat} (ha : a < 162) (hb : b < 162) (hk : k < 162) (h : a < b) : ¬ nI a - nI b = nI k := fun e => by
  have := pk_sneg (a := a) (b := b) (by omega) h
  rw [e] at this
  exact nI_pos (by omega) this
theorem atL_mid {a b : List Nat} {c : Nat} : atL (a ++ c :: b) a.length = nI c := by
  unfold atL
  rw [if_pos (by simp)]
  simp
theorem atL_end {a : List Nat} : atL a a.length = -1000004 := if_neg (Nat.lt_irrefl _)
/-- a cell of the route, asked for -/
theorem ra_ok {z b j : Nat} {l1 l2 : List Nat} {r : Int32} (hN : N ≤ 6) (hn : n < N) (hb : b < 2) (hj : j < 2 ^ 31) (hj0 : X (169 + 9 * n + 5) = 0) (hrt : rtX eC X N n (decide (b = 1)) = some (z, l1, l2)) (h : (nI j < 0 ∧ r = -1000001) ∨ ∃ i, i < 2 ^ 31 ∧ nI j = nI i ∧ rtQ eC X N (nI n) (nI b) (fun _ L => atL L i) r) : r = atL (l1 ++ l2) j := by
  rcases h with ⟨e, -⟩ | ⟨i, h1, h2, h3⟩
  · exact absurd e (nI_pos hj)
  · have e := (nI_eq hj h1).mp h2
    subst e
    rcases rt_at hN hn hb h3 with ⟨e, -⟩ | ⟨-, ⟨e, -⟩ | ⟨z', a, c, e, e2⟩⟩
    · exact absurd hj0 e
    · rw [hrt] at e; cases e
    · rw [hrt] at e
      cases e
      exact e2
theorem rt_ok {z b : Nat} {l1 l2 : List Nat} {r : Int32} {f : Nat → List Nat → Int32} (hN : N ≤ 6) (hn : n < N) (hb : b < 2) (hj0 : X (169 + 9 * n + 5) = 0) (hrt : rtX eC X N n (decide (b = 1)) = some (z, l1, l2)) (h : rtQ eC X N (nI n) (nI b) f r) : r = f z (l1 ++ l2) := by
  rcases rt_at hN hn hb h with ⟨e, -⟩ | ⟨-, ⟨e, -⟩ | ⟨z', a, c, e, e2⟩⟩
  · exact absurd hj0 e
  · rw [hrt] at e; cases e
  · rw [hrt] at e
    cases e
    exact e2
theorem vicE_lt {L : List Nat} (hN : N ≤ 6) : bset (vicE eC X L) N < 64 := bset_64 _ hN
end GO
/-! marks -/
section MARKS
variable {m m2 : Nat → Nat} {J : Nat → Bool} {pre l : List Nat} {c : Nat}
/-- 1: joined; 2: on the way -/
def MkI (m : Nat → Nat) (J : Nat → Bool) (pre : List Nat) : Prop := (∀ x, m x ≤ 2) ∧ ∀ x, x < 162 → (m x = 1 ↔ J x = true) ∧ (m x = 2 ↔ x ∈ pre)
theorem MkI_go (h : MkI m J pre) (hc : c < 162) (hJ : J c = false) : MkI (updN m c 2) J (pre ++ [c]) := by
  refine ⟨updN_le h.1 (by decide), fun x hx => ?_⟩
  unfold updN
  by_cases e : x = c
  · subst e
    rw [if_pos rfl]
    exact ⟨⟨fun q => (by cases q), fun q => (by rw [hJ] at q; cases q)⟩, ⟨fun _ => List.mem_append_right _ List.mem_cons_self, fun _ => rfl⟩⟩
  · rw [if_neg e]
    refine ⟨(h.2 x hx).1, (h.2 x hx).2.trans ⟨fun q => List.mem_append_left _ q, fun q => ?_⟩⟩
    rcases List.mem_append.mp q with q | q
    · exact q
    · exact absurd (List.mem_singleton.mp q) e
/-- the marks of the way become marks of what is joined -/
def Mk12 (m0 m : Nat → Nat) (a : Nat) : Prop := (∀ x, m x ≤ 2) ∧ ∀ x, x < 162 → (x < a → (m x = 1 ↔ m0 x ≠ 0) ∧ m x ≠ 2) ∧ (a ≤ x → m x = m0 x)
theorem Mk12_0 (h : ∀ x, m x ≤ 2) : Mk12 m m 0 := ⟨h, fun _ _ => ⟨fun q => absurd q (Nat.not_lt_zero _), fun _ => rfl⟩⟩
theorem Mk12_s {m0 : Nat → Nat} {a h : Nat} (hm : Mk12 m0 m a) (ha : a < 162) (h1 : h = if m a = 2 then 1 else m a) : Mk12 m0 (updN m a h) (a + 1) := by
  have h2 := hm.1 a
  have h3 := (hm.2 a ha).2 (Nat.le_refl a)
  refine ⟨updN_le hm.1 (by rw [h1]; split <;> omega), fun x hx => ?_⟩
  unfold updN
  by_cases e : x = a
  · subst e
    rw [if_pos rfl]
    refine ⟨fun _ => ?_, fun q => absurd q (by omega)⟩
    rw [← h3, h1]
    split <;> omega
  · rw [if_neg e]
    exact ⟨fun q => (hm.2 x hx).1 (by omega), fun q => (hm.2 x hx).2 (by omega)⟩
/-- both layers of the pins that are joined -/
def MkP (X : Nat → Int32) (n : Nat) (m1 m : Nat → Nat) (j : Nat) : Prop := (∀ x, m x ≤ 2) ∧ ∀ x, x < 162 → (m x = 1 ↔ m1 x = 1 ∨ ∃ i, i < j ∧ ∃ q, q < 81 ∧ fNet eC X n i = nI q ∧ x % 81 = q ∧ (m1 q = 1 ∨ m1 (81 + q) = 1)) ∧ m x ≠ 2
theorem MkP_0 {X : Nat → Int32} {n : Nat} {m1 : Nat → Nat} (h : ∀ x, m1 x ≤ 2) (h2 : ∀ x, x < 162 → m1 x ≠ 2) : MkP X n m1 m1 0 := ⟨h, fun x hx => ⟨⟨Or.inl, fun q => q.elim id (fun ⟨_, q, _⟩ => absurd q (Nat.not_lt_zero _))⟩, h2 x hx⟩⟩
theorem MkP_no {X : Nat → Int32} {n j : Nat} {m1 : Nat → Nat} (h : MkP X n m1 m j) (hp : ∀ q, q < 81 → fNet eC X n j = nI q → ¬ (m1 q = 1 ∨ m1 (81 + q) = 1)) : MkP X n m1 m (j + 1) := ⟨h.1, fun x hx => ⟨(h.2 x hx).1.trans (by
  refine or_congr_right ⟨fun ⟨i, hi, q⟩ => ⟨i, by omega, q⟩, fun ⟨i, hi, q, h1, h2, h3, h4⟩ => ?_⟩
  by_cases e : i = j
  · subst e
    exact absurd h4 (hp q h1 h2)
  · exact ⟨i, by omega, q, h1, h2, h3, h4⟩), (h.2 x hx).2⟩⟩
theorem MkP_at {X : Nat → Int32} {n j q : Nat} {m1 : Nat → Nat} (h : MkP X n m1 m j) (hq : q < 81) : (m q = 1 ∨ m (81 + q) = 1) ↔ (m1 q = 1 ∨ m1 (81 + q) = 1) := by
  rw [(h.2 q (by omega)).1, (h.2 (81 + q) (by omega)).1]
  constructor
  · rintro ((h1 | ⟨i, hi, q', h1, h2, h3, h4⟩) | (h1 | ⟨i, hi, q', h1, h2, h3, h4⟩))
    · exact Or.inl h1
    · obtain rfl : q = q' := by omega
      exact h4
    · exact Or.inr h1
    · obtain rfl : q = q' := by omega
      exact h4
  · rintro (h1 | h1)
    · exact Or.inl (Or.inl h1)
    · exact Or.inr (Or.inl h1)
theorem MkP_yes {X : Nat → Int32} {n j q : Nat} {m1 : Nat → Nat} (h : MkP X n m1 m j) (hq : q < 81) (hp : fNet eC X n j = nI q) (h1 : m1 q = 1 ∨ m1 (81 + q) = 1) : MkP X n m1 (updN (updN m q 1) (81 + q) 1) (j + 1) := by
  refine ⟨updN_le (updN_le h.1 (by decide)) (by decide), fun x hx => ?_⟩
  unfold updN
  by_cases e : x = 81 + q
  · rw [if_pos e]
    exact ⟨⟨fun _ => Or.inr ⟨j, Nat.lt_succ_self j, q, hq, hp, by omega, h1⟩, fun _ => rfl⟩, by decide⟩
  · rw [if_neg e]
    by_cases e2 : x = q
    · rw [if_pos e2]
      exact ⟨⟨fun _ => Or.inr ⟨j, Nat.lt_succ_self j, q, hq, hp, by omega, h1⟩, fun _ => rfl⟩, by decide⟩
    · rw [if_neg e2]
      refine ⟨(h.2 x hx).1.trans (or_congr_right ⟨fun ⟨i, hi, z⟩ => ⟨i, by omega, z⟩, fun ⟨i, hi, q', a1, a2, a3, a4⟩ => ?_⟩), (h.2 x hx).2⟩
      by_cases e3 : i = j
      · subst e3
        rw [hp] at a2
        have := (nI_eq (by omega) (by omega)).mp a2
        omega
      · exact ⟨i, by omega, q', a1, a2, a3, a4⟩
/-- what is joined behind a stage, as the law marks it -/
def JN (X : Nat → Int32) (n : Nat) (J : Nat → Bool) (l : List Nat) (x : Nat) : Prop := (J x = true ∨ x ∈ l) ∨ ∃ i, i < 3 ∧ ∃ q, q < 81 ∧ fNet eC X n i = nI q ∧ x % 81 = q ∧ ((J q = true ∨ q ∈ l) ∨ (J (81 + q) = true ∨ 81 + q ∈ l))
theorem MkP_JN {X : Nat → Int32} {n : Nat} {m0 m1 : Nat → Nat} (h0 : MkI m0 J pre) (h1 : Mk12 m0 m1 162) (h2 : MkP X n m1 m 3) (hl : ∀ x, (J x = true ∨ x ∈ pre) ↔ (J x = true ∨ x ∈ l)) : (∀ x, m x ≤ 2) ∧ ∀ x, x < 162 → (m x = 1 ↔ JN X n J l x) ∧ m x ≠ 2 := by
  have key : ∀ x, x < 162 → (m1 x = 1 ↔ (J x = true ∨ x ∈ l)) := fun x hx => by
    rw [((h1.2 x hx).1 hx).1, ← hl, ← (h0.2 x hx).1, ← (h0.2 x hx).2]
    have := h0.1 x
    omega
  refine ⟨h2.1, fun x hx => ⟨(h2.2 x hx).1.trans ?_, (h2.2 x hx).2⟩⟩
  unfold JN
  rw [key x hx]
  refine or_congr_right ⟨?_, ?_⟩
  · rintro ⟨i, hi, q, a1, a2, a3, a4⟩
    rw [key q (by omega), key (81 + q) (by omega)] at a4
    exact ⟨i, hi, q, a1, a2, a3, a4⟩
  · rintro ⟨i, hi, q, a1, a2, a3, a4⟩
    rw [← key q (by omega), ← key (81 + q) (by omega)] at a4
    exact ⟨i, hi, q, a1, a2, a3, a4⟩
/-- the same set as the class joins -/
theorem JN_joinL {X : Nat → Int32} {N K n : Nat} (hG : GdX eC X N K) (hPin : PinV eC X N) (hn : n < N) (hl : ∀ a, a ∈ l → a < 162) {x : Nat} (hx : x < 162) : JN X n (jn0 (p0X X n)) l x ↔ joinL X (nI (10 + n)) (jn0 (p0X X n)) l x = true := by
  have hg := hG.net hn
  have hN := hG.2.1
  have hpair := hg.2.2.2.2.2.2
  -- a pin's place, and its layers
  have hpl : ∀ i, i < 3 → ∀ q, q < 81 → fNet eC X n i = nI q → X (7 + q) = nI (10 + n) ∧ X (7 + (q + 81)) = nI (10 + n) := fun i hi q hq e => by
    rcases pin_at hg (by omega) hi with e2 | ⟨p, hp, e2, e3, e4⟩
    · rw [e2] at e
      exact absurd (by rw [← e]; decide) (nI_pos (n := q) (by omega))
    · rw [e2] at e
      have := (nI_eq (by omega) (by omega)).mp e
      subst this
      exact ⟨(cellV_k (by omega)).mp e3, by rw [Nat.add_comm p 81]; exact (cellV_k (by omega)).mp e4⟩
  have hplace : ∀ q, q < 81 → X (7 + q) = nI (10 + n) → ∃ i, i < 3 ∧ fNet eC X n i = nI q := fun q hq e => by
    rcases hPin n hn q hq e with e | e | e
    · exact ⟨0, by decide, e⟩
    · exact ⟨1, by decide, e⟩
    · refine ⟨2, by decide, ?_⟩
      show (if X (169 + 9 * n + 2) = -1 then (-1000004 : Int32) else X (169 + 9 * n + 2)) = nI q
      rw [if_neg (by rw [e]; exact fun z => m1_ne (by omega) z.symm), e]
  rw [joinL_iff]
  unfold JN
  constructor
  · rintro ((h | h) | ⟨i, hi, q, h1, h2, h3, h4⟩)
    · exact Or.inl h
    · exact Or.inr (Or.inl h)
    · obtain ⟨g1, g2⟩ := hpl i hi q h1 h2
      have hxq : x = q ∨ x = q + 81 := by omega
      rcases h4 with (h4 | h4) | (h4 | h4)
      · left
        rw [jn0_iff] at h4 ⊢
        have := hg.p0.2.1
        omega
      · exact Or.inr (Or.inr ⟨q, h4, g1, by omega⟩)
      · left
        rw [jn0_iff] at h4 ⊢
        have := hg.p0.2.1
        omega
      · exact Or.inr (Or.inr ⟨81 + q, h4, by rw [Nat.add_comm 81 q]; exact g2, by omega⟩)
  · rintro (h | h | ⟨a, h1, h2, h3⟩)
    · exact Or.inl (Or.inl h)
    · exact Or.inl (Or.inr h)
    · right
      have ha := hl a h1
      have hlow : X (7 + a % 81) = nI (10 + n) := by
        by_cases h81 : a < 81
        · rw [Nat.mod_eq_of_lt h81]; exact h2
        · have e3 : a % 81 = a - 81 := by omega
          rw [e3]
          exact (hpair (a - 81) (by omega)).mpr (by rw [show a - 81 + 81 = a by omega]; exact h2)
      obtain ⟨i, hi, e⟩ := hplace (a % 81) (Nat.mod_lt _ (by decide)) hlow
      refine ⟨i, hi, a % 81, Nat.mod_lt _ (by decide), e, by omega, ?_⟩
      by_cases h81 : a < 81
      · rw [Nat.mod_eq_of_lt h81]
        exact Or.inl (Or.inr h1)
      · have e3 : 81 + a % 81 = a := by omega
        rw [e3]
        exact Or.inr (Or.inr h1)
end MARKS
section GOL
variable {pl pre r post : List Nat} {c t : Nat} {m : Nat → Nat} {J : Nat → Bool}
theorem atL_nx : atL (pl ++ (pre ++ c :: t :: r) ++ post) ((pl ++ pre).length + 1) = nI t := by
  have e : pl ++ (pre ++ c :: t :: r) ++ post = (pl ++ pre ++ [c]) ++ t :: (r ++ post) := by simp
  have e2 : (pl ++ pre).length + 1 = (pl ++ pre ++ [c]).length := by simp; omega
  rw [e, e2]
  exact atL_mid
theorem nd_c (h : (pre ++ c :: r).Nodup) : c ∉ pre := fun hc => by
  rw [List.nodup_append] at h
  exact h.2.2 c hc c List.mem_cons_self rfl
theorem nd_t (h : (pre ++ c :: t :: r).Nodup) : t ∉ pre ++ [c] := by
  have e : pre ++ c :: t :: r = (pre ++ [c]) ++ t :: r := by simp
  rw [e] at h
  exact nd_c h
theorem MkI_0 (h : MkI m J pre) (hc : c < 162) (hJ : J c = false) (hp : c ∉ pre) : m c = 0 := by
  have h1 := h.1 c
  have h2 : m c ≠ 1 := fun e => by
    have := (h.2 c hc).1.mp e
    rw [hJ] at this
    cases this
  have h3 : m c ≠ 2 := fun e => hp ((h.2 c hc).2.mp e)
  omega
end GOL
