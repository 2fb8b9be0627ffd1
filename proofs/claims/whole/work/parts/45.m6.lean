/-! the model's paths: its distances and the class's tell of the same way -/
def ME (tw : Nat → Option Nat) (d D : Nat → Nat) : Prop := ∀ c, c < 162 → tw c ≠ none → (d c < 1000000000 ↔ D c < 1000000) ∧ (d c < 1000000000 → d c = D c)
theorem ME_of {vc : Nat} {tw : Nat → Option Nat} {J : Nat → Bool} {d D : Nat → Nat} (hS : Sol 1000000000 vc tw (fun c => J c = true) d) (hD : D = dcl tw (dS vc tw J)) (hv : 1 ≤ vc ∧ vc ≤ 20) (ht : ∀ c w, tw c = some w → w ≤ 59) : ME tw d D := fun c hc ho => by
  have h := Sol.eq hS (dS_sol hv.1 tw J) hv ht (by omega) (by omega) hc ho
  rw [hD]
  unfold dcl
  rw [if_neg ho]
  exact h
theorem cndM_O {vc : Nat} {tw : Nat → Option Nat} {d D : Nat → Nat} {c k : Nat} (hM : ME tw d D) (hc : c < 162) (ho : tw c ≠ none) (hd : d c < 1000000000) : cndM vc tw d c k = cndO vc tw D c k := by
  unfold cndM cndO
  cases h1 : nb k c with
  | none => rfl
  | some t =>
    dsimp only
    cases h2 : tw t with
    | none => rfl
    | some w =>
      dsimp only
      have e1 := hM c hc ho
      have e2 := hM t (nb_lt hc h1) (by rw [h2]; exact Option.some_ne_none _)
      by_cases z : d t < 1000000000 ∧ d t + w + mv vc k c = d c
      · rw [if_pos z, if_pos ⟨e2.1.mp z.1, by rw [← e2.2 z.1, ← e1.2 hd]; exact z.2⟩]
      · rw [if_neg z, if_neg (fun y => z ⟨e2.1.mpr y.1, by rw [e2.2 (e2.1.mpr y.1), e1.2 hd]; exact y.2⟩)]
theorem nxtM_O {vc : Nat} {tw : Nat → Option Nat} {d D : Nat → Nat} {c : Nat} (hM : ME tw d D) (hc : c < 162) (ho : tw c ≠ none) (hd : d c < 1000000000) : nxtM vc tw d c = nxtO vc tw D c := by
  unfold nxtM nxtO
  rw [cndM_O hM hc ho hd, cndM_O hM hc ho hd, cndM_O hM hc ho hd]
  cases cndO vc tw D c 0 with
  | some _ => rfl
  | none =>
    cases cndO vc tw D c 1 with
    | some _ => rfl
    | none => rfl
theorem nxtM_nn {vc : Nat} {tw : Nat → Option Nat} {D : Nat → Nat} {c k : Nat} (h : nxtM vc tw D c = none) (hk : k < 3) : cndM vc tw D c k = none := by
  unfold nxtM at h
  cases h0 : cndM vc tw D c 0 with
  | some t => rw [h0] at h; cases h
  | none =>
    rw [h0] at h
    dsimp only at h
    cases h1 : cndM vc tw D c 1 with
    | some t => rw [h1] at h; cases h
    | none =>
      rw [h1] at h
      dsimp only at h
      rcases (show k = 0 ∨ k = 1 ∨ k = 2 by omega) with rfl | rfl | rfl
      · exact h0
      · exact h1
      · exact h
theorem nxtM_ex {vc : Nat} {tw : Nat → Option Nat} {J : Nat → Bool} {d : Nat → Nat} {c : Nat} (hS : Sol 1000000000 vc tw (fun c => J c = true) d) (hc : c < 162) (ho : tw c ≠ none) (hJ : J c = false) (hd : d c < 1000000000) (hv : 1 ≤ vc) : ∃ t, nxtM vc tw d c = some t := by
  cases h : nxtM vc tw d c with
  | some t => exact ⟨t, rfl⟩
  | none =>
    obtain ⟨k, hk, t, w, h1, h2, h3⟩ := hS.2.2.2 c hc ho (fun q => by have q : J c = true := q; rw [hJ] at q; cases q) hd
    have := nxtM_nn h hk
    have p1 := mv_pos (k := k) (c := c) hv
    rw [cndM_y h1 h2 (by omega) h3.symm] at this
    cases this
/-- where a path stands: its cells so far, the cell that is next -/
def PI6 (vc : Nat) (tw : Nat → Option Nat) (J : Nat → Bool) (d D : Nat → Nat) (s : Nat) (l : List Nat) (a : Nat) : Prop := pthL vc tw J D 161 s = l ++ pthL vc tw J D (161 - l.length) a ∧ rank D a + l.length ≤ 161 ∧ a < 162 ∧ tw a ≠ none ∧ d a < 1000000000
theorem PI6_0 {vc : Nat} {tw : Nat → Option Nat} {J : Nat → Bool} {d D : Nat → Nat} {s : Nat} (hs : s < 162) (ho : tw s ≠ none) (hd : d s < 1000000000) : PI6 vc tw J d D s [] s := ⟨rfl, by have := rank_le (d := D) hs; show rank D s + 0 ≤ 161; omega, hs, ho, hd⟩
theorem PI6_s {vc : Nat} {tw : Nat → Option Nat} {J : Nat → Bool} {d D : Nat → Nat} {s a : Nat} {l : List Nat} (hS : Sol 1000000000 vc tw (fun c => J c = true) d) (hM : ME tw d D) (hv : 1 ≤ vc ∧ vc ≤ 20) (h : PI6 vc tw J d D s l a) (hJ : J a = false) : ∃ t, nxtM vc tw d a = some t ∧ PI6 vc tw J d D s (l ++ [a]) t ∧ d t < d a := by
  obtain ⟨h1, h2, h3, h4, h5⟩ := h
  have hx := nxtM_O (vc := vc) hM h3 h4 h5
  obtain ⟨t, ht⟩ := nxtM_ex hS h3 h4 hJ h5 hv.1
  have ht2 := hx.symm.trans ht
  obtain ⟨k, hk, n1, w, n2, n3, n4⟩ := nxtO_some ht2
  have e1 := hM a h3 h4
  have e2 := hM t (nb_lt h3 n1) (by rw [n2]; exact Option.some_ne_none _)
  have p1 := mv_pos (k := k) (c := a) hv.1
  have q := rank_lt (d := D) (c := a) (t := t) (nb_lt h3 n1) (by omega)
  have hl : (l ++ [a]).length = l.length + 1 := by rw [List.length_append]; rfl
  refine ⟨t, ht, ⟨?_, by rw [hl]; omega, nb_lt h3 n1, by rw [n2]; exact Option.some_ne_none _, e2.1.mpr n3⟩, ?_⟩
  · rw [h1, hl, show 161 - l.length = (161 - (l.length + 1)) + 1 by omega, pthL]
    unfold nxJ
    rw [if_neg (by rw [hJ]; decide), ht2]
    dsimp only
    rw [List.append_assoc]
    rfl
  · have := e1.2 h5
    have := e2.2 (e2.1.mpr n3)
    omega
theorem PI6_e {vc : Nat} {tw : Nat → Option Nat} {J : Nat → Bool} {d D : Nat → Nat} {s a : Nat} {l : List Nat} (h : PI6 vc tw J d D s l a) (hJ : J a = true) : pthL vc tw J D 161 s = l ++ [a] := by
  rw [h.1]
  congr 1
  cases 161 - l.length with
  | zero => rfl
  | succ n => rw [pthL]; unfold nxJ; rw [if_pos hJ]
theorem st_M {tw : Nat → Option Nat} {d D : Nat → Nat} {p s : Nat} (hM : ME tw d D) (hp : p < 81) (o1 : tw p ≠ none) (o2 : tw (p + 81) ≠ none) (hdl : ∀ a, a < 162 → d a ≤ 1000000000) (hDl : ∀ a, a < 162 → D a ≤ 1000000) (hs : s = if d (p + 81) < d p then p + 81 else p) : (d s = 1000000000 → startO D p = none) ∧ (¬ d s = 1000000000 → startO D p = some s ∧ D s = d s ∧ d s < 1000000000 ∧ tw s ≠ none) := by
  have e1 := hM p (by omega) o1
  have e2 := hM (p + 81) (by omega) o2
  have l1 := hdl p (by omega)
  have l2 := hdl (p + 81) (by omega)
  have L1 := hDl p (by omega)
  have L2 := hDl (p + 81) (by omega)
  unfold startO
  by_cases h : d (p + 81) < d p
  · rw [if_pos h] at hs
    subst hs
    refine ⟨fun q => by omega, fun q => ⟨?_, by omega, by omega, o2⟩⟩
    have q1 := e2.2 (by omega)
    have q2 : D (p + 81) < D p := by
      by_cases z : d p < 1000000000
      · have := e1.2 z; omega
      · have := e1.1; omega
    rw [if_neg (by omega), if_pos (by omega)]
  · rw [if_neg h] at hs
    subst hs
    have q2 : D s ≤ D (s + 81) := by
      by_cases z : d (s + 81) < 1000000000
      · have := e2.2 z; have := e1.2 (by omega); omega
      · have := e2.1; omega
    rw [if_pos q2]
    refine ⟨fun q => by rw [if_neg (by omega)], fun q => ⟨by rw [if_pos (by omega)], by omega, by omega, o1⟩⟩
/-- which cells are joined behind a path -/
theorem joinL_iff {X : Nat → Int32} {v : Int32} : ∀ (l : List Nat) (J : Nat → Bool) (b : Nat), joinL X v J l b = true ↔ (J b = true ∨ b ∈ l ∨ ∃ a, a ∈ l ∧ X (7 + a) = v ∧ (b = a % 81 ∨ b = a % 81 + 81))
  | [], J, b => by
    show J b = true ↔ _
    exact ⟨fun h => Or.inl h, fun h => h.elim id (fun h => h.elim (fun h => absurd h List.not_mem_nil) (fun ⟨a, h, _⟩ => absurd h List.not_mem_nil))⟩
  | a :: l, J, b => by
    show joinL X v (joinB X v J a) l b = true ↔ _
    rw [joinL_iff l (joinB X v J a) b]
    have hb : joinB X v J a b = true ↔ (J b = true ∨ b = a ∨ (X (7 + a) = v ∧ (b = a % 81 ∨ b = a % 81 + 81))) := by
      unfold joinB
      simp only [Bool.or_eq_true, Bool.and_eq_true, decide_eq_true_eq, or_assoc]
    rw [hb]
    constructor
    · rintro ((h | h | h) | h | ⟨c, h1, h2⟩)
      · exact Or.inl h
      · exact Or.inr (Or.inl (by rw [h]; exact List.mem_cons_self))
      · exact Or.inr (Or.inr ⟨a, List.mem_cons_self, h⟩)
      · exact Or.inr (Or.inl (List.mem_cons_of_mem _ h))
      · exact Or.inr (Or.inr ⟨c, List.mem_cons_of_mem _ h1, h2⟩)
    · rintro (h | h | ⟨c, h1, h2⟩)
      · exact Or.inl (Or.inl h)
      · rcases List.mem_cons.mp h with h | h
        · exact Or.inl (Or.inr (Or.inl h))
        · exact Or.inr (Or.inl h)
      · rcases List.mem_cons.mp h1 with h | h
        · subst h; exact Or.inl (Or.inr (Or.inr h2))
        · exact Or.inr (Or.inr ⟨c, h, h2⟩)
/-- what is joined when the pins up to the k-th are through -/
def JP (X : Nat → Int32) (n : Nat) (J1 : Nat → Prop) (k b : Nat) : Prop := J1 b ∨ ∃ j q, j < k ∧ q < 81 ∧ X (169 + 9 * n + j) = nI q ∧ (J1 q ∨ J1 (q + 81)) ∧ (b = q ∨ b = q + 81)
theorem JP_no {X : Nat → Int32} {n k b : Nat} {J1 : Nat → Prop} (h : ∀ q, q < 81 → ¬ X (169 + 9 * n + k) = nI q) : JP X n J1 (k + 1) b ↔ JP X n J1 k b := by
  constructor
  · rintro (h1 | ⟨j, q, h1, h2, h3, h4⟩)
    · exact Or.inl h1
    · by_cases e : j = k
      · subst e; exact absurd h3 (h q h2)
      · exact Or.inr ⟨j, q, by omega, h2, h3, h4⟩
  · rintro (h1 | ⟨j, q, h1, h2⟩)
    · exact Or.inl h1
    · exact Or.inr ⟨j, q, by omega, h2⟩
theorem JP_off {X : Nat → Int32} {n k b q : Nat} {J1 : Nat → Prop} (hq : q < 81) (he : X (169 + 9 * n + k) = nI q) (h1 : ¬ JP X n J1 k q) (h2 : ¬ JP X n J1 k (q + 81)) : JP X n J1 (k + 1) b ↔ JP X n J1 k b := by
  constructor
  · rintro (g1 | ⟨j, p, g1, g2, g3, g4, g5⟩)
    · exact Or.inl g1
    · by_cases e : j = k
      · subst e
        obtain rfl := (nI_eq (by omega) (by omega)).mp (g3.symm.trans he)
        exact absurd g4 (fun z => z.elim (fun z => h1 (Or.inl z)) (fun z => h2 (Or.inl z)))
      · exact Or.inr ⟨j, p, by omega, g2, g3, g4, g5⟩
  · rintro (g1 | ⟨j, p, g1, g2⟩)
    · exact Or.inl g1
    · exact Or.inr ⟨j, p, by omega, g2⟩
theorem JP_on {X : Nat → Int32} {n k b q : Nat} {J1 : Nat → Prop} (hq : q < 81) (he : X (169 + 9 * n + k) = nI q) (h1 : JP X n J1 k q ∨ JP X n J1 k (q + 81)) : JP X n J1 (k + 1) b ↔ (JP X n J1 k b ∨ b = q ∨ b = q + 81) := by
  constructor
  · rintro (g1 | ⟨j, p, g1, g2, g3, g4, g5⟩)
    · exact Or.inl (Or.inl g1)
    · by_cases e : j = k
      · subst e
        obtain rfl := (nI_eq (by omega) (by omega)).mp (g3.symm.trans he)
        exact Or.inr g5
      · exact Or.inl (Or.inr ⟨j, p, by omega, g2, g3, g4, g5⟩)
  · rintro ((g1 | ⟨j, p, g1, g2⟩) | g)
    · exact Or.inl g1
    · exact Or.inr ⟨j, p, by omega, g2⟩
    · have hJ : J1 q ∨ J1 (q + 81) := by
        rcases h1 with (z | ⟨j, p, _, z2, _, z4, z5⟩) | (z | ⟨j, p, _, z2, _, z4, z5⟩)
        · exact Or.inl z
        · obtain rfl : q = p := by omega
          exact z4
        · exact Or.inr z
        · obtain rfl : q = p := by omega
          exact z4
      exact Or.inr ⟨k, q, by omega, hq, he, hJ, g⟩
theorem JP_end {X : Nat → Int32} {n b : Nat} {v : Int32} {J : Nat → Bool} {pl : List Nat} (hb : b < 162) (hpl : ∀ a, a ∈ pl → a < 162) (hpo : ∀ j, j < 3 → ∀ q, q < 81 → X (169 + 9 * n + j) = nI q → X (7 + q) = v ∧ X (7 + (q + 81)) = v) (hpv : ∀ a, a < 81 → X (7 + a) = v → ∃ j, j < 3 ∧ X (169 + 9 * n + j) = nI a) (hpair : ∀ a, a < 81 → (X (7 + a) = v ↔ X (7 + (a + 81)) = v)) (hJc : ∀ q, q < 81 → X (7 + q) = v → (J q = true ↔ J (q + 81) = true)) : JP X n (fun b => J b = true ∨ b ∈ pl) 3 b ↔ joinL X v J pl b = true := by
  rw [joinL_iff]
  constructor
  · rintro ((h | h) | ⟨j, q, h1, h2, h3, h4, h5⟩)
    · exact Or.inl h
    · exact Or.inr (Or.inl h)
    · obtain ⟨o1, o2⟩ := hpo j h1 q h2 h3
      have hc := hJc q h2 o1
      rcases h4 with (h4 | h4) | (h4 | h4)
      · rcases h5 with h5 | h5
        · exact Or.inl (by rw [h5]; exact h4)
        · exact Or.inl (by rw [h5]; exact hc.mp h4)
      · exact Or.inr (Or.inr ⟨q, h4, o1, by omega⟩)
      · rcases h5 with h5 | h5
        · exact Or.inl (by rw [h5]; exact hc.mpr h4)
        · exact Or.inl (by rw [h5]; exact h4)
      · exact Or.inr (Or.inr ⟨q + 81, h4, o2, by omega⟩)
  · rintro (h | h | ⟨a, h1, h2, h3⟩)
    · exact Or.inl (Or.inl h)
    · exact Or.inl (Or.inr h)
    · have ha := hpl a h1
      have h2' : X (7 + a % 81) = v := by
        by_cases e : a < 81
        · rw [show a % 81 = a by omega]; exact h2
        · exact (hpair (a % 81) (by omega)).mpr (by rw [show a % 81 + 81 = a by omega]; exact h2)
      obtain ⟨j, j1, j2⟩ := hpv (a % 81) (by omega) h2'
      refine Or.inr ⟨j, a % 81, j1, by omega, j2, ?_, h3⟩
      by_cases e : a < 81
      · rw [show a % 81 = a by omega]; exact Or.inl (Or.inr h1)
      · exact Or.inr (Or.inr (by rw [show a % 81 + 81 = a by omega]; exact h1))
theorem pin_ok {e : Enc} {X : Nat → Int32} {N K B n : Nat} (hI : InvX e X N K B) (hn : n < N) : ∀ j, j < 3 → ∀ q, q < 81 → X (169 + 9 * n + j) = nI q → X (7 + q) = e.2.2 n ∧ X (7 + (q + 81)) = e.2.2 n := by
  have hG := hI.1.net hn
  intro j hj q hq h
  rcases (show j = 0 ∨ j = 1 ∨ j = 2 by omega) with rfl | rfl | rfl
  · obtain ⟨a1, a2, a3, a4⟩ := hG.p0
    obtain rfl := (nI_eq (by omega) (by omega)).mp (a1.symm.trans (show X (169 + 9 * n) = nI q from h))
    exact ⟨a3, a4⟩
  · obtain ⟨a1, a2, a3, a4⟩ := hG.p1
    obtain rfl := (nI_eq (by omega) (by omega)).mp (a1.symm.trans h)
    exact ⟨a3, a4⟩
  · rcases hG.2.2.1 with h1 | ⟨p, h1, h2, h3⟩
    · exact absurd (h1.symm.trans h) (m1_ne (by omega))
    · obtain rfl := (nI_eq (by omega) (by omega)).mp (h2.symm.trans h)
      exact h3
theorem pin_pv {e : Enc} {X : Nat → Int32} {N K B n : Nat} (hI : InvX e X N K B) (hn : n < N) : ∀ a, a < 81 → X (7 + a) = e.2.2 n → ∃ j, j < 3 ∧ X (169 + 9 * n + j) = nI a := fun a ha h => by
  rcases hI.2.2.2.1 n hn a ha h with h | h | h
  · exact ⟨0, by omega, h⟩
  · exact ⟨1, by omega, h⟩
  · exact ⟨2, by omega, h⟩
theorem pin_pr {e : Enc} {X : Nat → Int32} {N K B n : Nat} (hI : InvX e X N K B) (hn : n < N) : ∀ a, a < 81 → (X (7 + a) = e.2.2 n ↔ X (7 + (a + 81)) = e.2.2 n) := (hI.1.net hn).2.2.2.2.2.2
theorem pin_ex {e : Enc} {X : Nat → Int32} {N K B n k : Nat} (hI : InvX e X N K B) (hn : n < N) (hk : k < 3) (h : ¬ X (169 + 9 * n + k) < 0) : ∃ q, q < 81 ∧ X (169 + 9 * n + k) = nI q := by
  have hG := hI.1.net hn
  rcases (show k = 0 ∨ k = 1 ∨ k = 2 by omega) with rfl | rfl | rfl
  · exact ⟨_, hG.p0.2.1, hG.p0.1⟩
  · exact ⟨_, hG.p1.2.1, hG.p1.1⟩
  · rcases hG.2.2.1 with h1 | ⟨p, h1, h2, h3⟩
    · rw [h1] at h; exact absurd (by decide) h
    · exact ⟨p, h1, h2⟩
theorem tw_own {X : Nat → Int32} {N n a : Nat} {dg : Bool} {J : Nat → Bool} {tw : Nat → Option Nat} (hTJ : ∀ a, a < 162 → tw a = if J a = true then some 0 else twX eM X N n dg a) (ha : a < 162) (h : X (7 + a) = eM.2.2 n) : tw a ≠ none := by
  rw [hTJ a ha]
  split
  · exact Option.some_ne_none _
  · rw [twX, twE_f ha (Or.inr h)]; exact Option.some_ne_none _
/-- the model's route: its cells -/
def RtN (M : Nat → Nat → Int32) (L : List Nat) : Prop := M 158 11 = nI L.length ∧ ∀ i, i < L.length → M 166 i = nI (L.getD i 0)
theorem RtN_cg {M W : Nat → Nat → Int32} {L : List Nat} (h1 : W 158 11 = M 158 11) (h2 : W 166 = M 166) (h : RtN M L) : RtN W L := ⟨h1.trans h.1, fun i hi => by rw [h2]; exact h.2 i hi⟩
theorem RtN_s {M : Nat → Nat → Int32} {L : List Nat} (h : RtN M L) (a : Nat) : RtN (st2 (st2 M 166 L.length (nI a)) 158 11 (nI (L.length + 1))) (L ++ [a]) := by
  refine ⟨by rw [st2_k, pk_us, List.length_append]; rfl, fun i hi => ?_⟩
  rw [List.length_append] at hi
  have hi : i < L.length + 1 := hi
  rw [st2_n _ _ _ (by decide), st2_k]
  by_cases e : i = L.length
  · subst e; rw [pk_us]; simp
  · rw [pk_un e, h.2 i (by omega)]
    congr 1
    simp only [List.getD_eq_getElem?_getD]
    rw [List.getElem?_append_left (by omega)]
theorem getD_app {L l : List Nat} {m : Nat} : (L ++ l).getD (L.length + m) 0 = l.getD m 0 := by
  simp only [List.getD_eq_getElem?_getD]
  rw [List.getElem?_append_right (by omega), Nat.add_sub_cancel_left]
theorem getD_mem {l : List Nat} {m : Nat} (h : m < l.length) : l.getD m 0 ∈ l := by
  simp only [List.getD_eq_getElem?_getD, List.getElem?_eq_getElem h, Option.getD_some]
  exact List.getElem_mem h
theorem jtk_s {W : Nat → Nat → Int32} {J : Nat → Bool} {pl : List Nat} {m : Nat} (hm : m < pl.length) (h : ∀ b, b < 162 → W 165 b = bI (J b || decide (b ∈ pl.take m))) : ∀ b, b < 162 → st2 W 165 (pl.getD m 0) (nI 1) 165 b = bI (J b || decide (b ∈ pl.take (m + 1))) := fun b hb => by
  rw [st2_k, take_s hm]
  by_cases e : b = pl.getD m 0
  · rw [e, pk_us]
    exact (bI_t (by rw [decide_eq_true (List.mem_append_right _ (List.mem_singleton.mpr rfl)), Bool.or_true])).symm
  · rw [pk_un e, h b hb]
    congr 2
    refine decide_eq_decide.mpr ⟨fun q => List.mem_append_left _ q, fun q => (List.mem_append.mp q).elim id (fun q => absurd (List.mem_singleton.mp q) e)⟩
theorem jk_u {W : Nat → Nat → Int32} {Jk : Nat → Bool} {q : Nat} (h : ∀ b, b < 162 → W 165 b = bI (Jk b)) : ∀ b, b < 162 → st2 (st2 W 165 q (nI 1)) 165 (81 + q) (nI 1) 165 b = bI (Jk b || decide (b = q) || decide (b = q + 81)) := fun b hb => by
  rw [st2_k, st2_k, show 81 + q = q + 81 by omega]
  by_cases e : b = q + 81
  · rw [e, pk_us]; exact (bI_t (by rw [decide_eq_true (rfl : q + 81 = q + 81), Bool.or_true])).symm
  · rw [pk_un e]
    by_cases e2 : b = q
    · rw [e2, pk_us]; exact (bI_t (by rw [decide_eq_true (rfl : q = q), Bool.or_true, Bool.true_or])).symm
    · rw [pk_un e2, h b hb, decide_eq_false e, decide_eq_false e2, Bool.or_false, Bool.or_false]
theorem jp_u {Jk : Nat → Bool} {q b : Nat} : (Jk b || decide (b = q) || decide (b = q + 81)) = true ↔ (Jk b = true ∨ b = q ∨ b = q + 81) := by
  simp only [Bool.or_eq_true, decide_eq_true_eq, or_assoc]
theorem j0_iff {J : Nat → Bool} {pl : List Nat} {X : Nat → Int32} {n b : Nat} : (J b || decide (b ∈ pl)) = true ↔ JP X n (fun b => J b = true ∨ b ∈ pl) 0 b := by
  simp only [Bool.or_eq_true, decide_eq_true_eq]
  exact ⟨fun h => Or.inl h, fun h => h.elim id (fun ⟨j, _, h, _⟩ => absurd h (Nat.not_lt_zero j))⟩
theorem bool_ext {a b : Bool} (h : a = true ↔ b = true) : a = b := by
  cases a <;> cases b <;> simp at h ⊢
/-- what a route's finding changes -/
def FrP (M M' : Nat → Nat → Int32) : Prop := (∀ k, (k < 158 ∨ (158 < k ∧ k < 164) ∨ k = 167) → M' k = M k) ∧ ∀ j, j ≠ 11 → j ≠ 12 → M' 158 j = M 158 j
def FrO (M M' : Nat → Nat → Int32) : Prop := (∀ k, (k < 158 ∨ (158 < k ∧ k < 164) ∨ k = 167) → M' k = M k) ∧ ∀ j, j ≠ 11 → j ≠ 12 → j ≠ 13 → M' 158 j = M 158 j
theorem FrO_P {M M1 M2 : Nat → Nat → Int32} (h1 : FrO M M1) (h2 : FrP M1 M2) : FrO M M2 := ⟨fun k hk => (h2.1 k hk).trans (h1.1 k hk), fun j a b c => (h2.2 j a b).trans (h1.2 j a b c)⟩
theorem tw1_J {X : Nat → Int32} {N K B n : Nat} {dg : Bool} {pl : List Nat} (hI : InvX eM X N K B) (hn : n < N) (hpl : ∀ a, a ∈ pl → a < 162) : ∀ a, a < 162 → tw0 (twX eM X N n dg) pl a = if joinL X (eM.2.2 n) (jn0 (p0X X n)) pl a = true then some 0 else twX eM X N n dg a := fun a ha => by
  unfold tw0
  have hG := hI.1.net hn
  by_cases e : a ∈ pl
  · rw [if_pos e, if_pos (joinL_iff pl _ a |>.mpr (Or.inr (Or.inl e)))]
  · rw [if_neg e]
    split
    · rename_i h
      rcases (joinL_iff pl _ a).mp h with h | h | ⟨b, h1, h2, h3⟩
      · unfold jn0 at h
        simp only [Bool.or_eq_true, decide_eq_true_eq] at h
        refine twE_f ha (Or.inr ?_)
        rcases h with h | h
        · rw [h]; exact hG.p0.2.2.1
        · rw [h]; exact hG.p0.2.2.2
      · exact absurd h e
      · refine twE_f ha (Or.inr ?_)
        have hb := hpl b h1
        have pr := pin_pr hI hn
        have h2' : X (7 + b % 81) = eM.2.2 n := by
          by_cases e : b < 81
          · rw [show b % 81 = b by omega]; exact h2
          · exact (pr (b % 81) (by omega)).mpr (by rw [show b % 81 + 81 = b by omega]; exact h2)
        rcases h3 with h3 | h3
        · rw [h3]; exact h2'
        · rw [h3]; exact (pr (b % 81) (by omega)).mp h2'
    · rfl
theorem tw00_J {X : Nat → Int32} {N K B n : Nat} {dg : Bool} (hI : InvX eM X N K B) (hn : n < N) : ∀ a, a < 162 → twX eM X N n dg a = if jn0 (p0X X n) a = true then some 0 else twX eM X N n dg a := fun a ha => by
  have hG := hI.1.net hn
  split
  · rename_i h
    unfold jn0 at h
    simp only [Bool.or_eq_true, decide_eq_true_eq] at h
    refine twE_f ha (Or.inr ?_)
    rcases h with h | h
    · rw [h]; exact hG.p0.2.2.1
    · rw [h]; exact hG.p0.2.2.2
  · rfl
theorem jc_0 {X : Nat → Int32} {n : Nat} {p : Nat} (v : Int32) (hp : p < 81) : ∀ q, q < 81 → X (7 + q) = v → (jn0 p q = true ↔ jn0 p (q + 81) = true) := fun q hq _ => by
  unfold jn0
  simp only [Bool.or_eq_true, decide_eq_true_eq]
  omega
theorem jc_1 {X : Nat → Int32} {N K B n p : Nat} {pl : List Nat} (hI : InvX eM X N K B) (hn : n < N) (hp : p < 81) : ∀ q, q < 81 → X (7 + q) = eM.2.2 n → (joinL X (eM.2.2 n) (jn0 p) pl q = true ↔ joinL X (eM.2.2 n) (jn0 p) pl (q + 81) = true) := fun q hq hx => by
  have pr := (pin_pr hI hn q hq).mp hx
  have j0 := jc_0 (X := X) (n := n) (eM.2.2 n) hp q hq hx
  rw [joinL_iff, joinL_iff]
  constructor
  · rintro (h | h | ⟨a, h1, h2, h3⟩)
    · exact Or.inl (j0.mp h)
    · exact Or.inr (Or.inr ⟨q, h, hx, by omega⟩)
    · exact Or.inr (Or.inr ⟨a, h1, h2, by omega⟩)
  · rintro (h | h | ⟨a, h1, h2, h3⟩)
    · exact Or.inl (j0.mpr h)
    · exact Or.inr (Or.inr ⟨q + 81, h, pr, by omega⟩)
    · exact Or.inr (Or.inr ⟨a, h1, h2, by omega⟩)
theorem jn0_lt {p a : Nat} (hp : p < 81) (h : jn0 p a = true) : a < 162 := by
  unfold jn0 at h
  simp only [Bool.or_eq_true, decide_eq_true_eq] at h
  omega

theorem twX_ge {e : Enc} {X : Nat → Int32} {N n : Nat} {dg : Bool} : ∀ a, 162 ≤ a → twX e X N n dg a = none := fun a ha => by
  unfold twX twE
  rw [if_pos ha]
theorem tw0_ge {e : Enc} {X : Nat → Int32} {N n a : Nat} {dg : Bool} {pl : List Nat} (hpl : ∀ a, a ∈ pl → a < 162) (ha : 162 ≤ a) : tw0 (twX e X N n dg) pl a = none := by
  unfold tw0
  rw [if_neg (fun h => by have := hpl a h; omega)]
  exact twX_ge a ha

set_option maxRecDepth 20000 in
theorem ggX6_joinsPin_X6_of : GoodIn wsX6_joinsPin wsX6_of := goodIn_r _ [6, 7, 8, 9, 10, 11, 12, 13, 14, 15, 16, 17, 18, 19, 20, 21, 22, 23, 24, 25, 26] (by decide +kernel) (by decide +kernel)
set_option maxRecDepth 20000 in
theorem gX6_joinsPin_X6_of : GoodIn wsX6_joinsPin (wsV RX6 42 RX6 yX6_of wsX6_of) := goodIn_app (goodIn_of _ (by decide +kernel)) ggX6_joinsPin_X6_of
theorem dX6_joinsPin_0 : decode cX6_joinsPin 0 = .ok (.aload_n 0, 1) := by decide +kernel
theorem dX6_joinsPin_1 : decode cX6_joinsPin 1 = .ok (.iload_n 1, 1) := by decide +kernel
theorem dX6_joinsPin_2 : decode cX6_joinsPin 2 = .ok (.iload_n 2, 1) := by decide +kernel
theorem dX6_joinsPin_3 : decode cX6_joinsPin 3 = .ok (.invokevirtual 42, 3) := by decide +kernel
theorem dX6_joinsPin_6 : decode cX6_joinsPin 6 = .ok (.istore_n 3, 1) := by decide +kernel
theorem dX6_joinsPin_7 : decode cX6_joinsPin 7 = .ok (.aload_n 0, 1) := by decide +kernel
theorem dX6_joinsPin_8 : decode cX6_joinsPin 8 = .ok (.getfield 28, 3) := by decide +kernel
theorem dX6_joinsPin_11 : decode cX6_joinsPin 11 = .ok (.iload_n 3, 1) := by decide +kernel
theorem dX6_joinsPin_12 : decode cX6_joinsPin 12 = .ok (.iconst 1, 1) := by decide +kernel
theorem dX6_joinsPin_13 : decode cX6_joinsPin 13 = .ok (.bastore, 1) := by decide +kernel
theorem dX6_joinsPin_14 : decode cX6_joinsPin 14 = .ok (.aload_n 0, 1) := by decide +kernel
theorem dX6_joinsPin_15 : decode cX6_joinsPin 15 = .ok (.getfield 28, 3) := by decide +kernel
theorem dX6_joinsPin_18 : decode cX6_joinsPin 18 = .ok (.bipush 81, 2) := by decide +kernel
theorem dX6_joinsPin_20 : decode cX6_joinsPin 20 = .ok (.iload_n 3, 1) := by decide +kernel
theorem dX6_joinsPin_21 : decode cX6_joinsPin 21 = .ok (.iadd, 1) := by decide +kernel
theorem dX6_joinsPin_22 : decode cX6_joinsPin 22 = .ok (.iconst 1, 1) := by decide +kernel
theorem dX6_joinsPin_23 : decode cX6_joinsPin 23 = .ok (.bastore, 1) := by decide +kernel
theorem dX6_joinsPin_24 : decode cX6_joinsPin 24 = .ok (.return_, 1) := by decide +kernel
abbrev rmX6_joinsPin : Room := { frames := 1, cells := 0, slots := 0, locals := 22 }
set_option maxRecDepth 20000 in
theorem in_X6_joinsPin_X6 : ∀ w ∈ wsX60, w ∈ wsX6_joinsPin := by decide +kernel

set_option maxRecDepth 100000 in
set_option maxHeartbeats 4000000 in
theorem c_X6_joinsPin {l : Launch} {g : Geo} {M : Nat → Nat → Int32} {P : Nat → Nat} {n k p : Nat} (hn : n < 6) (hk : k < 3) (hpp : M 159 (169 + 9 * n + k) = nI p) (hp81 : p < 81) : Met l yX6_joinsPin wsX6_joinsPin rmX6_joinsPin (cPre g [.ref (g.1 158), .int (nI n), .int (nI k)] M P) (cQv g (fun M' P' => P = P' ∧ M' = st2 (st2 M 165 p (nI 1)) 165 (81 + p) (nI 1))) 0 0 (gA g) := by
  refine met_v (cc := cX6_joinsPin) (maxL := 4) (by decide) rfl ⟨rfl, rfl⟩ (Nat.le_of_ble_eq_true rfl) (fun x hx h hret => ?_)
  replace h : Cxk x g cX6_joinsPin 4 wsX6_joinsPin RX6 rmX6_joinsPin := h
  show X x 0 [(0, .ref (g.1 158)), (1, .int (nI n)), (2, .int (nI k))] [] M P
  refine x_aload_n h 0 dX6_joinsPin_0 rfl rfl ?_
  refine x_iload_n h 1 dX6_joinsPin_1 rfl rfl ?_
  refine x_iload_n h 2 dX6_joinsPin_2 rfl rfl ?_
  refine x_callV h (As := [.int (nI n), .int (nI k)]) 2 hx (c_X6_of (by omega) (by omega)) gX6_joinsPin_X6_of rfl ⟨rfl, rfl⟩ (by decide +kernel) rfl (by decide) (by decide) E_158 rfl rfl (Nat.le_of_ble_eq_true rfl) dX6_joinsPin_3 (fun rv M' P' hp => ?_)
  obtain ⟨⟨rfl, rfl⟩, rfl⟩ := hp
  refine x_top (nI p) (hpp) ?_
  refine x_istore_n h [(3, .int (nI p)), (0, .ref (g.1 158)), (1, .int (nI n)), (2, .int (nI k))] dX6_joinsPin_6 rfl (by decide) rfl ?_
  refine x_aload_n h 1 dX6_joinsPin_7 rfl rfl ?_
  refine xg_X6_9 h in_X6_joinsPin_X6 (by decide +kernel) dX6_joinsPin_8 ?_
  refine x_iload_n h 0 dX6_joinsPin_11 rfl rfl ?_
  refine x_iconst h (nI 1) dX6_joinsPin_12 (by decide) ?_
  refine xs_165 h dX6_joinsPin_13 (by decide) (by omega) ?_
  refine x_aload_n h 1 dX6_joinsPin_14 rfl rfl ?_
  refine xg_X6_9 h in_X6_joinsPin_X6 (by decide +kernel) dX6_joinsPin_15 ?_
  refine x_bipush h (nI 81) dX6_joinsPin_18 (by decide) ?_
  refine x_iload_n h 0 dX6_joinsPin_20 rfl rfl ?_
  refine x_iadd_n h dX6_joinsPin_21 ?_
  refine x_iconst h (nI 1) dX6_joinsPin_22 (by decide) ?_
  refine xs_165 h dX6_joinsPin_23 (by decide) (by omega) ?_
  exact hret _ _ _ _ dX6_joinsPin_24 (by exact ⟨rfl, rfl⟩)

set_option maxRecDepth 20000 in
theorem ggX6_paths_X6_measures : GoodIn wsX6_paths wsX6_measures := goodIn_r _ [11, 1, 5, 2, 12, 13, 10, 14, 15, 16, 17, 18, 19, 20, 21, 22, 23, 24, 25, 26, 27, 36, 37, 38, 39, 40, 41, 42, 43, 44, 45, 46, 47, 48, 49, 50, 51, 52, 53, 54] (by decide +kernel) (by decide +kernel)
set_option maxRecDepth 20000 in
theorem gX6_paths_X6_measures : GoodIn wsX6_paths (wsV RX6 104 RX6 yX6_measures wsX6_measures) := goodIn_app (goodIn_of _ (by decide +kernel)) ggX6_paths_X6_measures
set_option maxRecDepth 20000 in
theorem ggX6_paths_X6_of : GoodIn wsX6_paths wsX6_of := goodIn_r _ [27, 19, 36, 37, 38, 39, 40, 41, 42, 43, 44, 45, 46, 47, 48, 49, 50, 51, 52, 53, 54] (by decide +kernel) (by decide +kernel)
set_option maxRecDepth 20000 in
theorem gX6_paths_X6_of : GoodIn wsX6_paths (wsV RX6 42 RX6 yX6_of wsX6_of) := goodIn_app (goodIn_of _ (by decide +kernel)) ggX6_paths_X6_of
set_option maxRecDepth 20000 in
theorem ggX6_paths_X6_nextOf : GoodIn wsX6_paths wsX6_nextOf := goodIn_r _ [31, 1, 2, 12, 13, 10, 14, 15, 16, 17, 18, 19, 5, 20, 21, 22, 23, 24, 25, 26, 27, 36, 37, 38, 39, 40, 41, 42, 43, 44, 45, 46, 47, 48, 49, 50, 51, 52, 53, 54] (by decide +kernel) (by decide +kernel)
set_option maxRecDepth 20000 in
theorem gX6_paths_X6_nextOf : GoodIn wsX6_paths (wsV RX6 114 RX6 yX6_nextOf wsX6_nextOf) := goodIn_app (goodIn_of _ (by decide +kernel)) ggX6_paths_X6_nextOf
set_option maxRecDepth 20000 in
theorem ggX6_paths_X6_joinsPin : GoodIn wsX6_paths wsX6_joinsPin := goodIn_r _ [35, 5, 24, 25, 26, 10, 27, 19, 36, 37, 38, 39, 40, 41, 42, 43, 44, 45, 46, 47, 48, 49, 50, 51, 52, 53, 54] (by decide +kernel) (by decide +kernel)
set_option maxRecDepth 20000 in
theorem gX6_paths_X6_joinsPin : GoodIn wsX6_paths (wsV RX6 117 RX6 yX6_joinsPin wsX6_joinsPin) := goodIn_app (goodIn_of _ (by decide +kernel)) ggX6_paths_X6_joinsPin
theorem dX6_paths_0 : decode cX6_paths 0 = .ok (.aload_n 0, 1) := by decide +kernel
theorem dX6_paths_1 : decode cX6_paths 1 = .ok (.iload_n 1, 1) := by decide +kernel
theorem dX6_paths_2 : decode cX6_paths 2 = .ok (.invokevirtual 104, 3) := by decide +kernel
theorem dX6_paths_5 : decode cX6_paths 5 = .ok (.aload_n 0, 1) := by decide +kernel
theorem dX6_paths_6 : decode cX6_paths 6 = .ok (.iload_n 1, 1) := by decide +kernel
theorem dX6_paths_7 : decode cX6_paths 7 = .ok (.iload_n 2, 1) := by decide +kernel
theorem dX6_paths_8 : decode cX6_paths 8 = .ok (.invokevirtual 42, 3) := by decide +kernel
theorem dX6_paths_11 : decode cX6_paths 11 = .ok (.istore_n 3, 1) := by decide +kernel
theorem dX6_paths_12 : decode cX6_paths 12 = .ok (.aload_n 0, 1) := by decide +kernel
theorem dX6_paths_13 : decode cX6_paths 13 = .ok (.getfield 25, 3) := by decide +kernel
theorem dX6_paths_16 : decode cX6_paths 16 = .ok (.bipush 81, 2) := by decide +kernel
theorem dX6_paths_18 : decode cX6_paths 18 = .ok (.iload_n 3, 1) := by decide +kernel
theorem dX6_paths_19 : decode cX6_paths 19 = .ok (.iadd, 1) := by decide +kernel
theorem dX6_paths_20 : decode cX6_paths 20 = .ok (.iaload, 1) := by decide +kernel
theorem dX6_paths_21 : decode cX6_paths 21 = .ok (.aload_n 0, 1) := by decide +kernel
theorem dX6_paths_22 : decode cX6_paths 22 = .ok (.getfield 25, 3) := by decide +kernel
theorem dX6_paths_25 : decode cX6_paths 25 = .ok (.iload_n 3, 1) := by decide +kernel
theorem dX6_paths_26 : decode cX6_paths 26 = .ok (.iaload, 1) := by decide +kernel
theorem dX6_paths_27 : decode cX6_paths 27 = .ok (.if_icmp .ge 10, 3) := by decide +kernel
theorem dX6_paths_30 : decode cX6_paths 30 = .ok (.bipush 81, 2) := by decide +kernel
theorem dX6_paths_32 : decode cX6_paths 32 = .ok (.iload_n 3, 1) := by decide +kernel
theorem dX6_paths_33 : decode cX6_paths 33 = .ok (.iadd, 1) := by decide +kernel
theorem dX6_paths_34 : decode cX6_paths 34 = .ok (.goto 4, 3) := by decide +kernel
theorem dX6_paths_37 : decode cX6_paths 37 = .ok (.iload_n 3, 1) := by decide +kernel
theorem dX6_paths_38 : decode cX6_paths 38 = .ok (.istore 4, 2) := by decide +kernel
theorem dX6_paths_40 : decode cX6_paths 40 = .ok (.aload_n 0, 1) := by decide +kernel
theorem dX6_paths_41 : decode cX6_paths 41 = .ok (.getfield 25, 3) := by decide +kernel
theorem dX6_paths_44 : decode cX6_paths 44 = .ok (.iload 4, 2) := by decide +kernel
theorem dX6_paths_46 : decode cX6_paths 46 = .ok (.iaload, 1) := by decide +kernel
theorem dX6_paths_47 : decode cX6_paths 47 = .ok (.ldc 96, 2) := by decide +kernel
theorem dX6_paths_49 : decode cX6_paths 49 = .ok (.if_icmp .ne 5, 3) := by decide +kernel
theorem dX6_paths_52 : decode cX6_paths 52 = .ok (.iconst 0, 1) := by decide +kernel
theorem dX6_paths_53 : decode cX6_paths 53 = .ok (.ireturn, 1) := by decide +kernel
theorem dX6_paths_54 : decode cX6_paths 54 = .ok (.aload_n 0, 1) := by decide +kernel
theorem dX6_paths_55 : decode cX6_paths 55 = .ok (.dup, 1) := by decide +kernel
theorem dX6_paths_56 : decode cX6_paths 56 = .ok (.getfield 108, 3) := by decide +kernel
theorem dX6_paths_59 : decode cX6_paths 59 = .ok (.aload_n 0, 1) := by decide +kernel
theorem dX6_paths_60 : decode cX6_paths 60 = .ok (.getfield 25, 3) := by decide +kernel
theorem dX6_paths_63 : decode cX6_paths 63 = .ok (.iload 4, 2) := by decide +kernel
theorem dX6_paths_65 : decode cX6_paths 65 = .ok (.iaload, 1) := by decide +kernel
theorem dX6_paths_66 : decode cX6_paths 66 = .ok (.iadd, 1) := by decide +kernel
theorem dX6_paths_67 : decode cX6_paths 67 = .ok (.putfield 108, 3) := by decide +kernel
theorem dX6_paths_70 : decode cX6_paths 70 = .ok (.aload_n 0, 1) := by decide +kernel
theorem dX6_paths_71 : decode cX6_paths 71 = .ok (.getfield 111, 3) := by decide +kernel
theorem dX6_paths_74 : decode cX6_paths 74 = .ok (.istore 5, 2) := by decide +kernel
theorem dX6_paths_76 : decode cX6_paths 76 = .ok (.aload_n 0, 1) := by decide +kernel
theorem dX6_paths_77 : decode cX6_paths 77 = .ok (.getfield 28, 3) := by decide +kernel
theorem dX6_paths_80 : decode cX6_paths 80 = .ok (.iload 4, 2) := by decide +kernel
theorem dX6_paths_82 : decode cX6_paths 82 = .ok (.baload, 1) := by decide +kernel
theorem dX6_paths_83 : decode cX6_paths 83 = .ok (.ifCond .ne 36, 3) := by decide +kernel
theorem dX6_paths_86 : decode cX6_paths 86 = .ok (.aload_n 0, 1) := by decide +kernel
theorem dX6_paths_87 : decode cX6_paths 87 = .ok (.getfield 32, 3) := by decide +kernel
theorem dX6_paths_90 : decode cX6_paths 90 = .ok (.aload_n 0, 1) := by decide +kernel
theorem dX6_paths_91 : decode cX6_paths 91 = .ok (.getfield 111, 3) := by decide +kernel
theorem dX6_paths_94 : decode cX6_paths 94 = .ok (.iload 4, 2) := by decide +kernel
theorem dX6_paths_96 : decode cX6_paths 96 = .ok (.iastore, 1) := by decide +kernel
theorem dX6_paths_97 : decode cX6_paths 97 = .ok (.aload_n 0, 1) := by decide +kernel
theorem dX6_paths_98 : decode cX6_paths 98 = .ok (.dup, 1) := by decide +kernel
theorem dX6_paths_99 : decode cX6_paths 99 = .ok (.getfield 111, 3) := by decide +kernel
theorem dX6_paths_102 : decode cX6_paths 102 = .ok (.iconst 1, 1) := by decide +kernel
theorem dX6_paths_103 : decode cX6_paths 103 = .ok (.iadd, 1) := by decide +kernel
theorem dX6_paths_104 : decode cX6_paths 104 = .ok (.putfield 111, 3) := by decide +kernel
theorem dX6_paths_107 : decode cX6_paths 107 = .ok (.aload_n 0, 1) := by decide +kernel
theorem dX6_paths_108 : decode cX6_paths 108 = .ok (.iload_n 1, 1) := by decide +kernel
theorem dX6_paths_109 : decode cX6_paths 109 = .ok (.iload 4, 2) := by decide +kernel
theorem dX6_paths_111 : decode cX6_paths 111 = .ok (.invokevirtual 114, 3) := by decide +kernel
theorem dX6_paths_114 : decode cX6_paths 114 = .ok (.istore 4, 2) := by decide +kernel
theorem dX6_paths_116 : decode cX6_paths 116 = .ok (.goto (-40), 3) := by decide +kernel
theorem dX6_paths_119 : decode cX6_paths 119 = .ok (.aload_n 0, 1) := by decide +kernel
theorem dX6_paths_120 : decode cX6_paths 120 = .ok (.getfield 32, 3) := by decide +kernel
theorem dX6_paths_123 : decode cX6_paths 123 = .ok (.aload_n 0, 1) := by decide +kernel
theorem dX6_paths_124 : decode cX6_paths 124 = .ok (.getfield 111, 3) := by decide +kernel
theorem dX6_paths_127 : decode cX6_paths 127 = .ok (.iload 4, 2) := by decide +kernel
theorem dX6_paths_129 : decode cX6_paths 129 = .ok (.iastore, 1) := by decide +kernel
theorem dX6_paths_130 : decode cX6_paths 130 = .ok (.aload_n 0, 1) := by decide +kernel
theorem dX6_paths_131 : decode cX6_paths 131 = .ok (.dup, 1) := by decide +kernel
theorem dX6_paths_132 : decode cX6_paths 132 = .ok (.getfield 111, 3) := by decide +kernel
theorem dX6_paths_135 : decode cX6_paths 135 = .ok (.iconst 1, 1) := by decide +kernel
theorem dX6_paths_136 : decode cX6_paths 136 = .ok (.iadd, 1) := by decide +kernel
theorem dX6_paths_137 : decode cX6_paths 137 = .ok (.putfield 111, 3) := by decide +kernel
theorem dX6_paths_140 : decode cX6_paths 140 = .ok (.iload 5, 2) := by decide +kernel
theorem dX6_paths_142 : decode cX6_paths 142 = .ok (.istore 6, 2) := by decide +kernel
theorem dX6_paths_144 : decode cX6_paths 144 = .ok (.iload 6, 2) := by decide +kernel
theorem dX6_paths_146 : decode cX6_paths 146 = .ok (.aload_n 0, 1) := by decide +kernel
theorem dX6_paths_147 : decode cX6_paths 147 = .ok (.getfield 111, 3) := by decide +kernel
theorem dX6_paths_150 : decode cX6_paths 150 = .ok (.if_icmp .ge 22, 3) := by decide +kernel
theorem dX6_paths_153 : decode cX6_paths 153 = .ok (.aload_n 0, 1) := by decide +kernel
theorem dX6_paths_154 : decode cX6_paths 154 = .ok (.getfield 28, 3) := by decide +kernel
theorem dX6_paths_157 : decode cX6_paths 157 = .ok (.aload_n 0, 1) := by decide +kernel
theorem dX6_paths_158 : decode cX6_paths 158 = .ok (.getfield 32, 3) := by decide +kernel
theorem dX6_paths_161 : decode cX6_paths 161 = .ok (.iload 6, 2) := by decide +kernel
theorem dX6_paths_163 : decode cX6_paths 163 = .ok (.iaload, 1) := by decide +kernel
theorem dX6_paths_164 : decode cX6_paths 164 = .ok (.iconst 1, 1) := by decide +kernel
theorem dX6_paths_165 : decode cX6_paths 165 = .ok (.bastore, 1) := by decide +kernel
theorem dX6_paths_166 : decode cX6_paths 166 = .ok (.iinc 6 1, 3) := by decide +kernel
theorem dX6_paths_169 : decode cX6_paths 169 = .ok (.goto (-25), 3) := by decide +kernel
theorem dX6_paths_172 : decode cX6_paths 172 = .ok (.iconst 0, 1) := by decide +kernel
theorem dX6_paths_173 : decode cX6_paths 173 = .ok (.istore 6, 2) := by decide +kernel
theorem dX6_paths_175 : decode cX6_paths 175 = .ok (.iload 6, 2) := by decide +kernel
theorem dX6_paths_177 : decode cX6_paths 177 = .ok (.iconst 3, 1) := by decide +kernel
theorem dX6_paths_178 : decode cX6_paths 178 = .ok (.if_icmp .ge 53, 3) := by decide +kernel
theorem dX6_paths_181 : decode cX6_paths 181 = .ok (.aload_n 0, 1) := by decide +kernel
theorem dX6_paths_182 : decode cX6_paths 182 = .ok (.iload_n 1, 1) := by decide +kernel
theorem dX6_paths_183 : decode cX6_paths 183 = .ok (.iload 6, 2) := by decide +kernel
theorem dX6_paths_185 : decode cX6_paths 185 = .ok (.invokevirtual 42, 3) := by decide +kernel
theorem dX6_paths_188 : decode cX6_paths 188 = .ok (.istore 7, 2) := by decide +kernel
theorem dX6_paths_190 : decode cX6_paths 190 = .ok (.iload 7, 2) := by decide +kernel
theorem dX6_paths_192 : decode cX6_paths 192 = .ok (.ifCond .lt 33, 3) := by decide +kernel
theorem dX6_paths_195 : decode cX6_paths 195 = .ok (.aload_n 0, 1) := by decide +kernel
theorem dX6_paths_196 : decode cX6_paths 196 = .ok (.getfield 28, 3) := by decide +kernel
theorem dX6_paths_199 : decode cX6_paths 199 = .ok (.iload 7, 2) := by decide +kernel
theorem dX6_paths_201 : decode cX6_paths 201 = .ok (.baload, 1) := by decide +kernel
theorem dX6_paths_202 : decode cX6_paths 202 = .ok (.ifCond .ne 16, 3) := by decide +kernel
theorem dX6_paths_205 : decode cX6_paths 205 = .ok (.aload_n 0, 1) := by decide +kernel
theorem dX6_paths_206 : decode cX6_paths 206 = .ok (.getfield 28, 3) := by decide +kernel
theorem dX6_paths_209 : decode cX6_paths 209 = .ok (.bipush 81, 2) := by decide +kernel
theorem dX6_paths_211 : decode cX6_paths 211 = .ok (.iload 7, 2) := by decide +kernel
theorem dX6_paths_213 : decode cX6_paths 213 = .ok (.iadd, 1) := by decide +kernel
theorem dX6_paths_214 : decode cX6_paths 214 = .ok (.baload, 1) := by decide +kernel
theorem dX6_paths_215 : decode cX6_paths 215 = .ok (.ifCond .eq 10, 3) := by decide +kernel
theorem dX6_paths_218 : decode cX6_paths 218 = .ok (.aload_n 0, 1) := by decide +kernel
theorem dX6_paths_219 : decode cX6_paths 219 = .ok (.iload_n 1, 1) := by decide +kernel
theorem dX6_paths_220 : decode cX6_paths 220 = .ok (.iload 6, 2) := by decide +kernel
theorem dX6_paths_222 : decode cX6_paths 222 = .ok (.invokevirtual 117, 3) := by decide +kernel
theorem dX6_paths_225 : decode cX6_paths 225 = .ok (.iinc 6 1, 3) := by decide +kernel
theorem dX6_paths_228 : decode cX6_paths 228 = .ok (.goto (-53), 3) := by decide +kernel
theorem dX6_paths_231 : decode cX6_paths 231 = .ok (.iconst 1, 1) := by decide +kernel
theorem dX6_paths_232 : decode cX6_paths 232 = .ok (.ireturn, 1) := by decide +kernel
abbrev rmX6_paths : Room := { frames := 3, cells := 0, slots := 0, locals := 73 }
set_option maxRecDepth 20000 in
theorem in_X6_paths_X6 : ∀ w ∈ wsX60, w ∈ wsX6_paths := by decide +kernel

set_option maxRecDepth 100000 in
set_option maxHeartbeats 16000000 in
theorem c_X6_paths {l : Launch} {g : Geo} {M : Nat → Nat → Int32} {P : Nat → Nat} {N K B : Nat} (hI : InvX eM (M 159) N K B) {n : Nat} (hn : n < N) {dg : Bool} (hdg : M 158 13 = bI dg) {J : Nat → Bool} (hJ : ∀ a, a < 162 → M 165 a = bI (J a)) {tw : Nat → Option Nat} (hTJ : ∀ a, a < 162 → tw a = if J a = true then some 0 else twX eM (M 159) N n dg a) (hTN : ∀ a, 162 ≤ a → tw a = none) {L : List Nat} (hR : RtN M L) {z : Nat} (hz : M 158 12 = nI z) (hL : L.length ≤ 162) {pk p : Nat} (hpk : pk < 3) (hpp : M 159 (169 + 9 * n + pk) = nI p) (hp81 : p < 81) (ho : M 159 (7 + p) = eM.2.2 n ∧ M 159 (7 + (p + 81)) = eM.2.2 n) (hJc : ∀ q, q < 81 → M 159 (7 + q) = eM.2.2 n → (J q = true ↔ J (q + 81) = true)) : Met l yX6_paths wsX6_paths rmX6_paths (cPre g [.ref (g.1 158), .int (nI n), .int (nI pk)] M P) (cQi g (fun r M' P' => P = P' ∧ FrP M M' ∧ ((startO (dcl tw (dS (vcX (M 159)) tw J)) p = none ∧ r = nI 0) ∨ ∃ s, startO (dcl tw (dS (vcX (M 159)) tw J)) p = some s ∧ r = nI 1 ∧ RtN M' (L ++ (pthL (vcX (M 159)) tw J (dcl tw (dS (vcX (M 159)) tw J)) 161 s)) ∧ M' 158 12 = nI (z + (dcl tw (dS (vcX (M 159)) tw J)) s) ∧ ∀ b, b < 162 → M' 165 b = bI (joinL (M 159) (eM.2.2 n) J (pthL (vcX (M 159)) tw J (dcl tw (dS (vcX (M 159)) tw J)) 161 s) b)))) 0 0 (gA g) := by
  refine met_z (cc := cX6_paths) (maxL := 8) (by decide) rfl ⟨rfl, rfl⟩ (Nat.le_of_ble_eq_true rfl) (fun x hx h hret => ?_)
  replace h : Cxk x g cX6_paths 8 wsX6_paths RX6 rmX6_paths := h
  show X x 0 [(0, .ref (g.1 158)), (1, .int (nI n)), (2, .int (nI pk))] [] M P
  have hN := hI.1.1
  have hN6 := hI.1.2.1
  have hK := hI.1.2.2.1
  have hK12 := hI.1.2.2.2.1
  have hvc := hI.1.vc
  have hprX := hI.1.pr
  have htw : ∀ a w, tw a = some w → w ≤ 59 := fun a w e => by
      by_cases ha : a < 162
      · rw [hTJ a ha] at e
        by_cases q : J a = true
        · rw [if_pos q] at e; cases e; omega
        · rw [if_neg q] at e; exact twG_le hI.1 a w e
      · rw [hTN a (by omega)] at e; cases e
  obtain ⟨D, hD⟩ : ∃ D, D = (dcl tw (dS (vcX (M 159)) tw J)) := ⟨_, rfl⟩
  refine x_aload_n h 0 dX6_paths_0 rfl rfl ?_
  refine x_iload_n h 1 dX6_paths_1 rfl rfl ?_
  refine x_callVv h (As := [.int (nI n)]) 1 hx (c_X6_measures hI hn hdg hJ hTJ hTN) gX6_paths_X6_measures rfl ⟨rfl, rfl⟩ (by decide +kernel) rfl (by decide) (by decide) E_158 rfl rfl (Nat.le_of_ble_eq_true rfl) dX6_paths_2 (fun M2 P' hp => ?_)
  obtain ⟨rfl, hF1, d, hS, hd1⟩ := hp
  refine x_aload_n h 0 dX6_paths_5 rfl rfl ?_
  refine x_iload_n h 1 dX6_paths_6 rfl rfl ?_
  refine x_iload_n h 2 dX6_paths_7 rfl rfl ?_
  refine x_callV h (As := [.int (nI n), .int (nI pk)]) 2 hx (c_X6_of (by omega) (by omega)) gX6_paths_X6_of rfl ⟨rfl, rfl⟩ (by decide +kernel) rfl (by decide) (by decide) E_158 rfl rfl (Nat.le_of_ble_eq_true rfl) dX6_paths_8 (fun rv M' P' hp => ?_)
  obtain ⟨⟨rfl, rfl⟩, rfl⟩ := hp
  refine x_top (nI p) (by rw [hF1 159 (by decide)]; exact hpp) ?_
  refine x_istore_n h [(3, .int (nI p)), (0, .ref (g.1 158)), (1, .int (nI n)), (2, .int (nI pk))] dX6_paths_11 rfl (by decide) rfl ?_
  have J40 : ∀ (s : Nat), (s = if d (p + 81) < d p then p + 81 else p) → X x 40 [(0, .ref (g.1 158)), (1, .int (nI n)), (4, .int (nI s))] [] M2 P := by
    intro s hs
    have hM := ME_of hS hD hvc.2 htw
    have hs162 : s < 162 := by rw [hs]; split <;> omega
    have hst := st_M hM hp81 (tw_own hTJ (by omega) ho.1) (tw_own hTJ (by omega) ho.2) hS.1 (fun a ha => by rw [hD]; exact dcl_le hvc.2.1 tw J ha) hs
    refine x_aload_n h 0 dX6_paths_40 rfl rfl ?_
    refine xg_X6_8 h in_X6_paths_X6 (by decide +kernel) dX6_paths_41 ?_
    refine x_iload h 2 dX6_paths_44 rfl ?_
    refine xl_164 h dX6_paths_46 (by omega) ?_
    refine x_top (nI (d s)) (hd1 s hs162) ?_
    refine x_ldc h (nI 1000000000) (by decide +kernel) dX6_paths_47 ?_
    refine x_icmp_ne_n h 54 dX6_paths_49 (by decide) (by first | omega | (have := hS.1 p (by omega); have := hS.1 (p + 81) (by omega); omega) | (have := hS.1 s hs162; omega) | (rw [List.length_append]; omega)) (by decide) (fun c_49 => ?_) (fun c_49 => ?_)
    · -- 49 true
      have hst2 := hst.2 c_49
      refine x_aload_n h 0 dX6_paths_54 rfl rfl ?_
      refine x_dup h dX6_paths_55 rfl ?_
      refine xg_X6_12 h in_X6_paths_X6 (by decide +kernel) dX6_paths_56 ?_
      refine x_top (nI z) (by rw [hF1 158 (by decide)]; exact hz) ?_
      refine x_aload_n h 0 dX6_paths_59 rfl rfl ?_
      refine xg_X6_8 h in_X6_paths_X6 (by decide +kernel) dX6_paths_60 ?_
      refine x_iload h 2 dX6_paths_63 rfl ?_
      refine xl_164 h dX6_paths_65 (by omega) ?_
      refine x_top (nI (d s)) (hd1 s hs162) ?_
      refine x_iadd_n h dX6_paths_66 ?_
      refine xp_X6_12 h in_X6_paths_X6 (by decide +kernel) dX6_paths_67 ?_
      refine x_aload_n h 0 dX6_paths_70 rfl rfl ?_
      refine xg_X6_11 h in_X6_paths_X6 (by decide +kernel) dX6_paths_71 ?_
      refine x_top (nI L.length) (by rw [st2_k, pk_un (by decide), hF1 158 (by decide)]; exact hR.1) ?_
      obtain ⟨Wc, hWc⟩ : ∃ q : Nat → Nat → Int32, q = st2 M2 158 12 (nI (z + (d s))) := ⟨_, rfl⟩
      refine x_mem Wc hWc.symm ?_
      have hck : ∀ k, k ≠ 158 → Wc k = M2 k := fun k hk => by rw [hWc, st2_n _ _ _ hk]
      have hc8 : ∀ j, j ≠ 12 → Wc 158 j = M 158 j := fun j hj => by rw [hWc, st2_k, pk_un hj, hF1 158 (by decide)]
      have hc12 : Wc 158 12 = nI (z + d s) := by rw [hWc, st2_k, pk_us]
      refine x_istore h [(5, .int (nI L.length)), (0, .ref (g.1 158)), (1, .int (nI n)), (4, .int (nI s))] dX6_paths_74 (by decide) rfl ?_
      have L76 : ∀ (fu : Nat) (l : List Nat) (a : Nat) (W : Nat → Nat → Int32), (d a) < fu → (PI6 (vcX (M 159)) tw J d D s l a) → (∀ k, k ≠ 158 → k ≠ 166 → W k = Wc k) → (∀ j, j ≠ 11 → W 158 j = Wc 158 j) → (RtN W (L ++ l)) → X x 76 [(0, .ref (g.1 158)), (1, .int (nI n)), (4, .int (nI a)), (5, .int (nI L.length))] [] W P := by
        intro fu
        induction fu with
        | zero => intro l a W hmu76; exact absurd hmu76 (Nat.not_lt_zero _)
        | succ fu ih76 =>
          intro l a W hmu76 hPI hWk hW8 hRl
          have ha : a < 162 := hPI.2.2.1
          have hll : l.length ≤ 161 := by have := hPI.2.1; omega
          refine x_aload_n h 0 dX6_paths_76 rfl rfl ?_
          refine xg_X6_9 h in_X6_paths_X6 (by decide +kernel) dX6_paths_77 ?_
          refine x_iload h 2 dX6_paths_80 rfl ?_
          refine xl_165 h dX6_paths_82 (by omega) ?_
          refine x_top ((bI (J a))) (by rw [hWk 165 (by decide) (by decide), hck 165 (by decide), hF1 165 (by decide)]; exact hJ a ha) ?_
          refine x_if_ne h 119 dX6_paths_83 (by decide) (fun c_83 => ?_) (fun c_83 => ?_)
          · -- 83 true
            refine x_aload_n h 0 dX6_paths_119 rfl rfl ?_
            refine xg_X6_10 h in_X6_paths_X6 (by decide +kernel) dX6_paths_120 ?_
            refine x_aload_n h 0 dX6_paths_123 rfl rfl ?_
            refine xg_X6_11 h in_X6_paths_X6 (by decide +kernel) dX6_paths_124 ?_
            refine x_top (nI ((L ++ l).length)) (hRl.1) ?_
            refine x_iload h 2 dX6_paths_127 rfl ?_
            refine xs_166 h dX6_paths_129 (by rw [List.length_append]; omega) ?_
            refine x_aload_n h 0 dX6_paths_130 rfl rfl ?_
            refine x_dup h dX6_paths_131 rfl ?_
            refine xg_X6_11 h in_X6_paths_X6 (by decide +kernel) dX6_paths_132 ?_
            refine x_top (nI ((L ++ l).length)) (by rw [st2_n _ _ _ (by decide)]; exact hRl.1) ?_
            refine x_iconst h (nI 1) dX6_paths_135 (by decide) ?_
            refine x_iadd_n h dX6_paths_136 ?_
            refine xp_X6_11 h in_X6_paths_X6 (by decide +kernel) dX6_paths_137 ?_
            obtain ⟨W2, hW2⟩ : ∃ q : Nat → Nat → Int32, q = st2 (st2 W 166 ((L ++ l).length) (nI a)) 158 11 (nI (((L ++ l).length) + 1)) := ⟨_, rfl⟩
            refine x_mem W2 hW2.symm ?_
            have hpl0 := PI6_e hPI (bI_1 c_83)
            obtain ⟨pl, hple⟩ : ∃ pl, pl = l ++ [a] := ⟨_, rfl⟩
            rw [← hple] at hpl0
            have hR2 : RtN W2 (L ++ pl) := by rw [hW2, hple, ← List.append_assoc]; exact RtN_s hRl a
            have hW2k : ∀ k, k ≠ 158 → k ≠ 166 → W2 k = Wc k := fun k h1 h2 => by rw [hW2, st2_n _ _ _ h1, st2_n _ _ _ h2]; exact hWk k h1 h2
            have hW28 : ∀ j, j ≠ 11 → W2 158 j = Wc 158 j := fun j hj => by rw [hW2, st2_k, pk_un hj, st2_n _ _ _ (by decide)]; exact hW8 j hj
            have hplt : ∀ b, b ∈ pl → b < 162 := fun b hb => by rw [← hpl0] at hb; exact pth_lt 161 s hs162 b hb
            have hpll : pl.length ≤ 162 := by rw [← hpl0]; exact pth_len 161 s
            refine x_iload h 3 dX6_paths_140 rfl ?_
            refine x_istore h [(6, .int (nI L.length)), (0, .ref (g.1 158)), (1, .int (nI n)), (4, .int (nI a)), (5, .int (nI L.length))] dX6_paths_142 (by decide) rfl ?_
            have L144 : ∀ (fu : Nat) (m : Nat) (W3 : Nat → Nat → Int32), (pl.length - m) < fu → (m ≤ pl.length) → (∀ k, k ≠ 165 → W3 k = W2 k) → (∀ b, b < 162 → W3 165 b = bI (J b || decide (b ∈ pl.take m))) → X x 144 [(0, .ref (g.1 158)), (1, .int (nI n)), (6, .int (nI (L.length + m)))] [] W3 P := by
              intro fu
              induction fu with
              | zero => intro m W3 hmu144; exact absurd hmu144 (Nat.not_lt_zero _)
              | succ fu ih144 =>
                intro m W3 hmu144 hm hW3k hj3
                refine x_iload h 2 dX6_paths_144 rfl ?_
                refine x_aload_n h 0 dX6_paths_146 rfl rfl ?_
                refine xg_X6_11 h in_X6_paths_X6 (by decide +kernel) dX6_paths_147 ?_
                refine x_top (nI ((L ++ pl).length)) (by rw [hW3k 158 (by decide)]; exact hR2.1) ?_
                refine x_icmp_ge_n h 172 dX6_paths_150 (by decide) (by first | omega | (have := hS.1 p (by omega); have := hS.1 (p + 81) (by omega); omega) | (have := hS.1 s hs162; omega) | (rw [List.length_append]; omega)) (by first | omega | (have := hS.1 p (by omega); have := hS.1 (p + 81) (by omega); omega) | (have := hS.1 s hs162; omega) | (rw [List.length_append]; omega)) (fun c_150 => ?_) (fun c_150 => ?_)
                · -- 150 true
                  have hme : m = pl.length := by rw [List.length_append] at c_150; omega
                  rw [hme, List.take_length] at hj3
                  refine x_iconst h (nI 0) dX6_paths_172 (by decide) ?_
                  refine x_istore h [(6, .int (nI 0)), (0, .ref (g.1 158)), (1, .int (nI n))] dX6_paths_173 (by decide) rfl ?_
                  have L175 : ∀ (fu : Nat) (k : Nat) (Jk : Nat → Bool) (W4 : Nat → Nat → Int32), (3 - k) < fu → (k ≤ 3) → (∀ q, q ≠ 165 → W4 q = W2 q) → (∀ b, b < 162 → W4 165 b = bI (Jk b)) → (∀ b, b < 162 → (Jk b = true ↔ JP (M 159) n (fun b => J b = true ∨ b ∈ pl) k b)) → X x 175 [(0, .ref (g.1 158)), (1, .int (nI n)), (6, .int (nI k))] [] W4 P := by
                    intro fu
                    induction fu with
                    | zero => intro k Jk W4 hmu175; exact absurd hmu175 (Nat.not_lt_zero _)
                    | succ fu ih175 =>
                      intro k Jk W4 hmu175 hk hW4k hJk hJP
                      have e159 : W4 159 = M 159 := by rw [hW4k 159 (by decide), hW2k 159 (by decide) (by decide), hck 159 (by decide), hF1 159 (by decide)]
                      refine x_iload h 2 dX6_paths_175 rfl ?_
                      refine x_iconst h (nI 3) dX6_paths_177 (by decide) ?_
                      refine x_icmp_ge_n h 231 dX6_paths_178 (by decide) (by first | omega | (have := hS.1 p (by omega); have := hS.1 (p + 81) (by omega); omega) | (have := hS.1 s hs162; omega) | (rw [List.length_append]; omega)) (by decide) (fun c_178 => ?_) (fun c_178 => ?_)
                      · -- 178 true
                        refine x_iconst h (nI 1) dX6_paths_231 (by decide) ?_
                        exact hret _ _ _ _ _ dX6_paths_232 (by decide) (by 
                                                      refine ⟨rfl, ⟨fun k hk => ?_, fun j h1 h2 => ?_⟩, Or.inr ⟨s, ?_, rfl, ?_, ?_, ?_⟩⟩
                                                      · rw [hW4k k (by omega), hW2k k (by omega) (by omega), hck k (by omega), hF1 k (by omega)]
                                                      · rw [hW4k 158 (by decide), hW28 j h1, hc8 j h2]
                                                      · rw [← hD]; exact hst2.1
                                                      · rw [← hD, hpl0]; exact RtN_cg (by rw [hW4k 158 (by decide)]) (hW4k 166 (by decide)) hR2
                                                      · rw [← hD, hst2.2.1, hW4k 158 (by decide), hW28 12 (by decide)]; exact hc12
                                                      · rw [← hD, hpl0]; intro b hb; obtain rfl : k = 3 := (by omega); rw [hJk b hb]; exact congrArg bI (bool_ext ((hJP b hb).trans (JP_end hb hplt (pin_ok hI hn) (pin_pv hI hn) (pin_pr hI hn) hJc))))
                      · -- 178 false
                        refine x_aload_n h 0 dX6_paths_181 rfl rfl ?_
                        refine x_iload_n h 1 dX6_paths_182 rfl rfl ?_
                        refine x_iload h 2 dX6_paths_183 rfl ?_
                        refine x_callV h (As := [.int (nI n), .int (nI k)]) 2 hx (c_X6_of (by omega) (by omega)) gX6_paths_X6_of rfl ⟨rfl, rfl⟩ (by decide +kernel) rfl (by decide) (by decide) E_158 rfl rfl (Nat.le_of_ble_eq_true rfl) dX6_paths_185 (fun rv M' P' hp => ?_)
                        obtain ⟨⟨rfl, rfl⟩, rfl⟩ := hp
                        refine x_top ((M 159 (169 + 9 * n + k))) (by rw [e159]) ?_
                        refine x_istore h [(7, .int (M 159 (169 + 9 * n + k))), (0, .ref (g.1 158)), (1, .int (nI n)), (6, .int (nI k))] dX6_paths_188 (by decide) rfl ?_
                        refine x_iload h 0 dX6_paths_190 rfl ?_
                        refine x_if_lt h 225 dX6_paths_192 (by decide) (fun c_192 => ?_) (fun c_192 => ?_)
                        · -- 192 true
                          have hnp : ∀ q, q < 81 → ¬ M 159 (169 + 9 * n + k) = nI q := fun q hq e => by rw [e] at c_192; exact nI_pos (by omega) c_192
                          refine x_iinc_n h 3 (n := 1) [(6, .int (nI (k + 1))), (7, .int (M 159 (169 + 9 * n + k))), (0, .ref (g.1 158)), (1, .int (nI n))] dX6_paths_225 rfl (by decide) rfl ?_
                          refine x_goto h 175 dX6_paths_228 (by decide) ?_
                          exact x_lv (ih175 (k + 1) Jk W4 (by omega) (by omega) (by exact hW4k) (by exact hJk) (by first | exact fun b hb => (hJP b hb).trans (JP_no hnp).symm | exact fun b hb => (hJP b hb).trans (JP_off hq81 hq (fun z => by have := (hJP q (by omega)).mpr z; rw [bI_0 c_202] at this; cases this) (fun z => by have := (hJP (q + 81) (by omega)).mpr z; rw [bI_0 c_215] at this; cases this)).symm)) [2, 3, 0] rfl
                        · -- 192 false
                          obtain ⟨q, hq81, hq⟩ := pin_ex hI hn (by omega) c_192
                          refine x_lvr (lv' := [(7, .int (nI q)), (0, .ref (g.1 158)), (1, .int (nI n)), (6, .int (nI k))]) ?_ (by rw [hq])
                          refine x_aload_n h 1 dX6_paths_195 rfl rfl ?_
                          refine xg_X6_9 h in_X6_paths_X6 (by decide +kernel) dX6_paths_196 ?_
                          refine x_iload h 0 dX6_paths_199 rfl ?_
                          refine xl_165 h dX6_paths_201 (by omega) ?_
                          refine x_top ((bI (Jk q))) (hJk q (by omega)) ?_
                          refine x_if_ne h 218 dX6_paths_202 (by decide) (fun c_202 => ?_) (fun c_202 => ?_)
                          · -- 202 true
                            have hon : JP (M 159) n (fun b => J b = true ∨ b ∈ pl) k q ∨ JP (M 159) n (fun b => J b = true ∨ b ∈ pl) k (q + 81) := by first | exact Or.inl ((hJP q (by omega)).mp (bI_1 c_202)) | exact Or.inr ((hJP (q + 81) (by omega)).mp (bI_1 c_215))
                            refine x_aload_n h 1 dX6_paths_218 rfl rfl ?_
                            refine x_iload_n h 2 dX6_paths_219 rfl rfl ?_
                            refine x_iload h 3 dX6_paths_220 rfl ?_
                            refine x_callVv h (As := [.int (nI n), .int (nI k)]) 2 hx (c_X6_joinsPin (n := n) (k := k) (p := q) (by omega) (by omega) (by rw [e159]; exact hq) hq81) gX6_paths_X6_joinsPin rfl ⟨rfl, rfl⟩ (by decide +kernel) rfl (by decide) (by decide) E_158 rfl rfl (Nat.le_of_ble_eq_true rfl) dX6_paths_222 (fun M222 P' hp => ?_)
                            obtain ⟨rfl, hM222⟩ := hp
                            refine x_iinc_n h 3 (n := 1) [(6, .int (nI (k + 1))), (7, .int (nI q)), (0, .ref (g.1 158)), (1, .int (nI n))] dX6_paths_225 rfl (by decide) rfl ?_
                            refine x_goto h 175 dX6_paths_228 (by decide) ?_
                            exact x_lv (ih175 (k + 1) (fun b => Jk b || decide (b = q) || decide (b = q + 81)) M222 (by omega) (by omega) (by exact fun k hk => by rw [hM222, st2_n _ _ _ hk, st2_n _ _ _ hk]; exact hW4k k hk) (by rw [hM222]; exact jk_u hJk) (by exact fun b hb => by rw [JP_on hq81 hq hon, ← hJP b hb]; exact jp_u)) [2, 3, 0] rfl
                          · -- 202 false
                            refine x_aload_n h 1 dX6_paths_205 rfl rfl ?_
                            refine xg_X6_9 h in_X6_paths_X6 (by decide +kernel) dX6_paths_206 ?_
                            refine x_bipush h (nI 81) dX6_paths_209 (by decide) ?_
                            refine x_iload h 0 dX6_paths_211 rfl ?_
                            refine x_iadd_n h dX6_paths_213 ?_
                            refine xl_165 h dX6_paths_214 (by omega) ?_
                            refine x_top ((bI (Jk (q + 81)))) (by rw [show 81 + q = q + 81 by omega]; exact hJk _ (by omega)) ?_
                            refine x_if_eq h 225 dX6_paths_215 (by decide) (fun c_215 => ?_) (fun c_215 => ?_)
                            · -- 215 true
                              refine x_iinc_n h 3 (n := 1) [(6, .int (nI (k + 1))), (7, .int (nI q)), (0, .ref (g.1 158)), (1, .int (nI n))] dX6_paths_225 rfl (by decide) rfl ?_
                              refine x_goto h 175 dX6_paths_228 (by decide) ?_
                              exact x_lv (ih175 (k + 1) Jk W4 (by omega) (by omega) (by exact hW4k) (by exact hJk) (by first | exact fun b hb => (hJP b hb).trans (JP_no hnp).symm | exact fun b hb => (hJP b hb).trans (JP_off hq81 hq (fun z => by have := (hJP q (by omega)).mpr z; rw [bI_0 c_202] at this; cases this) (fun z => by have := (hJP (q + 81) (by omega)).mpr z; rw [bI_0 c_215] at this; cases this)).symm)) [2, 3, 0] rfl
                            · -- 215 false
                              have hon : JP (M 159) n (fun b => J b = true ∨ b ∈ pl) k q ∨ JP (M 159) n (fun b => J b = true ∨ b ∈ pl) k (q + 81) := by first | exact Or.inl ((hJP q (by omega)).mp (bI_1 c_202)) | exact Or.inr ((hJP (q + 81) (by omega)).mp (bI_1 c_215))
                              refine x_aload_n h 1 dX6_paths_218 rfl rfl ?_
                              refine x_iload_n h 2 dX6_paths_219 rfl rfl ?_
                              refine x_iload h 3 dX6_paths_220 rfl ?_
                              refine x_callVv h (As := [.int (nI n), .int (nI k)]) 2 hx (c_X6_joinsPin (n := n) (k := k) (p := q) (by omega) (by omega) (by rw [e159]; exact hq) hq81) gX6_paths_X6_joinsPin rfl ⟨rfl, rfl⟩ (by decide +kernel) rfl (by decide) (by decide) E_158 rfl rfl (Nat.le_of_ble_eq_true rfl) dX6_paths_222 (fun M222_1 P' hp => ?_)
                              obtain ⟨rfl, hM222_1⟩ := hp
                              refine x_iinc_n h 3 (n := 1) [(6, .int (nI (k + 1))), (7, .int (nI q)), (0, .ref (g.1 158)), (1, .int (nI n))] dX6_paths_225 rfl (by decide) rfl ?_
                              refine x_goto h 175 dX6_paths_228 (by decide) ?_
                              exact x_lv (ih175 (k + 1) (fun b => Jk b || decide (b = q) || decide (b = q + 81)) M222_1 (by omega) (by omega) (by exact fun k hk => by rw [hM222_1, st2_n _ _ _ hk, st2_n _ _ _ hk]; exact hW4k k hk) (by rw [hM222_1]; exact jk_u hJk) (by exact fun b hb => by rw [JP_on hq81 hq hon, ← hJP b hb]; exact jp_u)) [2, 3, 0] rfl
                  exact x_lv (L175 _ 0 (fun b => J b || decide (b ∈ pl)) W3 (Nat.lt_succ_self _) (by omega) (by exact hW3k) (by exact hj3) (by exact fun b _ => j0_iff)) [1, 2, 0] rfl
                · -- 150 false
                  have hm2 : m < pl.length := by rw [List.length_append] at c_150; omega
                  refine x_aload_n h 0 dX6_paths_153 rfl rfl ?_
                  refine xg_X6_9 h in_X6_paths_X6 (by decide +kernel) dX6_paths_154 ?_
                  refine x_aload_n h 0 dX6_paths_157 rfl rfl ?_
                  refine xg_X6_10 h in_X6_paths_X6 (by decide +kernel) dX6_paths_158 ?_
                  refine x_iload h 2 dX6_paths_161 rfl ?_
                  refine xl_166 h dX6_paths_163 (by omega) ?_
                  refine x_top (nI (pl.getD m 0)) (by rw [hW3k 166 (by decide), hR2.2 _ (by rw [List.length_append]; omega), getD_app]) ?_
                  refine x_iconst h (nI 1) dX6_paths_164 (by decide) ?_
                  refine xs_165 h dX6_paths_165 (by decide) (by exact hplt _ (getD_mem hm2)) ?_
                  refine x_iinc_n h 2 (n := 1) [(6, .int (nI ((L.length + m) + 1))), (0, .ref (g.1 158)), (1, .int (nI n))] dX6_paths_166 rfl (by decide) rfl ?_
                  refine x_goto h 144 dX6_paths_169 (by decide) ?_
                  exact x_lv (ih144 (m + 1) (st2 W3 165 (pl.getD m 0) (nI 1)) (by omega) (by omega) (by exact fun k hk => (st2_n _ _ _ hk).trans (hW3k k hk)) (by exact jtk_s hm2 hj3)) [1, 2, 0] rfl
            exact x_lv (L144 _ 0 W2 (Nat.lt_succ_self _) (by exact Nat.zero_le _) (by exact fun _ _ => rfl) (by exact fun b hb => by rw [hW2k 165 (by decide) (by decide), hck 165 (by decide), hF1 165 (by decide), hJ b hb]; congr 1; rw [List.take_zero, decide_eq_false List.not_mem_nil, Bool.or_false])) [1, 2, 0] rfl
          · -- 83 false
            refine x_aload_n h 0 dX6_paths_86 rfl rfl ?_
            refine xg_X6_10 h in_X6_paths_X6 (by decide +kernel) dX6_paths_87 ?_
            refine x_aload_n h 0 dX6_paths_90 rfl rfl ?_
            refine xg_X6_11 h in_X6_paths_X6 (by decide +kernel) dX6_paths_91 ?_
            refine x_top (nI ((L ++ l).length)) (hRl.1) ?_
            refine x_iload h 2 dX6_paths_94 rfl ?_
            refine xs_166 h dX6_paths_96 (by rw [List.length_append]; omega) ?_
            refine x_aload_n h 0 dX6_paths_97 rfl rfl ?_
            refine x_dup h dX6_paths_98 rfl ?_
            refine xg_X6_11 h in_X6_paths_X6 (by decide +kernel) dX6_paths_99 ?_
            refine x_top (nI ((L ++ l).length)) (by rw [st2_n _ _ _ (by decide)]; exact hRl.1) ?_
            refine x_iconst h (nI 1) dX6_paths_102 (by decide) ?_
            refine x_iadd_n h dX6_paths_103 ?_
            refine xp_X6_11 h in_X6_paths_X6 (by decide +kernel) dX6_paths_104 ?_
            obtain ⟨W1, hW1⟩ : ∃ q : Nat → Nat → Int32, q = st2 (st2 W 166 ((L ++ l).length) (nI a)) 158 11 (nI (((L ++ l).length) + 1)) := ⟨_, rfl⟩
            refine x_mem W1 hW1.symm ?_
            have hWk1 : ∀ k, k ≠ 158 → k ≠ 166 → W1 k = Wc k := fun k h1 h2 => by rw [hW1, st2_n _ _ _ h1, st2_n _ _ _ h2]; exact hWk k h1 h2
            have hW81 : ∀ j, j ≠ 11 → W1 158 j = Wc 158 j := fun j hj => by rw [hW1, st2_k, pk_un hj, st2_n _ _ _ (by decide)]; exact hW8 j hj
            have hRl1 : RtN W1 (L ++ (l ++ [a])) := by rw [hW1, ← List.append_assoc]; exact RtN_s hRl a
            have e159 : W1 159 = M 159 := by rw [hWk1 159 (by decide) (by decide), hck 159 (by decide), hF1 159 (by decide)]
            have e164 : W1 164 = M2 164 := by rw [hWk1 164 (by decide) (by decide), hck 164 (by decide)]
            have e165 : W1 165 = M 165 := by rw [hWk1 165 (by decide) (by decide), hck 165 (by decide), hF1 165 (by decide)]
            have e13 : W1 158 13 = M 158 13 := by rw [hW81 13 (by decide), hc8 13 (by decide)]
            refine x_aload_n h 0 dX6_paths_107 rfl rfl ?_
            refine x_iload_n h 1 dX6_paths_108 rfl rfl ?_
            refine x_iload h 2 dX6_paths_109 rfl ?_
            refine x_callV h (As := [.int (nI n), .int (nI a)]) 2 hx (c_X6_nextOf (N := N) (K := K) (B := B) (by rw [e159]; exact hI) hn (dg := dg) (by rw [e13]; exact hdg) (J := J) (fun a ha => by rw [e165]; exact hJ a ha) (tw := tw) (fun a ha => by rw [e159]; exact hTJ a ha) hTN (d := d) (fun a ha => by rw [e164]; exact hd1 a ha) hS.1 ha) gX6_paths_X6_nextOf rfl ⟨rfl, rfl⟩ (by decide +kernel) rfl (by decide) (by decide) E_158 rfl rfl (Nat.le_of_ble_eq_true rfl) dX6_paths_111 (fun rv M' P' hp => ?_)
            obtain ⟨⟨rfl, rfl⟩, rfl⟩ := hp
            obtain ⟨t, ht, hPIt, hdt⟩ := PI6_s hS hM hvc.2 hPI (bI_0 c_83)
            refine x_top (nI t) (by rw [e159, ht]; rfl) ?_
            refine x_istore h [(4, .int (nI t)), (0, .ref (g.1 158)), (1, .int (nI n)), (5, .int (nI L.length))] dX6_paths_114 (by decide) rfl ?_
            refine x_goto h 76 dX6_paths_116 (by decide) ?_
            exact x_lv (ih76 (l ++ [a]) t W1 (by omega) (by exact hPIt) (by exact hWk1) (by exact hW81) (by exact hRl1)) [1, 2, 0, 3] rfl
      exact x_lv (L76 _ ([]) s Wc (Nat.lt_succ_self _) (by exact PI6_0 hs162 hst2.2.2.2 hst2.2.2.1) (by exact fun _ _ _ => rfl) (by exact fun _ _ => rfl) (by rw [List.append_nil]; exact RtN_cg (hc8 11 (by decide)) (by rw [hck 166 (by decide), hF1 166 (by decide)]) hR)) [1, 2, 3, 0] rfl
    · -- 49 false
      refine x_iconst h (nI 0) dX6_paths_52 (by decide) ?_
      exact hret _ _ _ _ _ dX6_paths_53 (by decide) (by refine ⟨rfl, ⟨fun k hk => hF1 k (by omega), fun j _ _ => by rw [hF1 158 (by decide)]⟩, Or.inl ⟨?_, rfl⟩⟩; rw [← hD]; exact hst.1 c_49)
  refine x_aload_n h 1 dX6_paths_12 rfl rfl ?_
  refine xg_X6_8 h in_X6_paths_X6 (by decide +kernel) dX6_paths_13 ?_
  refine x_bipush h (nI 81) dX6_paths_16 (by decide) ?_
  refine x_iload_n h 0 dX6_paths_18 rfl rfl ?_
  refine x_iadd_n h dX6_paths_19 ?_
  refine xl_164 h dX6_paths_20 (by omega) ?_
  refine x_top (nI (d (p + 81))) (by rw [show 81 + p = p + 81 by omega]; exact hd1 _ (by omega)) ?_
  refine x_aload_n h 1 dX6_paths_21 rfl rfl ?_
  refine xg_X6_8 h in_X6_paths_X6 (by decide +kernel) dX6_paths_22 ?_
  refine x_iload_n h 0 dX6_paths_25 rfl rfl ?_
  refine xl_164 h dX6_paths_26 (by omega) ?_
  refine x_top (nI (d p)) (hd1 p (by omega)) ?_
  refine x_icmp_ge_n h 37 dX6_paths_27 (by decide) (by first | omega | (have := hS.1 p (by omega); have := hS.1 (p + 81) (by omega); omega) | (have := hS.1 s hs162; omega) | (rw [List.length_append]; omega)) (by first | omega | (have := hS.1 p (by omega); have := hS.1 (p + 81) (by omega); omega) | (have := hS.1 s hs162; omega) | (rw [List.length_append]; omega)) (fun c_27 => ?_) (fun c_27 => ?_)
  · -- 27 true
    refine x_iload_n h 0 dX6_paths_37 rfl rfl ?_
    refine x_istore h [(4, .int (nI p)), (3, .int (nI p)), (0, .ref (g.1 158)), (1, .int (nI n)), (2, .int (nI pk))] dX6_paths_38 (by decide) rfl ?_
    exact x_lv (J40 p (by first | (rw [if_pos (by omega)]; omega) | rw [if_neg (by omega)])) [2, 3, 0] rfl
  · -- 27 false
    refine x_bipush h (nI 81) dX6_paths_30 (by decide) ?_
    refine x_iload_n h 0 dX6_paths_32 rfl rfl ?_
    refine x_iadd_n h dX6_paths_33 ?_
    refine x_goto h 38 dX6_paths_34 (by decide) ?_
    refine x_istore h [(4, .int (nI (81 + p))), (3, .int (nI p)), (0, .ref (g.1 158)), (1, .int (nI n)), (2, .int (nI pk))] dX6_paths_38 (by decide) rfl ?_
    exact x_lv (J40 (81 + p) (by first | (rw [if_pos (by omega)]; omega) | rw [if_neg (by omega)])) [2, 3, 0] rfl

set_option maxRecDepth 20000 in
theorem ggX6_routes_X6_joinsPin : GoodIn wsX6_routes wsX6_joinsPin := goodIn_r _ [9, 4, 10, 11, 12, 8, 13, 14, 40, 41, 42, 43, 44, 45, 46, 47, 48, 49, 50, 51, 52, 53, 54, 55, 56, 57, 58] (by decide +kernel) (by decide +kernel)
set_option maxRecDepth 20000 in
theorem gX6_routes_X6_joinsPin : GoodIn wsX6_routes (wsV RX6 117 RX6 yX6_joinsPin wsX6_joinsPin) := goodIn_app (goodIn_of _ (by decide +kernel)) ggX6_routes_X6_joinsPin
set_option maxRecDepth 20000 in
theorem ggX6_routes_X6_paths : GoodIn wsX6_routes wsX6_paths := goodIn_r _ [18, 19, 20, 3, 2, 4, 21, 22, 23, 24, 8, 25, 26, 27, 28, 29, 30, 31, 32, 14, 1, 33, 34, 35, 10, 11, 12, 13, 36, 37, 38, 39, 5, 6, 7, 9, 40, 41, 42, 43, 44, 45, 46, 47, 48, 49, 50, 51, 52, 53, 54, 55, 56, 57, 58] (by decide +kernel) (by decide +kernel)
set_option maxRecDepth 20000 in
theorem gX6_routes_X6_paths : GoodIn wsX6_routes (wsV RX6 121 RX6 yX6_paths wsX6_paths) := goodIn_app (goodIn_of _ (by decide +kernel)) ggX6_routes_X6_paths
set_option maxRecDepth 20000 in
theorem ggX6_routes_X6_of : GoodIn wsX6_routes wsX6_of := goodIn_r _ [13, 14, 40, 41, 42, 43, 44, 45, 46, 47, 48, 49, 50, 51, 52, 53, 54, 55, 56, 57, 58] (by decide +kernel) (by decide +kernel)
set_option maxRecDepth 20000 in
theorem gX6_routes_X6_of : GoodIn wsX6_routes (wsV RX6 42 RX6 yX6_of wsX6_of) := goodIn_app (goodIn_of _ (by decide +kernel)) ggX6_routes_X6_of
theorem dX6_routes_0 : decode cX6_routes 0 = .ok (.aload_n 0, 1) := by decide +kernel
theorem dX6_routes_1 : decode cX6_routes 1 = .ok (.iload_n 2, 1) := by decide +kernel
theorem dX6_routes_2 : decode cX6_routes 2 = .ok (.putfield 92, 3) := by decide +kernel
theorem dX6_routes_5 : decode cX6_routes 5 = .ok (.aload_n 0, 1) := by decide +kernel
theorem dX6_routes_6 : decode cX6_routes 6 = .ok (.iconst 0, 1) := by decide +kernel
theorem dX6_routes_7 : decode cX6_routes 7 = .ok (.putfield 111, 3) := by decide +kernel
theorem dX6_routes_10 : decode cX6_routes 10 = .ok (.aload_n 0, 1) := by decide +kernel
theorem dX6_routes_11 : decode cX6_routes 11 = .ok (.iconst 0, 1) := by decide +kernel
theorem dX6_routes_12 : decode cX6_routes 12 = .ok (.putfield 108, 3) := by decide +kernel
theorem dX6_routes_15 : decode cX6_routes 15 = .ok (.iconst 0, 1) := by decide +kernel
theorem dX6_routes_16 : decode cX6_routes 16 = .ok (.istore_n 3, 1) := by decide +kernel
theorem dX6_routes_17 : decode cX6_routes 17 = .ok (.iload_n 3, 1) := by decide +kernel
theorem dX6_routes_18 : decode cX6_routes 18 = .ok (.sipush 162, 3) := by decide +kernel
theorem dX6_routes_21 : decode cX6_routes 21 = .ok (.if_icmp .ge 16, 3) := by decide +kernel
theorem dX6_routes_24 : decode cX6_routes 24 = .ok (.aload_n 0, 1) := by decide +kernel
theorem dX6_routes_25 : decode cX6_routes 25 = .ok (.getfield 28, 3) := by decide +kernel
theorem dX6_routes_28 : decode cX6_routes 28 = .ok (.iload_n 3, 1) := by decide +kernel
theorem dX6_routes_29 : decode cX6_routes 29 = .ok (.iconst 0, 1) := by decide +kernel
theorem dX6_routes_30 : decode cX6_routes 30 = .ok (.bastore, 1) := by decide +kernel
theorem dX6_routes_31 : decode cX6_routes 31 = .ok (.iinc 3 1, 3) := by decide +kernel
theorem dX6_routes_34 : decode cX6_routes 34 = .ok (.goto (-17), 3) := by decide +kernel
theorem dX6_routes_37 : decode cX6_routes 37 = .ok (.aload_n 0, 1) := by decide +kernel
theorem dX6_routes_38 : decode cX6_routes 38 = .ok (.iload_n 1, 1) := by decide +kernel
theorem dX6_routes_39 : decode cX6_routes 39 = .ok (.iconst 0, 1) := by decide +kernel
theorem dX6_routes_40 : decode cX6_routes 40 = .ok (.invokevirtual 117, 3) := by decide +kernel
theorem dX6_routes_43 : decode cX6_routes 43 = .ok (.aload_n 0, 1) := by decide +kernel
theorem dX6_routes_44 : decode cX6_routes 44 = .ok (.iload_n 1, 1) := by decide +kernel
theorem dX6_routes_45 : decode cX6_routes 45 = .ok (.iconst 1, 1) := by decide +kernel
theorem dX6_routes_46 : decode cX6_routes 46 = .ok (.invokevirtual 121, 3) := by decide +kernel
theorem dX6_routes_49 : decode cX6_routes 49 = .ok (.ifCond .eq 25, 3) := by decide +kernel
theorem dX6_routes_52 : decode cX6_routes 52 = .ok (.aload_n 0, 1) := by decide +kernel
theorem dX6_routes_53 : decode cX6_routes 53 = .ok (.iload_n 1, 1) := by decide +kernel
theorem dX6_routes_54 : decode cX6_routes 54 = .ok (.iconst 2, 1) := by decide +kernel
theorem dX6_routes_55 : decode cX6_routes 55 = .ok (.invokevirtual 42, 3) := by decide +kernel
theorem dX6_routes_58 : decode cX6_routes 58 = .ok (.ifCond .lt 12, 3) := by decide +kernel
theorem dX6_routes_61 : decode cX6_routes 61 = .ok (.aload_n 0, 1) := by decide +kernel
theorem dX6_routes_62 : decode cX6_routes 62 = .ok (.iload_n 1, 1) := by decide +kernel
theorem dX6_routes_63 : decode cX6_routes 63 = .ok (.iconst 2, 1) := by decide +kernel
theorem dX6_routes_64 : decode cX6_routes 64 = .ok (.invokevirtual 121, 3) := by decide +kernel
theorem dX6_routes_67 : decode cX6_routes 67 = .ok (.ifCond .eq 7, 3) := by decide +kernel
theorem dX6_routes_70 : decode cX6_routes 70 = .ok (.iconst 1, 1) := by decide +kernel
theorem dX6_routes_71 : decode cX6_routes 71 = .ok (.goto 4, 3) := by decide +kernel
theorem dX6_routes_74 : decode cX6_routes 74 = .ok (.iconst 0, 1) := by decide +kernel
theorem dX6_routes_75 : decode cX6_routes 75 = .ok (.ireturn, 1) := by decide +kernel
abbrev rmX6_routes : Room := { frames := 4, cells := 0, slots := 0, locals := 100 }
set_option maxRecDepth 20000 in
theorem in_X6_routes_X6 : ∀ w ∈ wsX60, w ∈ wsX6_routes := by decide +kernel

set_option maxRecDepth 100000 in
set_option maxHeartbeats 16000000 in
theorem c_X6_routes {l : Launch} {g : Geo} {M : Nat → Nat → Int32} {P : Nat → Nat} {N K B : Nat} (hI : InvX eM (M 159) N K B) {n : Nat} (hn : n < N) {dg : Bool} : Met l yX6_routes wsX6_routes rmX6_routes (cPre g [.ref (g.1 158), .int (nI n), .int (bI dg)] M P) (cQi g (fun r M' P' => P = P' ∧ FrO M M' ∧ ((rtX eM (M 159) N n dg = none ∧ r = nI 0) ∨ ∃ z l1 l2, rtX eM (M 159) N n dg = some (z, l1, l2) ∧ r = nI 1 ∧ RtN M' (l1 ++ l2) ∧ M' 158 12 = nI z))) 0 0 (gA g) := by
  refine met_z (cc := cX6_routes) (maxL := 4) (by decide) rfl ⟨rfl, rfl⟩ (Nat.le_of_ble_eq_true rfl) (fun x hx h hret => ?_)
  replace h : Cxk x g cX6_routes 4 wsX6_routes RX6 rmX6_routes := h
  show X x 0 [(0, .ref (g.1 158)), (1, .int (nI n)), (2, .int (bI dg))] [] M P
  have hN := hI.1.1
  have hN6 := hI.1.2.1
  have hK := hI.1.2.2.1
  have hK12 := hI.1.2.2.2.1
  have hvc := hI.1.vc
  have hprX := hI.1.pr
  have hG0 := (hI.1.net hn).p0
  have hG1 := (hI.1.net hn).p1
  refine x_aload_n h 0 dX6_routes_0 rfl rfl ?_
  refine x_iload_n h 2 dX6_routes_1 rfl rfl ?_
  refine xp_X6_13 h (by exact bI_or dg) in_X6_routes_X6 (by decide +kernel) dX6_routes_2 ?_
  refine x_aload_n h 0 dX6_routes_5 rfl rfl ?_
  refine x_iconst h (nI 0) dX6_routes_6 (by decide) ?_
  refine xp_X6_11 h in_X6_routes_X6 (by decide +kernel) dX6_routes_7 ?_
  refine x_aload_n h 0 dX6_routes_10 rfl rfl ?_
  refine x_iconst h (nI 0) dX6_routes_11 (by decide) ?_
  refine xp_X6_12 h in_X6_routes_X6 (by decide +kernel) dX6_routes_12 ?_
  obtain ⟨W0, hW0⟩ : ∃ q : Nat → Nat → Int32, q = st2 (st2 (st2 M 158 13 (bI dg)) 158 11 (nI 0)) 158 12 (nI 0) := ⟨_, rfl⟩
  refine x_mem W0 hW0.symm ?_
  have h0k : ∀ k, k ≠ 158 → W0 k = M k := fun k hk => by rw [hW0, st2_n _ _ _ hk, st2_n _ _ _ hk, st2_n _ _ _ hk]
  have h08 : ∀ j, j ≠ 11 → j ≠ 12 → j ≠ 13 → W0 158 j = M 158 j := fun j h1 h2 h3 => by rw [hW0, st2_k, pk_un h2, st2_k, pk_un h1, st2_k, pk_un h3]
  have h013 : W0 158 13 = bI dg := by rw [hW0, st2_k, pk_un (by decide), st2_k, pk_un (by decide), st2_k, pk_us]
  have h011 : W0 158 11 = nI 0 := by rw [hW0, st2_k, pk_un (by decide), st2_k, pk_us]
  have h012 : W0 158 12 = nI 0 := by rw [hW0, st2_k, pk_us]
  refine x_iconst h (nI 0) dX6_routes_15 (by decide) ?_
  refine x_istore_n h [(3, .int (nI 0)), (0, .ref (g.1 158)), (1, .int (nI n)), (2, .int (bI dg))] dX6_routes_16 rfl (by decide) rfl ?_
  have L17 : ∀ (fu : Nat) (c : Nat) (W : Nat → Nat → Int32), (162 - c) < fu → (c ≤ 162) → (∀ k, k ≠ 165 → W k = W0 k) → (∀ b, b < c → W 165 b = nI 0) → X x 17 [(0, .ref (g.1 158)), (1, .int (nI n)), (3, .int (nI c))] [] W P := by
    intro fu
    induction fu with
    | zero => intro c W hmu17; exact absurd hmu17 (Nat.not_lt_zero _)
    | succ fu ih17 =>
      intro c W hmu17 hc hWk hj
      refine x_iload_n h 2 dX6_routes_17 rfl rfl ?_
      refine x_sipush h (nI 162) dX6_routes_18 (by decide) ?_
      refine x_icmp_ge_n h 37 dX6_routes_21 (by decide) (by first | omega | (have := ht.1; omega)) (by decide) (fun c_21 => ?_) (fun c_21 => ?_)
      · -- 21 true
        refine x_aload_n h 0 dX6_routes_37 rfl rfl ?_
        refine x_iload_n h 1 dX6_routes_38 rfl rfl ?_
        refine x_iconst h (nI 0) dX6_routes_39 (by decide) ?_
        refine x_callVv h (As := [.int (nI n), .int (nI 0)]) 2 hx (c_X6_joinsPin (n := n) (k := 0) (p := p0X (M 159) n) (by omega) (by decide) (by rw [hWk 159 (by decide), h0k 159 (by decide)]; exact hG0.1) hG0.2.1) gX6_routes_X6_joinsPin rfl ⟨rfl, rfl⟩ (by decide +kernel) rfl (by decide) (by decide) E_158 rfl rfl (Nat.le_of_ble_eq_true rfl) dX6_routes_40 (fun M40 P' hp => ?_)
        obtain ⟨rfl, hM40⟩ := hp
        have hA : ∀ k, k ≠ 165 → M40 k = W0 k := fun k hk => by rw [hM40, st2_n _ _ _ hk, st2_n _ _ _ hk]; exact hWk k hk
        have e159 : M40 159 = M 159 := by rw [hA 159 (by decide), h0k 159 (by decide)]
        have hJ0 : ∀ a, a < 162 → M40 165 a = bI (jn0 (p0X (M 159) n) a) := fun a ha => by rw [hM40, jk_u (Jk := fun _ => false) (fun b hb => (hj b (by omega)).trans rfl) a ha]; rfl
        have hFA : FrO M M40 := ⟨fun k hk => by rw [hA k (by omega), h0k k (by omega)], fun j h1 h2 h3 => by rw [hA 158 (by decide)]; exact h08 j h1 h2 h3⟩
        refine x_aload_n h 0 dX6_routes_43 rfl rfl ?_
        refine x_iload_n h 1 dX6_routes_44 rfl rfl ?_
        refine x_iconst h (nI 1) dX6_routes_45 (by decide) ?_
        refine x_callV h (As := [.int (nI n), .int (nI 1)]) 2 hx (c_X6_paths (N := N) (K := K) (B := B) (by rw [e159]; exact hI) hn (dg := dg) (by rw [hA 158 (by decide)]; exact h013) (J := jn0 (p0X (M 159) n)) hJ0 (tw := (twX eM (M 159) N n dg)) (by rw [e159]; exact tw00_J hI hn) twX_ge (L := []) ⟨by rw [hA 158 (by decide)]; exact h011, fun i hi => absurd hi (Nat.not_lt_zero i)⟩ (z := 0) (by rw [hA 158 (by decide)]; exact h012) (Nat.zero_le _) (pk := 1) (p := p1X (M 159) n) (by decide) (by rw [e159]; exact hG1.1) hG1.2.1 (by rw [e159]; exact hG1.2.2) (by rw [e159]; exact jc_0 (n := n) _ hG0.2.1)) gX6_routes_X6_paths rfl ⟨rfl, rfl⟩ (by decide +kernel) rfl (by decide) (by decide) E_158 rfl rfl (Nat.le_of_ble_eq_true rfl) dX6_routes_46 (fun rv MA P' hp => ?_)
        rw [e159] at hp
        obtain ⟨rfl, hFAA, hp⟩ := hp
        rcases hp with ⟨hnA, rfl⟩ | ⟨sA, hsA, rfl, hRA, hzA, hJA⟩
        · -- no path
          refine x_if_eq h 74 dX6_routes_49 (by decide) (fun _ => ?_) (fun c => absurd (by decide) c)
          refine x_iconst h (nI 0) dX6_routes_74 (by decide) ?_
          exact hret _ _ _ _ _ dX6_routes_75 (by decide) (by exact ⟨rfl, FrO_P hFA hFAA, Or.inl ⟨by first | exact rtP_none1 rfl hnA | (unfold rtX; rw [hp2]; exact rtP_none2 rfl hsA rfl rfl rfl hnB), rfl⟩⟩)
        · -- a path
          refine x_if_eq h 74 dX6_routes_49 (by decide) (fun c => absurd c (by decide)) (fun _ => ?_)
          have e1a : MA 159 = M 159 := by rw [hFAA.1 159 (by omega), e159]
          have hplt : ∀ a, a ∈ (pthL (vcX (M 159)) (twX eM (M 159) N n dg) (jn0 (p0X (M 159) n)) (dcl (twX eM (M 159) N n dg) (dS (vcX (M 159)) (twX eM (M 159) N n dg) (jn0 (p0X (M 159) n)))) 161 sA) → a < 162 := pth_lt 161 sA (by have := startO_some hsA; have := hG1.2.1; omega)
          refine x_aload_n h 0 dX6_routes_52 rfl rfl ?_
          refine x_iload_n h 1 dX6_routes_53 rfl rfl ?_
          refine x_iconst h (nI 2) dX6_routes_54 (by decide) ?_
          refine x_callV h (As := [.int (nI n), .int (nI 2)]) 2 hx (c_X6_of (by omega) (by decide)) gX6_routes_X6_of rfl ⟨rfl, rfl⟩ (by decide +kernel) rfl (by decide) (by decide) E_158 rfl rfl (Nat.le_of_ble_eq_true rfl) dX6_routes_55 (fun rv M' P' hp => ?_)
          obtain ⟨⟨rfl, rfl⟩, rfl⟩ := hp
          refine x_top (M 159 (169 + 9 * n + 2)) (by rw [e1a]) ?_
          have hG2 := (hI.1.net hn).p2
          cases hp2 : p2X (M 159) n with
          | none =>
            refine x_top (-1) (by rw [hG2.1, hp2]; rfl) ?_
            refine x_if_lt h 70 dX6_routes_58 (by decide) (fun _ => ?_) (fun c => absurd (by decide) c)
            refine x_iconst h (nI 1) dX6_routes_70 (by decide) ?_
            refine x_goto h 75 dX6_routes_71 (by decide) ?_
            exact hret _ _ _ _ _ dX6_routes_75 (by decide) (by 
                              refine ⟨rfl, FrO_P hFA hFAA, Or.inr ⟨_, _, _, (by unfold rtX; rw [hp2]; exact rtP_one rfl hsA), rfl, ?_, ?_⟩⟩
                              · rw [List.append_nil]; exact hRA
                              · rw [hzA, Nat.zero_add]; rfl)
          | some t =>
            have ht := hG2.2 t hp2
            have et2 : M 159 (169 + 9 * n + 2) = nI t := by rw [hG2.1, hp2]; rfl
            refine x_top (nI t) et2 ?_
            refine x_if_lt_n h 70 dX6_routes_58 (by decide) (by first | omega | (have := ht.1; omega)) ?_
            refine x_aload_n h 0 dX6_routes_61 rfl rfl ?_
            refine x_iload_n h 1 dX6_routes_62 rfl rfl ?_
            refine x_iconst h (nI 2) dX6_routes_63 (by decide) ?_
            refine x_callV h (As := [.int (nI n), .int (nI 2)]) 2 hx (c_X6_paths (N := N) (K := K) (B := B) (by rw [e1a]; exact hI) hn (dg := dg) (by rw [hFAA.2 13 (by decide) (by decide), hA 158 (by decide)]; exact h013) (J := joinL (M 159) (eM.2.2 n) (jn0 (p0X (M 159) n)) (pthL (vcX (M 159)) (twX eM (M 159) N n dg) (jn0 (p0X (M 159) n)) (dcl (twX eM (M 159) N n dg) (dS (vcX (M 159)) (twX eM (M 159) N n dg) (jn0 (p0X (M 159) n)))) 161 sA)) hJA (tw := tw0 (twX eM (M 159) N n dg) (pthL (vcX (M 159)) (twX eM (M 159) N n dg) (jn0 (p0X (M 159) n)) (dcl (twX eM (M 159) N n dg) (dS (vcX (M 159)) (twX eM (M 159) N n dg) (jn0 (p0X (M 159) n)))) 161 sA)) (by rw [e1a]; exact tw1_J hI hn hplt) (fun a ha => tw0_ge hplt ha) (L := [] ++ (pthL (vcX (M 159)) (twX eM (M 159) N n dg) (jn0 (p0X (M 159) n)) (dcl (twX eM (M 159) N n dg) (dS (vcX (M 159)) (twX eM (M 159) N n dg) (jn0 (p0X (M 159) n)))) 161 sA)) hRA (z := 0 + (dcl (twX eM (M 159) N n dg) (dS (vcX (M 159)) (twX eM (M 159) N n dg) (jn0 (p0X (M 159) n)))) sA) hzA (by rw [List.nil_append]; exact pth_len 161 sA) (pk := 2) (p := t) (by decide) (by rw [e1a]; exact et2) ht.1 (by rw [e1a]; exact ht.2) (by rw [e1a]; exact jc_1 hI hn hG0.2.1)) gX6_routes_X6_paths rfl ⟨rfl, rfl⟩ (by decide +kernel) rfl (by decide) (by decide) E_158 rfl rfl (Nat.le_of_ble_eq_true rfl) dX6_routes_64 (fun rv MB P' hp => ?_)
            rw [e1a] at hp
            obtain ⟨rfl, hFB, hp⟩ := hp
            rcases hp with ⟨hnB, rfl⟩ | ⟨sB, hsB, rfl, hRB, hzB, hJB⟩
            · -- no path
              refine x_if_eq h 74 dX6_routes_67 (by decide) (fun _ => ?_) (fun c => absurd (by decide) c)
              refine x_iconst h (nI 0) dX6_routes_74 (by decide) ?_
              exact hret _ _ _ _ _ dX6_routes_75 (by decide) (by exact ⟨rfl, FrO_P (FrO_P hFA hFAA) hFB, Or.inl ⟨by first | exact rtP_none1 rfl hnA | (unfold rtX; rw [hp2]; exact rtP_none2 rfl hsA rfl rfl rfl hnB), rfl⟩⟩)
            · -- a path
              refine x_if_eq h 74 dX6_routes_67 (by decide) (fun c => absurd c (by decide)) (fun _ => ?_)
              refine x_iconst h (nI 1) dX6_routes_70 (by decide) ?_
              refine x_goto h 75 dX6_routes_71 (by decide) ?_
              exact hret _ _ _ _ _ dX6_routes_75 (by decide) (by 
                                  refine ⟨rfl, FrO_P (FrO_P hFA hFAA) hFB, Or.inr ⟨_, _, _, (by unfold rtX; rw [hp2]; exact rtP_two rfl hsA rfl rfl rfl hsB), rfl, hRB, ?_⟩⟩
                                  rw [hzB, Nat.zero_add]; rfl)
      · -- 21 false
        refine x_aload_n h 0 dX6_routes_24 rfl rfl ?_
        refine xg_X6_9 h in_X6_routes_X6 (by decide +kernel) dX6_routes_25 ?_
        refine x_iload_n h 2 dX6_routes_28 rfl rfl ?_
        refine x_iconst h (nI 0) dX6_routes_29 (by decide) ?_
        refine xs_165 h dX6_routes_30 (by decide) (by omega) ?_
        refine x_iinc_n h 2 (n := 1) [(3, .int (nI (c + 1))), (0, .ref (g.1 158)), (1, .int (nI n))] dX6_routes_31 rfl (by decide) rfl ?_
        refine x_goto h 17 dX6_routes_34 (by decide) ?_
        exact x_lv (ih17 (c + 1) (st2 W 165 c (nI 0)) (by omega) (by omega) (by exact fun k hk => (st2_n _ _ _ hk).trans (hWk k hk)) (by intro b hb; rw [st2_k]; by_cases e : b = c; rw [e, pk_us]; rw [pk_un e]; exact hj b (by omega))) [1, 2, 0] rfl
  exact x_lv (L17 _ 0 W0 (Nat.lt_succ_self _) (by omega) (by exact fun _ _ => rfl) (by exact fun b hb => absurd hb (Nat.not_lt_zero b))) [1, 2, 0] rfl
