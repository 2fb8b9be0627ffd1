/-! WHAT A ROUTE IS, AS THE LAW GOES ALONG IT -/
/-- a way that ends where it is joined -/
def PL (vc : Nat) (tw : Nat → Option Nat) (J : Nat → Bool) (D : Nat → Nat) : List Nat → Prop
  | [] => False
  | c :: r => c < 162 ∧ match r with
    | [] => J c = true ∧ D c = 0
    | t :: _ => J c = false ∧ (∃ k, k < 3 ∧ nb k c = some t ∧ ∃ w, tw t = some w ∧ D t + w + mv vc k c = D c) ∧ PL vc tw J D r
theorem nxtO_no {vc : Nat} {tw : Nat → Option Nat} {D : Nat → Nat} {c : Nat} (h : nxtO vc tw D c = none) : ∀ k, k < 3 → cndO vc tw D c k = none := by
  unfold nxtO at h
  cases h0 : cndO vc tw D c 0 with
  | some t => rw [h0] at h; cases h
  | none =>
    rw [h0] at h
    dsimp only at h
    cases h1 : cndO vc tw D c 1 with
    | some t => rw [h1] at h; cases h
    | none =>
      rw [h1] at h
      intro k hk
      rcases (show k = 0 ∨ k = 1 ∨ k = 2 by omega) with rfl | rfl | rfl
      · exact h0
      · exact h1
      · exact h
section PATHS
variable {vc : Nat} {tw : Nat → Option Nat} {J : Nat → Bool}
theorem dcl_eq {d : Nat → Nat} {a : Nat} (h : tw a ≠ none) : dcl tw d a = d a := if_neg h
theorem pth_head {D : Nat → Nat} {f c : Nat} : ∃ r, pthL vc tw J D f c = c :: r := by
  cases f with
  | zero => exact ⟨[], rfl⟩
  | succ f =>
    unfold pthL
    split
    · exact ⟨[], rfl⟩
    · exact ⟨_, rfl⟩
theorem pth_go (hv : 1 ≤ vc) {c : Nat} (hc : c < 162) (ho : tw c ≠ none) (hi : dcl tw (dS vc tw J) c < 1000000) (hJ : ¬ J c = true) : ∃ t, nxJ vc tw J (dcl tw (dS vc tw J)) c = some t ∧ t < 162 ∧ tw t ≠ none ∧ dcl tw (dS vc tw J) t < 1000000 ∧ rank (dcl tw (dS vc tw J)) t < rank (dcl tw (dS vc tw J)) c ∧ ∃ k, k < 3 ∧ nb k c = some t ∧ ∃ w, tw t = some w ∧ dcl tw (dS vc tw J) t + w + mv vc k c = dcl tw (dS vc tw J) c := by
  have hs := dS_sol hv tw J
  have hnx : nxJ vc tw J (dcl tw (dS vc tw J)) c = nxtO vc tw (dcl tw (dS vc tw J)) c := if_neg hJ
  obtain ⟨k, hk, t, w, h1, h2, h3⟩ := hs.2.2.2 c hc ho hJ (by rw [dcl_eq ho] at hi; exact hi)
  have hto : tw t ≠ none := by rw [h2]; exact Option.some_ne_none _
  have p1 := mv_pos (k := k) (c := c) hv
  have hcd : cndO vc tw (dcl tw (dS vc tw J)) c k = some t := by
    unfold cndO
    rw [h1]
    dsimp only
    rw [h2]
    dsimp only
    rw [dcl_eq hto, dcl_eq ho, if_pos ⟨by rw [dcl_eq ho] at hi; omega, by omega⟩]
  cases hn : nxtO vc tw (dcl tw (dS vc tw J)) c with
  | none => rw [nxtO_no hn k hk] at hcd; cases hcd
  | some t' =>
    obtain ⟨k', hk', q1, w', q2, q3, q4⟩ := nxtO_some hn
    have p2 := mv_pos (k := k') (c := c) hv
    have ht' : t' < 162 := nb_lt hc q1
    exact ⟨t', hnx.trans hn, ht', by rw [q2]; exact Option.some_ne_none _, q3, rank_lt (d := dcl tw (dS vc tw J)) (c := c) ht' (by omega), k', hk', q1, w', q2, q4⟩
theorem PL_pth (hv : 1 ≤ vc) : ∀ (f c : Nat), c < 162 → tw c ≠ none → dcl tw (dS vc tw J) c < 1000000 → rank (dcl tw (dS vc tw J)) c ≤ f → PL vc tw J (dcl tw (dS vc tw J)) (pthL vc tw J (dcl tw (dS vc tw J)) f c) := by
  intro f
  induction f with
  | zero =>
    intro c hc ho hi hr
    by_cases hJ : J c = true
    · exact ⟨hc, hJ, (dcl_eq ho).trans ((dS_sol hv tw J).2.1 c hc hJ)⟩
    · obtain ⟨t, -, -, -, -, h5, -⟩ := pth_go hv hc ho hi hJ
      exact absurd h5 (by omega)
  | succ f ih =>
    intro c hc ho hi hr
    by_cases hJ : J c = true
    · have e : pthL vc tw J (dcl tw (dS vc tw J)) (f + 1) c = [c] := by
        have : nxJ vc tw J (dcl tw (dS vc tw J)) c = none := if_pos hJ
        unfold pthL
        rw [this]
      rw [e]
      exact ⟨hc, hJ, (dcl_eq ho).trans ((dS_sol hv tw J).2.1 c hc hJ)⟩
    · obtain ⟨t, h1, h2, h3, h4, h5, h6⟩ := pth_go hv hc ho hi hJ
      have hJf : J c = false := by simpa using hJ
      have e : pthL vc tw J (dcl tw (dS vc tw J)) (f + 1) c = c :: pthL vc tw J (dcl tw (dS vc tw J)) f t := by
        show (match nxJ vc tw J (dcl tw (dS vc tw J)) c with | none => [c] | some t => c :: pthL vc tw J (dcl tw (dS vc tw J)) f t) = _
        rw [h1]
      have ih2 := ih t h2 h3 h4 (by omega)
      obtain ⟨r, hr'⟩ := pth_head (vc := vc) (tw := tw) (J := J) (D := dcl tw (dS vc tw J)) (f := f) (c := t)
      rw [e]
      rw [hr'] at ih2 ⊢
      exact ⟨hc, hJf, h6, ih2⟩
/-- a first or a second path out of startO -/
theorem PL_start (hv : 1 ≤ vc) {p s : Nat} (hp : p < 81) (h : startO (dcl tw (dS vc tw J)) p = some s) : s < 162 ∧ s % 81 = p ∧ dcl tw (dS vc tw J) s < 1000000 ∧ tw s ≠ none ∧ PL vc tw J (dcl tw (dS vc tw J)) (pthL vc tw J (dcl tw (dS vc tw J)) 161 s) := by
  obtain ⟨h1, h2⟩ := startO_some h
  have h3 : s < 162 := by omega
  have h4 := dcl_open h2
  exact ⟨h3, by omega, h2, h4, PL_pth hv 161 s h3 h4 h2 (by have := rank_le (d := dcl tw (dS vc tw J)) h3; omega)⟩
end PATHS
/-! the two stages of a route -/
section STAGES
variable {X : Nat → Int32} {N K n : Nat} {dg : Bool} {z : Nat} {l1 l2 : List Nat}
/-- what the law needs of one stage: joined cells J, tolls tw, distances D, the way l -/
def StgP (X : Nat → Int32) (N n : Nat) (dg : Bool) (vc : Nat) (p : Nat) (pl : List Nat) (J : Nat → Bool) (tw : Nat → Option Nat) (D : Nat → Nat) (l : List Nat) : Prop :=
  PL vc tw J D l ∧ l.Nodup ∧ (∃ c r, l = c :: r ∧ c % 81 = p ∧ (∀ k, k < N → X (7 + c) ≠ nI k) ∧ D c < 1000000) ∧
  (∀ t, t < 162 → J t = true → tw t ≠ none → tw t = some 0) ∧ (∀ t, t < 162 → J t = true → t ∈ pl ∨ ∀ k, k < N → X (7 + t) ≠ nI k) ∧
  (∀ t w, t < 162 → J t = false → tw t = some w → (X (7 + t) = -1 ∧ w = 0) ∨ (X (7 + t) = nI (10 + n) ∧ w = 0) ∨ ∃ o, o < N ∧ o ≠ n ∧ X (7 + t) = nI o ∧ w = prX X + stX X o ∧ dg = true ∧ t ∉ pl)
theorem jn0_iff {p a : Nat} : jn0 p a = true ↔ a = p ∨ a = p + 81 := by
  unfold jn0
  simp
theorem tw_cases (hN : N ≤ 6) (hnw : ∀ a, a < 162 → X (7 + a) ≠ nI n) {t w : Nat} (ht : t < 162) (h : twX eC X N n dg t = some w) : (X (7 + t) = -1 ∧ w = 0) ∨ (X (7 + t) = nI (10 + n) ∧ w = 0) ∨ ∃ o, o < N ∧ o ≠ n ∧ X (7 + t) = nI o ∧ w = prX X + stX X o ∧ dg = true := by
  unfold twX twE at h
  rw [if_neg (by omega : ¬ 162 ≤ t)] at h
  by_cases e : X (7 + t) = eC.1 ∨ X (7 + t) = eC.2.2 n
  · rw [if_pos e] at h
    cases h
    rcases e with e | e
    · exact Or.inl ⟨e, rfl⟩
    · exact Or.inr (Or.inl ⟨e, rfl⟩)
  · rw [if_neg e] at h
    by_cases hd : dg = true
    · rw [if_pos hd] at h
      cases hf : fnd (fun k => decide (X (7 + t) = eC.2.1 k)) N with
      | none => rw [hf] at h; cases h
      | some o =>
        rw [hf] at h
        have := fnd_true hf
        simp only [decide_eq_true_eq] at this
        refine Or.inr (Or.inr ⟨o, this.1, fun q => hnw t ht (by rw [this.2, q]; rfl), this.2, ?_, hd⟩)
        exact (Option.some.inj h).symm
    · rw [if_neg hd] at h
      cases h
theorem pin_no (hG : GdX eC X N K) {q k : Nat} (hq : X (7 + q) = nI (10 + n)) (hn : n < 6) (hk : k < N) : X (7 + q) ≠ nI k := fun e => by
  rw [hq] at e
  have := hG.2.1
  have := (nI_eq (by omega) (by omega)).mp e
  omega
theorem StgP_1 (hG : GdX eC X N K) (hn : n < N) (hnw : ∀ a, a < 162 → X (7 + a) ≠ nI n) {s : Nat} (h : startO (dcl (twX eC X N n dg) (dS (vcX X) (twX eC X N n dg) (jn0 (p0X X n)))) (p1X X n) = some s) :
    StgP X N n dg (vcX X) (p1X X n) [] (jn0 (p0X X n)) (twX eC X N n dg) (dcl (twX eC X N n dg) (dS (vcX X) (twX eC X N n dg) (jn0 (p0X X n)))) (pthL (vcX X) (twX eC X N n dg) (jn0 (p0X X n)) (dcl (twX eC X N n dg) (dS (vcX X) (twX eC X N n dg) (jn0 (p0X X n)))) 161 s) := by
  have hN := hG.2.1
  have hv := hG.vc.2.1
  have hp0 := (hG.net hn).p0
  have hp1 := (hG.net hn).p1
  obtain ⟨h1, h2, h3, h4, h5⟩ := PL_start hv hp1.2.1 h
  have hJ : ∀ t, jn0 (p0X X n) t = true → X (7 + t) = nI (10 + n) := fun t e => by
    rcases jn0_iff.mp e with e | e
    · rw [e]; exact hp0.2.2.1
    · rw [e]; exact hp0.2.2.2
  obtain ⟨r, hr⟩ := pth_head (vc := vcX X) (tw := twX eC X N n dg) (J := jn0 (p0X X n)) (D := dcl (twX eC X N n dg) (dS (vcX X) (twX eC X N n dg) (jn0 (p0X X n)))) (f := 161) (c := s)
  refine ⟨h5, pth_nodup hv _ _, ⟨s, r, hr, h2, fun k hk => ?_, h3⟩, fun t ht e _ => ?_, fun t _ e => Or.inr (fun k hk => pin_no hG (hJ t e) (by omega) hk), fun t w ht _ e => ?_⟩
  · refine pin_no hG ?_ (show n < 6 by omega) hk
    rcases (show s = p1X X n ∨ s = p1X X n + 81 by omega) with q | q
    · rw [q]; exact hp1.2.2.1
    · rw [q]; exact hp1.2.2.2
  · show twE eC X N n dg (prX X) (stX X) t = some 0
    unfold twE
    rw [if_neg (by omega), if_pos (show X (7 + t) = eC.1 ∨ X (7 + t) = eC.2.2 n from Or.inr (hJ t e))]
  · rcases tw_cases hN hnw ht e with q | q | ⟨o, q1, q2, q3, q4, q5⟩
    · exact Or.inl q
    · exact Or.inr (Or.inl q)
    · exact Or.inr (Or.inr ⟨o, q1, q2, q3, q4, q5, List.not_mem_nil⟩)
/-- what is joined behind a path: it and both layers of the pins on it -/
theorem joinL_iff {v : Int32} {J : Nat → Bool} : ∀ {l : List Nat} {x : Nat}, joinL X v J l x = true ↔ J x = true ∨ x ∈ l ∨ ∃ a, a ∈ l ∧ X (7 + a) = v ∧ (x = a % 81 ∨ x = a % 81 + 81) := by
  intro l
  induction l generalizing J with
  | nil =>
    intro x
    show J x = true ↔ _
    simp
  | cons c l ih =>
    intro x
    show joinL X v (joinB X v J c) l x = true ↔ _
    rw [ih]
    unfold joinB
    simp only [Bool.or_eq_true, Bool.and_eq_true, decide_eq_true_eq, List.mem_cons]
    constructor
    · rintro (((h | h) | ⟨h1, h2⟩) | h | ⟨a, h1, h2, h3⟩)
      · exact Or.inl h
      · exact Or.inr (Or.inl (Or.inl h))
      · exact Or.inr (Or.inr ⟨c, Or.inl rfl, h1, h2⟩)
      · exact Or.inr (Or.inl (Or.inr h))
      · exact Or.inr (Or.inr ⟨a, Or.inr h1, h2, h3⟩)
    · rintro (h | (h | h) | ⟨a, h1 | h1, h2, h3⟩)
      · exact Or.inl (Or.inl (Or.inl h))
      · exact Or.inl (Or.inl (Or.inr h))
      · exact Or.inr (Or.inl h)
      · subst h1; exact Or.inl (Or.inr ⟨h2, h3⟩)
      · exact Or.inr (Or.inr ⟨a, h1, h2, h3⟩)
theorem StgP_2 (hG : GdX eC X N K) (hn : n < N) (hnw : ∀ a, a < 162 → X (7 + a) ≠ nI n) {p2 s : Nat} {l1 : List Nat} {J1 : Nat → Bool} {tw1 : Nat → Option Nat} (hp2 : p2X X n = some p2) (hl1 : ∀ a, a ∈ l1 → a < 162) (htw : tw1 = tw0 (twX eC X N n dg) l1) (hJ1 : J1 = joinL X (nI (10 + n)) (jn0 (p0X X n)) l1) (h : startO (dcl tw1 (dS (vcX X) tw1 J1)) p2 = some s) :
    StgP X N n dg (vcX X) p2 l1 J1 tw1 (dcl tw1 (dS (vcX X) tw1 J1)) (pthL (vcX X) tw1 J1 (dcl tw1 (dS (vcX X) tw1 J1)) 161 s) := by
  have hN := hG.2.1
  have hv := hG.vc.2.1
  have hp0 := (hG.net hn).p0
  have hpp := (hG.net hn).p2.2 p2 hp2
  have hpair := (hG.net hn).2.2.2.2.2.2
  obtain ⟨h1, h2, h3, h4, h5⟩ := PL_start hv hpp.1 h
  have hJ : ∀ t, t < 162 → J1 t = true → t ∈ l1 ∨ X (7 + t) = nI (10 + n) := fun t ht e => by
    rw [hJ1] at e
    rcases joinL_iff.mp e with e | e | ⟨a, ha, e1, e2⟩
    · right
      rcases jn0_iff.mp e with e | e
      · rw [e]; exact hp0.2.2.1
      · rw [e]; exact hp0.2.2.2
    · exact Or.inl e
    · right
      have ha := hl1 a ha
      have hlow : X (7 + a % 81) = nI (10 + n) ∧ X (7 + (a % 81 + 81)) = nI (10 + n) := by
        by_cases h81 : a < 81
        · rw [Nat.mod_eq_of_lt h81]
          exact ⟨e1, (hpair a h81).mp e1⟩
        · have e3 : a % 81 = a - 81 := by omega
          rw [e3, show a - 81 + 81 = a by omega]
          exact ⟨(hpair (a - 81) (by omega)).mpr (by rw [show a - 81 + 81 = a by omega]; exact e1), e1⟩
      rcases e2 with e2 | e2
      · rw [e2]; exact hlow.1
      · rw [e2]; exact hlow.2
  obtain ⟨r, hr⟩ := pth_head (vc := vcX X) (tw := tw1) (J := J1) (D := dcl tw1 (dS (vcX X) tw1 J1)) (f := 161) (c := s)
  refine ⟨h5, pth_nodup hv _ _, ⟨s, r, hr, h2, fun k hk => ?_, h3⟩, fun t ht e _ => ?_, fun t ht e => ?_, fun t w ht e1 e => ?_⟩
  · refine pin_no hG ?_ (show n < 6 by omega) hk
    rcases (show s = p2 ∨ s = p2 + 81 by omega) with q | q
    · rw [q]; exact hpp.2.1
    · rw [q]; exact hpp.2.2
  · rw [htw]
    unfold tw0
    by_cases hm : t ∈ l1
    · rw [if_pos hm]
    · rw [if_neg hm]
      show twE eC X N n dg (prX X) (stX X) t = some 0
      unfold twE
      rw [if_neg (by omega), if_pos (show X (7 + t) = eC.1 ∨ X (7 + t) = eC.2.2 n from Or.inr ((hJ t ht e).resolve_left hm))]
  · rcases hJ t ht e with q | q
    · exact Or.inl q
    · exact Or.inr (fun k hk => pin_no hG q (by omega) hk)
  · have hm : t ∉ l1 := fun q => by
      rw [hJ1] at e1
      rw [joinL_iff.mpr (Or.inr (Or.inl q))] at e1
      cases e1
    rw [htw] at e
    unfold tw0 at e
    rw [if_neg hm] at e
    rcases tw_cases hN hnw ht e with q | q | ⟨o, q1, q2, q3, q4, q5⟩
    · exact Or.inl q
    · exact Or.inr (Or.inl q)
    · exact Or.inr (Or.inr ⟨o, q1, q2, q3, q4, q5, hm⟩)
/-- a told route, in its stages -/
theorem rt_stages (hG : GdX eC X N K) (hn : n < N) (hnw : ∀ a, a < 162 → X (7 + a) ≠ nI n) (h : rtX eC X N n dg = some (z, l1, l2)) :
    ∃ D1 c1, StgP X N n dg (vcX X) (p1X X n) [] (jn0 (p0X X n)) (twX eC X N n dg) D1 l1 ∧ l1.head? = some c1 ∧
      ((p2X X n = none ∧ l2 = [] ∧ z = D1 c1) ∨ ∃ p2 D2 c2, p2X X n = some p2 ∧ p2 < 81 ∧ StgP X N n dg (vcX X) p2 l1 (joinL X (nI (10 + n)) (jn0 (p0X X n)) l1) (tw0 (twX eC X N n dg) l1) D2 l2 ∧ l2.head? = some c2 ∧ z = D1 c1 + D2 c2) := by
  have hok := rtX_ok hG hn h
  unfold rtX at h
  cases hs : startO (dcl (twX eC X N n dg) (dS (vcX X) (twX eC X N n dg) (jn0 (p0X X n)))) (p1X X n) with
  | none =>
    rw [rtP_none1 (tw := twX eC X N n dg) rfl hs] at h
    cases h
  | some s1 =>
    have hS1 := StgP_1 hG hn hnw hs
    obtain ⟨r, hr⟩ := pth_head (vc := vcX X) (tw := twX eC X N n dg) (J := jn0 (p0X X n)) (D := dcl (twX eC X N n dg) (dS (vcX X) (twX eC X N n dg) (jn0 (p0X X n)))) (f := 161) (c := s1)
    cases hp2 : p2X X n with
    | none =>
      rw [hp2, rtP_one (tw := twX eC X N n dg) rfl hs] at h
      cases h
      exact ⟨_, s1, hS1, by rw [hr]; rfl, Or.inl ⟨rfl, rfl, rfl⟩⟩
    | some p2 =>
      rw [hp2] at h
      have hpp := (hG.net hn).p2.2 p2 hp2
      cases hs2 : startO (dcl (tw0 (twX eC X N n dg) (pthL (vcX X) (twX eC X N n dg) (jn0 (p0X X n)) (dcl (twX eC X N n dg) (dS (vcX X) (twX eC X N n dg) (jn0 (p0X X n)))) 161 s1)) (dS (vcX X) (tw0 (twX eC X N n dg) (pthL (vcX X) (twX eC X N n dg) (jn0 (p0X X n)) (dcl (twX eC X N n dg) (dS (vcX X) (twX eC X N n dg) (jn0 (p0X X n)))) 161 s1)) (joinL X (eC.2.2 n) (jn0 (p0X X n)) (pthL (vcX X) (twX eC X N n dg) (jn0 (p0X X n)) (dcl (twX eC X N n dg) (dS (vcX X) (twX eC X N n dg) (jn0 (p0X X n)))) 161 s1)))) p2 with
      | none =>
        rw [rtP_none2 (tw := twX eC X N n dg) rfl hs rfl rfl rfl hs2] at h
        cases h
      | some s2 =>
        rw [rtP_two (tw := twX eC X N n dg) rfl hs rfl rfl rfl hs2] at h
        cases h
        obtain ⟨r2, hr2⟩ := pth_head (vc := vcX X) (tw := tw0 (twX eC X N n dg) (pthL (vcX X) (twX eC X N n dg) (jn0 (p0X X n)) (dcl (twX eC X N n dg) (dS (vcX X) (twX eC X N n dg) (jn0 (p0X X n)))) 161 s1)) (J := joinL X (eC.2.2 n) (jn0 (p0X X n)) (pthL (vcX X) (twX eC X N n dg) (jn0 (p0X X n)) (dcl (twX eC X N n dg) (dS (vcX X) (twX eC X N n dg) (jn0 (p0X X n)))) 161 s1)) (D := dcl (tw0 (twX eC X N n dg) (pthL (vcX X) (twX eC X N n dg) (jn0 (p0X X n)) (dcl (twX eC X N n dg) (dS (vcX X) (twX eC X N n dg) (jn0 (p0X X n)))) 161 s1)) (dS (vcX X) (tw0 (twX eC X N n dg) (pthL (vcX X) (twX eC X N n dg) (jn0 (p0X X n)) (dcl (twX eC X N n dg) (dS (vcX X) (twX eC X N n dg) (jn0 (p0X X n)))) 161 s1)) (joinL X (eC.2.2 n) (jn0 (p0X X n)) (pthL (vcX X) (twX eC X N n dg) (jn0 (p0X X n)) (dcl (twX eC X N n dg) (dS (vcX X) (twX eC X N n dg) (jn0 (p0X X n)))) 161 s1)))) (f := 161) (c := s2)
        exact ⟨_, s1, hS1, by rw [hr]; rfl, Or.inr ⟨p2, _, s2, rfl, hpp.1, StgP_2 hG hn hnw hp2 (fun a ha => (hok.2.2.2.2 a (List.mem_append_left _ ha)).1) rfl rfl hs2, by rw [hr2]; rfl, rfl⟩⟩
end STAGES
