/-! WHAT HOLDS OF A CHIP, KEPT BY EVERY ACT -/
section LV
variable {X Y : Nat → Int32} {N K B A n : Nat}
theorem GI.mono {B' A' : Nat} (h : GI X N K B A) (hB : B ≤ B') (hB2 : B' < 2 ^ 31) (hA : A ≤ A') (hA2 : A' < 2 ^ 30) : GI X N K B' A' := by
  obtain ⟨⟨h1, hz⟩, h2, ⟨ac, e, h3, h4, h5⟩, h6, h7⟩ := h
  exact ⟨⟨h1.mono hB hB2, hz⟩, h2, ⟨ac, e, by omega, hA2, h5⟩, h6, h7⟩
theorem GI_lv (h : GI X N K B A) (hl : LvX X Y N K) : GI Y N K B A := by
  obtain ⟨h1, h2, ⟨ac, e, h3, h4, h5⟩, h6, h7, h8⟩ := h
  refine ⟨InvC_lv h1 hl, fun k hk e a ha => ?_, ⟨ac, (hl.1 4 (by omega)).trans e, h3, h4, fun i hi => ?_⟩, fun i hi => ?_, ?_, ?_⟩
  · rw [hl.1 (7 + a) (by omega)]
    exact h2 k hk ((hl.2.1 k hk 5 (by omega)).symm.trans e) a ha
  · obtain ⟨p, d, c, q, a0, a1, a2, a3, a4, a5, a6, a7, a8, a9⟩ := h5 i hi
    have g := hl.2.2 i hi
    exact ⟨p, d, c, q, (g 0 (by omega)).trans a0, (g 1 (by omega)).trans a1, a2, a3, a4, (g 2 (by omega)).trans a5, a6, a7, (g 6 (by omega)).trans a8, a9⟩
  · rw [hl.2.2 i (by omega) 6 (by omega), hl.2.2 (i + 1) hi 6 (by omega)]
    exact h6 i hi
  · rw [hl.1 2 (by omega)]; exact h7
  · rw [hl.1 3 (by omega)]; exact h8
theorem fnd_lt {p : Nat → Bool} {K k : Nat} (h : fnd p K = some k) : k < K := (fnd_true h).1
theorem l_tw (hl : LvX X Y N K) {n : Nat} (dg : Bool) : twX eC Y N n dg = twX eC X N n dg := by
  funext a
  unfold twX twE
  by_cases ha : 162 ≤ a
  · rw [if_pos ha, if_pos ha]
  · rw [if_neg ha, if_neg ha, hl.1 (7 + a) (by omega)]
    by_cases q : X (7 + a) = eC.1 ∨ X (7 + a) = eC.2.2 n
    · rw [if_pos q, if_pos q]
    · rw [if_neg q, if_neg q]
      cases hf : fnd (fun k => decide (X (7 + a) = eC.2.1 k)) N with
      | none => rfl
      | some k =>
        have e1 : prX Y = prX X := by unfold prX; rw [hl.1 1 (by omega)]
        have e2 : stX Y k = stX X k := by unfold stX; rw [hl.2.1 k (fnd_lt hf) 3 (by omega)]
        dsimp only
        rw [e1, e2]
theorem l_joinL (hl : LvX X Y N K) {v : Int32} : ∀ {l : List Nat} {J : Nat → Bool}, (∀ a, a ∈ l → a < 162) → joinL Y v J l = joinL X v J l
  | [], _, _ => rfl
  | a :: l, J, h => by
    show joinL Y v (joinB Y v J a) l = joinL X v (joinB X v J a) l
    have ha := h a List.mem_cons_self
    have e : joinB Y v J a = joinB X v J a := by
      funext b
      unfold joinB
      rw [hl.1 (7 + a) (by omega)]
    rw [e]
    exact l_joinL hl (fun b hb => h b (List.mem_cons_of_mem _ hb))
theorem l_rt (hG : GdX eC X N K) (hl : LvX X Y N K) {n : Nat} (hn : n < N) (dg : Bool) : rtX eC Y N n dg = rtX eC X N n dg := by
  have hN := hG.2.1
  have hnet := hl.2.1 n hn
  have h0 := hnet 0 (by omega)
  rw [Nat.add_zero] at h0
  have e0 : p0X Y n = p0X X n := by unfold p0X; rw [h0]
  have e1 : p1X Y n = p1X X n := by unfold p1X; rw [hnet 1 (by omega)]
  have e2 : p2X Y n = p2X X n := by unfold p2X; rw [hnet 2 (by omega)]
  have ev : vcX Y = vcX X := by unfold vcX; rw [hl.1 0 (by omega)]
  have et : twE eC Y N n dg (prX Y) (stX Y) = twE eC X N n dg (prX X) (stX X) := l_tw hl dg
  unfold rtX
  rw [e0, e1, e2, ev]
  generalize htw : twE eC X N n dg (prX X) (stX X) = tw at et
  generalize hvc : vcX X = vc
  cases h1 : startO (dcl tw (dS vc tw (jn0 (p0X X n)))) (p1X X n) with
  | none => rw [rtP_none1 et.symm h1, rtP_none1 htw.symm h1]
  | some s1 =>
    have hs : s1 < 162 := by
      have := startO_some h1
      have := (hG.net hn).p1.2.1
      omega
    have hj := l_joinL hl (v := eC.2.2 n) (l := pthL vc tw (jn0 (p0X X n)) (dcl tw (dS vc tw (jn0 (p0X X n)))) 161 s1) (J := jn0 (p0X X n)) (pth_lt 161 s1 hs)
    cases h2 : p2X X n with
    | none => rw [rtP_one et.symm h1, rtP_one htw.symm h1]
    | some p2 =>
      generalize hpl : pthL vc tw (jn0 (p0X X n)) (dcl tw (dS vc tw (jn0 (p0X X n)))) 161 s1 = pl1 at hj
      generalize hJ1 : joinL X (eC.2.2 n) (jn0 (p0X X n)) pl1 = J1 at hj
      cases h3 : startO (dcl (tw0 tw pl1) (dS vc (tw0 tw pl1) J1)) p2 with
      | none => rw [rtP_none2 et.symm h1 hpl.symm rfl hj.symm h3, rtP_none2 htw.symm h1 hpl.symm rfl hJ1.symm h3]
      | some s2 => rw [rtP_two et.symm h1 hpl.symm rfl hj.symm h3, rtP_two htw.symm h1 hpl.symm rfl hJ1.symm h3]
theorem l_vic (hl : LvX X Y N K) {k : Nat} {L : List Nat} (hL : ∀ a, a ∈ L → a < 162) : vicE eC Y L k = vicE eC X L k := decide_eq_decide.mpr ⟨fun ⟨a, h1, h2⟩ => ⟨a, h1, by rw [← hl.1 (7 + a) (by have := hL a h1; omega)]; exact h2⟩, fun ⟨a, h1, h2⟩ => ⟨a, h1, by rw [hl.1 (7 + a) (by have := hL a h1; omega)]; exact h2⟩⟩
theorem l_thr (hl : LvX X Y N K) (k : Nat) (L : List Nat) : thrE eC Y L k = thrE eC X L k := cnt_congr (fun a ha => by rw [hl.1 (7 + a) (by omega)])
theorem l_pri (hl : LvX X Y N K) (L : List Nat) : priE eC Y N L = priE eC X N L := sumN_cg (fun k hk => by
  unfold dueE
  rw [l_thr hl, show prX Y = prX X by unfold prX; rw [hl.1 1 (by omega)], show stX Y k = stX X k by unfold stX; rw [hl.2.1 k hk 3 (by omega)]])
theorem l_wir (hl : LvX X Y N K) (v : Int32) : wir Y v = wir X v := cnt_congr (fun a ha => by rw [hl.1 (7 + a) (by omega)])
end LV
/-! sums of coins -/
def coins (X : Nat → Int32) (N : Nat) : Int32 := sumI (fun k => X (169 + 9 * k + 4)) N
theorem sumI_cg {f g : Nat → Int32} : ∀ {n : Nat}, (∀ k, k < n → f k = g k) → sumI f n = sumI g n
  | 0, _ => rfl
  | n + 1, h => by
    show sumI f n + f n = sumI g n + g n
    rw [sumI_cg (fun k hk => h k (by omega)), h n (by omega)]
theorem sumI_N (d : Nat → Nat) : ∀ n, sumI (fun j => nI (d j)) n = nI (sumN d n)
  | 0 => rfl
  | n + 1 => by
    show sumI (fun j => nI (d j)) n + nI (d n) = nI (sumN d n + d n)
    rw [sumI_N d n, nI_add]
theorem i_ac (a b c d : Int32) : (a + b) + (c + d) = (a + c) + (b + d) := by ac_rfl
theorem sumI_lo {f e : Nat → Int32} {k : Nat} {c : Int32} : ∀ {n : Nat}, n ≤ k → sumI (fun j => (if j = k then f j - c else f j) + e j) n = sumI f n + sumI e n
  | 0, _ => (Int32.add_zero (nI 0)).symm
  | n + 1, h => by
    show sumI (fun j => (if j = k then f j - c else f j) + e j) n + ((if n = k then f n - c else f n) + e n) = (sumI f n + f n) + (sumI e n + e n)
    rw [sumI_lo (n := n) (by omega), if_neg (by omega), i_ac]
theorem sumI_hi {f e : Nat → Int32} {k : Nat} {c : Int32} : ∀ {n : Nat}, k < n → sumI (fun j => (if j = k then f j - c else f j) + e j) n + c = sumI f n + sumI e n
  | 0, h => absurd h (Nat.not_lt_zero k)
  | n + 1, h => by
    show (sumI (fun j => (if j = k then f j - c else f j) + e j) n + ((if n = k then f n - c else f n) + e n)) + c = (sumI f n + f n) + (sumI e n + e n)
    by_cases q : n = k
    · subst q
      rw [sumI_lo (Nat.le_refl n), if_pos rfl]
      have h1 : f n - c + c = f n := Int32.sub_add_cancel _ _
      calc (sumI f n + sumI e n) + ((f n - c) + e n) + c = (sumI f n + ((f n - c) + c)) + (sumI e n + e n) := by ac_rfl
        _ = _ := by rw [h1]
    · rw [if_neg q]
      have ih := sumI_hi (f := f) (e := e) (k := k) (c := c) (n := n) (by omega)
      calc (sumI (fun j => (if j = k then f j - c else f j) + e j) n + (f n + e n)) + c = (sumI (fun j => (if j = k then f j - c else f j) + e j) n + c) + (f n + e n) := by ac_rfl
        _ = _ := by rw [ih, i_ac]
theorem sumI_one {h : Nat} {p : Int32} : ∀ {n : Nat}, sumI (fun j => if j = h then p else nI 0) n = if h < n then p else nI 0
  | 0 => by rw [if_neg (by omega)]; rfl
  | n + 1 => by
    show sumI (fun j => if j = h then p else nI 0) n + (if n = h then p else nI 0) = _
    rw [sumI_one]
    by_cases q : n = h
    · rw [if_pos q, if_neg (by omega), if_pos (by omega)]
      exact Int32.zero_add p
    · rw [if_neg q]
      by_cases q2 : h < n
      · rw [if_pos q2, if_pos (by omega)]
        exact Int32.add_zero p
      · rw [if_neg q2, if_neg (by omega)]
        exact Int32.add_zero _
theorem sum_move {f e : Nat → Int32} {k N : Nat} {c : Int32} (hk : k < N) (he : sumI e N = c) : sumI (fun j => (if j = k then f j - c else f j) + e j) N = sumI f N := (Int32.add_left_inj c).mp (by rw [sumI_hi hk, he])
/-! the acts -/
def ErrP (r : Int32) : Prop := r = -1000001 ∨ r = -1000002 ∨ r = -1000003
def OkP (r : Int32) : Prop := ∃ q, q < 2 ^ 31 ∧ r = nI q
section ACTS
variable {X X' Y : Nat → Int32} {N K B A : Nat} {r : Int32}
theorem CL_keep {N' A' ac' : Nat} (h : ∃ ac, X 4 = nI ac ∧ ac ≤ A ∧ A < 2 ^ 30 ∧ ∀ i, i < K → ∃ h d c q, X (223 + 13 * i) = nI h ∧ X (223 + 13 * i + 1) = nI d ∧ h < N ∧ d < N ∧ h ≠ d ∧ X (223 + 13 * i + 2) = nI c ∧ 0 < c ∧ c ≤ 162 ∧ X (223 + 13 * i + 6) = nI q ∧ q ≤ ac) (h4 : X' 4 = nI ac') (hle : ∀ ac, X 4 = nI ac → ac ≤ A → A < 2 ^ 30 → ac ≤ ac' ∧ ac' ≤ A') (hA : A' < 2 ^ 30) (hN : N ≤ N') (hr : ∀ i, i < K → X' (223 + 13 * i) = X (223 + 13 * i) ∧ X' (223 + 13 * i + 1) = X (223 + 13 * i + 1) ∧ X' (223 + 13 * i + 2) = X (223 + 13 * i + 2) ∧ X' (223 + 13 * i + 6) = X (223 + 13 * i + 6)) :
    ∃ ac, X' 4 = nI ac ∧ ac ≤ A' ∧ A' < 2 ^ 30 ∧ ∀ i, i < K → ∃ h d c q, X' (223 + 13 * i) = nI h ∧ X' (223 + 13 * i + 1) = nI d ∧ h < N' ∧ d < N' ∧ h ≠ d ∧ X' (223 + 13 * i + 2) = nI c ∧ 0 < c ∧ c ≤ 162 ∧ X' (223 + 13 * i + 6) = nI q ∧ q ≤ ac := by
  obtain ⟨ac, e, h1, h2, h3⟩ := h
  obtain ⟨g1, g2⟩ := hle ac e h1 h2
  refine ⟨ac', h4, g2, hA, fun i hi => ?_⟩
  obtain ⟨p, d, c, q, a0, a1, a2, a3, a4, a5, a6, a7, a8, a9⟩ := h3 i hi
  obtain ⟨b0, b1, b2, b3⟩ := hr i hi
  exact ⟨p, d, c, q, b0.trans a0, b1.trans a1, by omega, by omega, a4, b2.trans a5, a6, a7, b3.trans a8, by omega⟩
theorem CM_keep (h : ∀ i, i + 1 < K → X (223 + 13 * i + 6) ≤ X (223 + 13 * (i + 1) + 6)) (hr : ∀ i, i < K → X' (223 + 13 * i + 6) = X (223 + 13 * i + 6)) : ∀ i, i + 1 < K → X' (223 + 13 * i + 6) ≤ X' (223 + 13 * (i + 1) + 6) := fun i hi => by
  rw [hr i (by omega), hr (i + 1) hi]
  exact h i hi
theorem same4 {ac' A' : Nat} (hA : A ≤ A') (e : X 4 = nI ac') (hb : ac' < 2 ^ 31) : ∀ ac, X 4 = nI ac → ac ≤ A → A < 2 ^ 30 → ac ≤ ac' ∧ ac' ≤ A' := fun ac e2 h1 h2 => by
  rw [e] at e2
  have := (nI_eq hb (by omega)).mp e2
  omega
theorem plus4 {ac0 : Nat} (e : X 4 = nI ac0) (hb : ac0 < 2 ^ 31) : ∀ ac, X 4 = nI ac → ac ≤ A → A < 2 ^ 30 → ac ≤ ac0 + 1 ∧ ac0 + 1 ≤ A + 1 := fun ac e2 h1 h2 => by
  rw [e] at e2
  have := (nI_eq hb (by omega)).mp e2
  omega
theorem GI_set {w v : Int32} (h : GI X N K B A) (hA : A + 1 < 2 ^ 30) (hB : B + 9999 < 2 ^ 31) (hq : setQ X w v r X') : ErrP r ∨ (OkP r ∧ GI X' N K (B + 9999) (A + 1)) := by
  have h0 := h
  obtain ⟨⟨hI, hz⟩, hnw, hcl, hcm, ⟨q2, e2, b2⟩, q3, e3, b3⟩ := h
  obtain ⟨ac, eac, hac, hA30, -⟩ := hcl
  rcases id hq with ⟨-, e, -⟩ | ⟨j, hj, -, hv1, hv2, hr, rfl⟩
  · exact Or.inl (Or.inl e)
  right
  have hvn : ∃ q, q ≤ 50 ∧ v = nI q := nI_of2 (M := nI 50) (n := 50) (by decide) (by
    refine Int32.not_lt.mpr (Int32.le_trans ?_ hv1)
    unfold f_LEASTi
    split
    · decide
    · split <;> decide) (Int32.le_trans hv2 (by
    unfold f_MOSTi
    split
    · decide
    · split <;> decide))
  have hj3 : j = 3 → ∃ q, q ≤ 20 ∧ v = nI q := fun e => by
    subst e
    obtain ⟨q, hq50, rfl⟩ := hvn
    have : nI q ≤ nI 20 := hv2
    exact ⟨q, (nI_leI (by omega) (by decide)).mp this, rfl⟩
  have up : ∀ q, q ≠ j → upd X j v q = X q := fun q hq => pk_un hq
  refine ⟨?_, GI.mono (A := A) (B := B) ⟨⟨Inv_set eC_g hI hq, ZbX_cg (fun a ha => up _ (by omega)) hz⟩, fun k hk e a ha => ?_, CL_keep h0.2.2.1 ((up 4 (by omega)).trans eac) (same4 (Nat.le_refl _) eac (by omega)) hA30 (Nat.le_refl N) (fun i hi => ⟨up _ (by omega), up _ (by omega), up _ (by omega), up _ (by omega)⟩), CM_keep hcm (fun i hi => up _ (by omega)), ?_, ?_⟩ (by omega) hB (by omega) hA⟩
  · rw [hr]
    obtain ⟨vc, a1, a2, a3⟩ := hI.1.2.2.2.2.1
    obtain ⟨pr, a4, a5⟩ := hI.1.2.2.2.2.2.1
    rcases (show j = 0 ∨ j = 1 ∨ j = 2 ∨ j = 3 by omega) with rfl | rfl | rfl | rfl
    · exact ⟨vc, by omega, a1⟩
    · exact ⟨pr, by omega, a4⟩
    · exact ⟨q2, by omega, e2⟩
    · exact ⟨q3, by omega, e3⟩
  · rw [up _ (by omega)] at e ⊢
    exact hnw k hk e a ha
  · by_cases e : 2 = j
    · subst e
      obtain ⟨q, hq50, rfl⟩ := hvn
      exact ⟨q, pk_us, hq50⟩
    · exact ⟨q2, (up 2 e).trans e2, b2⟩
  · by_cases e : 3 = j
    · obtain ⟨q, hq20, rfl⟩ := hj3 e.symm
      subst e
      exact ⟨q, pk_us, hq20⟩
    · exact ⟨q3, (up 3 e).trans e3, b3⟩
theorem GI_pass {a : Int32} (h : GI X N K B A) (hA0 : 100000 ≤ A) (hA : A + 1 < 2 ^ 30) (hB : B + 9999 < 2 ^ 31) (hq : passQ X a r X') : ErrP r ∨ (OkP r ∧ GI X' N K (B + 9999) (A + 1)) := by
  have h0 := h
  obtain ⟨⟨hI, hz⟩, hnw, hcl, hcm, h23⟩ := h
  obtain ⟨ac, eac, hac, hA30, -⟩ := hcl
  rcases id hq with ⟨-, e, -⟩ | ⟨ha1, ha2, ⟨-, e, -⟩ | ⟨hle, hr, rfl⟩⟩
  · exact Or.inl (Or.inl e)
  · exact Or.inl (Or.inr (Or.inr e))
  right
  obtain ⟨q, hq50, rfl⟩ : ∃ q, q ≤ 50 ∧ a = nI q := nI_of2 (M := nI 50) (n := 50) (by decide) (Int32.not_lt.mpr (Int32.le_trans (by decide) ha1)) ha2
  rw [eac, nI_add] at hle hr
  have hle2 := (nI_leI (by omega) (by decide)).mp hle
  have up : ∀ j, j ≠ 4 → upd X 4 (X 4 + nI q) j = X j := fun j hj => pk_un hj
  have e4 : upd X 4 (X 4 + nI q) 4 = nI (ac + q) := by rw [pk_us, eac, nI_add]
  refine ⟨⟨ac + q, by omega, hr⟩, GI.mono (A := A) (B := B) ⟨⟨Inv_pass eC_g hI hq, ZbX_cg (fun a ha => up _ (by omega)) hz⟩, fun k hk e a ha => ?_, CL_keep h0.2.2.1 e4 (fun ac2 e2 h1 h2 => ?_) hA30 (Nat.le_refl N) (fun i hi => ⟨up _ (by omega), up _ (by omega), up _ (by omega), up _ (by omega)⟩), CM_keep hcm (fun i hi => up _ (by omega)), by rw [up 2 (by decide)]; exact h23.1, by rw [up 3 (by decide)]; exact h23.2⟩ (by omega) hB (by omega) hA⟩
  · rw [up _ (by omega)] at e ⊢
    exact hnw k hk e a ha
  · rw [eac] at e2
    have := (nI_eq (by omega) (by omega)).mp e2
    omega
/-- an act that takes away a wire, and perhaps gives others, of the chip's owners only -/
theorem GI_rip {n : Int32} (h : GI X N K B A) (hA : A + 1 < 2 ^ 30) (hB : B + 9999 < 2 ^ 31) (hq : ripQ eC X N n r X') : ErrP r ∨ (OkP r ∧ GI X' N K (B + 9999) (A + 1) ∧ ∃ k, k < N ∧ n = nI k ∧ jN X' k = 0) := by
  have h0 := h
  obtain ⟨⟨hI, hz⟩, hnw, hcl, hcm, h23⟩ := h
  have hN := hI.1.2.1
  obtain ⟨ac, eac, hac, hA30, -⟩ := hcl
  rcases id hq with ⟨-, e, -⟩ | ⟨k, hk, rfl, ⟨-, e, -⟩ | ⟨hj, hr, rfl⟩⟩
  · exact Or.inl (Or.inl e)
  · exact Or.inl (Or.inr (Or.inl e))
  right
  have hk6 : k < 6 := by omega
  have hlo : ∀ j, (j < 7 ∨ 169 ≤ j) → j ≠ 169 + 9 * k + 5 → j ≠ 4 → upd (loseE eC X k) 4 (loseE eC X k 4 + nI 1) j = X j := fun j h1 h2 h3 => by rw [pk_un h3]; exact loseE_n h1 h2
  have ho : ∀ a, a < 162 → upd (loseE eC X k) 4 (loseE eC X k 4 + nI 1) (7 + a) = if X (7 + a) = nI k then -1 else X (7 + a) := fun a ha => by rw [pk_un (by omega)]; exact loseE_o hk6 ha
  have e5 : upd (loseE eC X k) 4 (loseE eC X k 4 + nI 1) (169 + 9 * k + 5) = nI 0 := by rw [pk_un (by omega)]; exact loseE_5 _ _ _
  have e4 : upd (loseE eC X k) 4 (loseE eC X k 4 + nI 1) 4 = nI (ac + 1) := by rw [pk_us, loseE_n (by omega) (by omega), eac, nI_add]
  refine ⟨⟨_, cnt_lt31 (by decide), hr⟩, GI.mono (A := A + 1) (B := B) ⟨⟨Inv_rip eC_g hI hq, ZbX_cg (fun a ha => hlo _ (by omega) (by omega) (by omega)) hz⟩, fun k2 hk2 e a ha q => ?_, CL_keep h0.2.2.1 e4 (plus4 eac (by omega)) hA (Nat.le_refl N) (fun i hi => ⟨hlo _ (by omega) (by omega) (by omega), hlo _ (by omega) (by omega) (by omega), hlo _ (by omega) (by omega) (by omega), hlo _ (by omega) (by omega) (by omega)⟩), CM_keep hcm (fun i hi => hlo _ (by omega) (by omega) (by omega)), by rw [hlo 2 (by omega) (by omega) (by omega)]; exact h23.1, by rw [hlo 3 (by omega) (by omega) (by omega)]; exact h23.2⟩ (by omega) hB (Nat.le_refl _) hA, k, hk, rfl, if_pos (e5.trans nI_0)⟩
  rw [ho a ha] at q
  by_cases e6 : X (7 + a) = nI k
  · rw [if_pos e6] at q
    exact m1_ne (by omega) q
  · rw [if_neg e6] at q
    by_cases e7 : k2 = k
    · subst e7; exact e6 q
    · rw [hlo _ (by omega) (by omega) (by omega)] at e
      exact hnw k2 hk2 e a ha q
theorem GI_lay {n : Int32} (h : GI X N K B A) (hA : A + 1 < 2 ^ 30) (hB : B + 9999 < 2 ^ 31) (hq : layQ eC X N n r X') : (ErrP r ∧ (∀ k, k < N → n = nI k → ¬ X (169 + 9 * k + 5) = 0 ∨ rtX eC X N k false = none)) ∨ (OkP r ∧ GI X' N K (B + 9999) (A + 1) ∧ ∃ k z l1 l2, k < N ∧ n = nI k ∧ X (169 + 9 * k + 5) = 0 ∧ rtX eC X N k false = some (z, l1, l2) ∧ r = nI z ∧ jN X' k = 1 ∧ coins X' N = coins X N) := by
  have h0 := h
  obtain ⟨⟨hI, hz⟩, hnw, hcl, hcm, h23⟩ := h
  have hN := hI.1.2.1
  obtain ⟨ac, eac, hac, hA30, -⟩ := hcl
  rcases id hq with ⟨e9, e, -⟩ | ⟨k, hk, rfl, ⟨e9, e, -⟩ | ⟨hj, z, l1, l2, hrt, hr, rfl⟩⟩
  · exact Or.inl ⟨Or.inl e, fun k hk e => absurd ⟨k, hk, e⟩ e9⟩
  · exact Or.inl ⟨Or.inr (Or.inl e), fun k2 hk2 e2 => by
      have := (nI_eq (by omega) (by omega)).mp e2
      subst this
      exact e9⟩
  right
  have hk6 : k < 6 := by omega
  have hlo : ∀ j, (j < 7 ∨ 169 ≤ j) → j ≠ 169 + 9 * k + 5 → j ≠ 4 → upd (takeE eC X k (l1 ++ l2)) 4 (X 4 + nI 1) j = X j := fun j h1 h2 h3 => by rw [pk_un h3]; exact takeE_n h1 h2
  have ho : ∀ a, a < 162 → upd (takeE eC X k (l1 ++ l2)) 4 (X 4 + nI 1) (7 + a) = if a ∈ l1 ++ l2 ∧ X (7 + a) = -1 then nI k else X (7 + a) := fun a ha => by rw [pk_un (by omega)]; exact takeE_o hk6 ha
  have e5 : upd (takeE eC X k (l1 ++ l2)) 4 (X 4 + nI 1) (169 + 9 * k + 5) = nI 1 := by rw [pk_un (by omega)]; exact takeE_5 _ _ _ _
  have e4 : upd (takeE eC X k (l1 ++ l2)) 4 (X 4 + nI 1) 4 = nI (ac + 1) := by rw [pk_us, eac, nI_add]
  have hzb := rt_z hI.1 hk (hnw k hk (hj.trans nI_0.symm)) hrt
  refine ⟨⟨z, by omega, hr⟩, GI.mono (A := A + 1) (B := B) ⟨⟨Inv_lay eC_g hI hq, ZbX_cg (fun a ha => hlo _ (by omega) (by omega) (by omega)) hz⟩, fun k2 hk2 e a ha q => ?_, CL_keep h0.2.2.1 e4 (plus4 eac (by omega)) hA (Nat.le_refl N) (fun i hi => ⟨hlo _ (by omega) (by omega) (by omega), hlo _ (by omega) (by omega) (by omega), hlo _ (by omega) (by omega) (by omega), hlo _ (by omega) (by omega) (by omega)⟩), CM_keep hcm (fun i hi => hlo _ (by omega) (by omega) (by omega)), by rw [hlo 2 (by omega) (by omega) (by omega)]; exact h23.1, by rw [hlo 3 (by omega) (by omega) (by omega)]; exact h23.2⟩ (by omega) hB (Nat.le_refl _) hA, k, z, l1, l2, hk, rfl, hj, hrt, hr, if_neg (by rw [e5]; decide), sumI_cg (fun q hq => hlo _ (by omega) (by omega) (by omega))⟩
  by_cases e7 : k2 = k
  · subst e7
    rw [e5] at e
    exact absurd e (by decide)
  · rw [hlo _ (by omega) (by omega) (by omega)] at e
    rw [ho a ha] at q
    by_cases e6 : a ∈ l1 ++ l2 ∧ X (7 + a) = -1
    · rw [if_pos e6] at q
      exact e7 ((nI_eq (by omega) (by omega)).mp q).symm
    · rw [if_neg e6] at q
      exact hnw k2 hk2 e a ha q
theorem GI_appl {n : Int32} (h : GI X N K B A) (hA : A + 1 < 2 ^ 30) (hB : B + 9999 < 2 ^ 31) (hq : applQ X K n r X') : ErrP r ∨ (OkP r ∧ GI X' N K (B + 9999) (A + 1) ∧ ∃ i, i < K ∧ n = nI i ∧ X' (223 + 13 * i + 5) = nI 1 ∧ r = nI (appl X' K)) := by
  have h0 := h
  obtain ⟨⟨hI, hz⟩, hnw, hcl, hcm, h23⟩ := h
  have hN := hI.1.2.1
  have hK := hI.1.2.2.2.1
  obtain ⟨ac, eac, hac, hA30, -⟩ := hcl
  rcases id hq with ⟨-, e, -⟩ | ⟨i, hi, rfl, ⟨-, e, -⟩ | ⟨-, -, rfl, hr⟩⟩
  · exact Or.inl (Or.inl e)
  · exact Or.inl (Or.inr (Or.inl e))
  right
  have hlo : ∀ j, j ≠ 223 + 13 * i + 5 → j ≠ 4 → upd (upd X (223 + 13 * i + 5) (nI 1)) 4 (X 4 + nI 1) j = X j := fun j h1 h2 => by rw [pk_un h2, pk_un h1]
  have e4 : upd (upd X (223 + 13 * i + 5) (nI 1)) 4 (X 4 + nI 1) 4 = nI (ac + 1) := by rw [pk_us, eac, nI_add]
  refine ⟨⟨_, cnt_lt31 (by omega), hr⟩, GI.mono (A := A + 1) (B := B) ⟨⟨Inv_appl eC_g hI hq, ZbX_cg (fun a ha => hlo _ (by omega) (by omega)) hz⟩, fun k2 hk2 e a ha q => ?_, CL_keep h0.2.2.1 e4 (plus4 eac (by omega)) hA (Nat.le_refl N) (fun j hj => ⟨hlo _ (by omega) (by omega), hlo _ (by omega) (by omega), hlo _ (by omega) (by omega), hlo _ (by omega) (by omega)⟩), CM_keep hcm (fun j hj => hlo _ (by omega) (by omega)), by rw [hlo 2 (by omega) (by omega)]; exact h23.1, by rw [hlo 3 (by omega) (by omega)]; exact h23.2⟩ (by omega) hB (Nat.le_refl _) hA, i, hi, rfl, by rw [pk_un (by omega), pk_us], hr⟩
  rw [hlo _ (by omega) (by omega)] at e q
  exact hnw k2 hk2 e a ha q
theorem GI_blk {p t : Int32} (h : GI X N K B A) (hA : A + 1 < 2 ^ 30) (hB : B + 9999 < 2 ^ 31) (hq : blkQ eC X p t r X') : ErrP r ∨ (OkP r ∧ GI X' N K (B + 9999) (A + 1)) := by
  have h0 := h
  obtain ⟨⟨hI, hz⟩, hnw, hcl, hcm, h23⟩ := h
  have hN := hI.1.2.1
  obtain ⟨ac, eac, hac, hA30, -⟩ := hcl
  rcases hq with ⟨-, e, -⟩ | ⟨j, b, hj, hb, rfl, rfl, ⟨-, e, -⟩ | ⟨a3, a4, rfl, hr⟩⟩
  · exact Or.inl (Or.inl e)
  · exact Or.inl (Or.inr (Or.inl e))
  right
  have hlo : ∀ q, q ≠ 7 + j → q ≠ 7 + (j + 81) → upd (upd X (7 + j) (if b = 1 then nI 20 else eC.1)) (7 + (j + 81)) (if b = 1 then nI 20 else eC.1) q = X q := fun q h1 h2 => by rw [pk_un h2, pk_un h1]
  have hnk : ∀ k, k < N → ¬ (if b = 1 then nI 20 else eC.1) = nI k := fun k hk e => by
    split at e
    · have := (nI_eq (by decide) (by omega)).mp e
      omega
    · exact m1_ne (by omega) e
  refine ⟨⟨_, Nat.lt_of_le_of_lt (Nat.div_le_self _ _) (cnt_lt31 (by decide)), hr⟩, GI.mono (A := A) (B := B) ⟨⟨Inv_blk eC_g hI hj a3 a4, ZbX_cg (fun a ha => hlo _ (by omega) (by omega)) hz⟩, fun k2 hk2 e a ha q => ?_, CL_keep h0.2.2.1 ((hlo 4 (by omega) (by omega)).trans eac) (same4 (Nat.le_refl _) eac (by omega)) hA30 (Nat.le_refl N) (fun i hi => ⟨hlo _ (by omega) (by omega), hlo _ (by omega) (by omega), hlo _ (by omega) (by omega), hlo _ (by omega) (by omega)⟩), CM_keep hcm (fun i hi => hlo _ (by omega) (by omega)), by rw [hlo 2 (by omega) (by omega)]; exact h23.1, by rw [hlo 3 (by omega) (by omega)]; exact h23.2⟩ (by omega) hB (by omega) hA⟩
  rw [hlo _ (by omega) (by omega)] at e
  by_cases c1 : a = j + 81
  · subst c1
    rw [pk_us] at q
    exact hnk k2 hk2 q
  · by_cases c2 : a = j
    · subst c2
      rw [pk_un (by omega), pk_us] at q
      exact hnk k2 hk2 q
    · rw [hlo _ (by omega) (by omega)] at q
      exact hnw k2 hk2 e a ha q
end ACTS
