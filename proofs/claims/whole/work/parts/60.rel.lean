/-! THE TWO SIDES: a chip's row and the model's -/
def mapO (x : Int32) : Int32 := if x = nI 20 then nI 20 else x + nI 1
def Rel (X S : Nat → Int32) (N K : Nat) : Prop :=
  (∀ j, j < 7 → S j = X j) ∧ (∀ a, a < 162 → S (7 + a) = mapO (X (7 + a))) ∧ (∀ k, k < N → ∀ t, t < 9 → S (169 + 9 * k + t) = X (169 + 9 * k + t)) ∧ (∀ i, i < K → ∀ t, t < 7 → S (223 + 13 * i + t) = X (223 + 13 * i + t)) ∧ ∀ i, i < K → ∀ a, a < 162 → bM S i a = bC X i a
theorem mapO_f : mapO eC.1 = eM.1 := by decide
theorem mapO_20 : mapO (nI 20) = nI 20 := if_pos rfl
theorem mapO_n {k : Nat} (hk : k < 20) : mapO (nI k) = nI (k + 1) := by
  unfold mapO
  rw [if_neg (fun q => by have := (nI_eq (by omega) (by omega)).mp q; omega), nI_add]
theorem mapO_w {k : Nat} (hk : k < 6) : mapO (eC.2.1 k) = eM.2.1 k := by
  show mapO (nI k) = nI (1 + k)
  rw [mapO_n (by omega), Nat.add_comm]
theorem mapO_p {k : Nat} (hk : k < 6) : mapO (eC.2.2 k) = eM.2.2 k := by
  show mapO (nI (10 + k)) = nI (11 + k)
  rw [mapO_n (by omega)]
  congr 1
  omega
theorem i_addr {x y : Int32} (h : x + nI 1 = y + nI 1) : x = y := by
  have := congrArg (fun z => z - nI 1) h
  simpa [Int32.add_sub_cancel] using this
theorem mapO_inj {x y : Int32} (hx : ¬ x = nI 19) (hy : ¬ y = nI 19) : mapO x = mapO y ↔ x = y := by
  refine ⟨fun h => ?_, fun h => by rw [h]⟩
  unfold mapO at h
  have h19 : nI 20 = nI 19 + nI 1 := by decide
  by_cases e1 : x = nI 20
  · rw [if_pos e1] at h
    by_cases e2 : y = nI 20
    · rw [e1, e2]
    · rw [if_neg e2, h19] at h
      exact absurd (i_addr h).symm hy
  · rw [if_neg e1] at h
    by_cases e2 : y = nI 20
    · rw [if_pos e2, h19] at h
      exact absurd (i_addr h) hx
    · rw [if_neg e2] at h
      exact i_addr h
theorem own_19 {X : Nat → Int32} {N a : Nat} (hN : N ≤ 6) (hO : OwV eC X N) (ha : a < 162) : ¬ X (7 + a) = nI 19 := by
  intro q
  rcases hO a ha with (h | ⟨k, hk, h⟩) | h | ⟨k, hk, h⟩
  · rw [h] at q; exact absurd q (by decide)
  · rw [h] at q; have := (nI_eq (by omega) (by omega)).mp (show nI k = nI 19 from q); omega
  · rw [h] at q; exact absurd q (by decide)
  · rw [h] at q; have := (nI_eq (by omega) (by omega)).mp (show nI (10 + k) = nI 19 from q); omega
theorem w_19 {k : Nat} (hk : k < 6) : ¬ eC.2.1 k = nI 19 := fun q => by
  have := (nI_eq (by omega) (by omega)).mp (show nI k = nI 19 from q); omega
theorem p_19 {k : Nat} (hk : k < 6) : ¬ eC.2.2 k = nI 19 := fun q => by
  have := (nI_eq (by omega) (by omega)).mp (show nI (10 + k) = nI 19 from q); omega
section REL
variable {X S : Nat → Int32} {N K B : Nat} (hI : InvX eC X N K B) (hR : Rel X S N K)
theorem o_v {v : Int32} (hI : InvX eC X N K B) (hR : Rel X S N K) {a : Nat} (ha : a < 162) (hv : ¬ v = nI 19) : S (7 + a) = mapO v ↔ X (7 + a) = v := by
  rw [hR.2.1 a ha]
  exact mapO_inj (own_19 hI.1.2.1 hI.2.1 ha) hv
theorem o_f (hI : InvX eC X N K B) (hR : Rel X S N K) {a : Nat} (ha : a < 162) : S (7 + a) = eM.1 ↔ X (7 + a) = eC.1 := by
  rw [← mapO_f]; exact o_v hI hR ha (by decide)
theorem o_w (hI : InvX eC X N K B) (hR : Rel X S N K) {a k : Nat} (ha : a < 162) (hk : k < 6) : S (7 + a) = eM.2.1 k ↔ X (7 + a) = eC.2.1 k := by
  rw [← mapO_w hk]; exact o_v hI hR ha (w_19 hk)
theorem o_p (hI : InvX eC X N K B) (hR : Rel X S N K) {a k : Nat} (ha : a < 162) (hk : k < 6) : S (7 + a) = eM.2.2 k ↔ X (7 + a) = eC.2.2 k := by
  rw [← mapO_p hk]; exact o_v hI hR ha (p_19 hk)
theorem o_20 (hI : InvX eC X N K B) (hR : Rel X S N K) {a : Nat} (ha : a < 162) : S (7 + a) = nI 20 ↔ X (7 + a) = nI 20 := by
  have := o_v (v := nI 20) hI hR ha (by decide)
  rwa [mapO_20] at this
theorem r_wir (hI : InvX eC X N K B) (hR : Rel X S N K) {k : Nat} (hk : k < 6) : wir S (eM.2.1 k) = wir X (eC.2.1 k) := cnt_congr (fun a ha => decide_eq_decide.mpr (o_w hI hR ha hk))
theorem r_via (hI : InvX eC X N K B) (hR : Rel X S N K) {k : Nat} (hk : k < 6) : via S (eM.2.1 k) = via X (eC.2.1 k) := cnt_congr (fun a ha => decide_eq_decide.mpr (and_congr (o_w hI hR (by omega) hk) (o_w hI hR (by omega) hk)))
theorem r_wirf (hI : InvX eC X N K B) (hR : Rel X S N K) : wir S eM.1 = wir X eC.1 := cnt_congr (fun a ha => decide_eq_decide.mpr (o_f hI hR ha))
theorem r_wir20 (hI : InvX eC X N K B) (hR : Rel X S N K) : wir S (nI 20) = wir X (nI 20) := cnt_congr (fun a ha => decide_eq_decide.mpr (o_20 hI hR ha))
theorem o_ex (hI : InvX eC X N K B) (hR : Rel X S N K) {a : Nat} (ha : a < 162) : (∃ k, k < N ∧ S (7 + a) = eM.2.1 k) ↔ ∃ k, k < N ∧ X (7 + a) = eC.2.1 k := by
  have hN := hI.1.2.1
  exact ⟨fun ⟨k, h1, h2⟩ => ⟨k, h1, (o_w hI hR ha (by omega)).mp h2⟩, fun ⟨k, h1, h2⟩ => ⟨k, h1, (o_w hI hR ha (by omega)).mpr h2⟩⟩
theorem r_wires (hI : InvX eC X N K B) (hR : Rel X S N K) : wires eM S N = wires eC X N := cnt_congr (fun a ha => decide_eq_decide.mpr (o_ex hI hR ha))
theorem r_cross (hI : InvX eC X N K B) (hR : Rel X S N K) : cross eM S N = cross eC X N := cnt_congr (fun a ha => decide_eq_decide.mpr (and_congr (o_ex hI hR (by omega)) (and_congr (o_ex hI hR (by omega)) (not_congr (by
  rw [hR.2.1 a (by omega), hR.2.1 (a + 81) (by omega)]
  exact mapO_inj (own_19 hI.1.2.1 hI.2.1 (by omega)) (own_19 hI.1.2.1 hI.2.1 (by omega)))))))
theorem r_loss (hR : Rel X S N K) {i : Nat} (hi : i < K) : lossX S i = lossX X i := by
  unfold lossX
  rw [hR.1 0 (by omega), hR.1 2 (by omega), hR.2.2.2.1 i hi 2 (by omega), hR.2.2.2.1 i hi 3 (by omega)]
theorem r_appl (hR : Rel X S N K) : appl S K = appl X K := cnt_congr (fun i hi => by rw [hR.2.2.2.1 i hi 5 (by omega)])
theorem r_ahead (hR : Rel X S N K) {i : Nat} (hi : i < K) : ahead S K i = ahead X K i := cnt_congr (fun d hd => by rw [hR.2.2.2.1 d hd 5 (by omega), r_loss hR hd, r_loss hR hi])
theorem find_cg {p q : Nat → Bool} : ∀ {l : List Nat}, (∀ a, a ∈ l → p a = q a) → l.find? p = l.find? q
  | [], _ => rfl
  | a :: l, h => by
    rw [List.find?_cons, List.find?_cons, h a List.mem_cons_self, find_cg (l := l) (fun b hb => h b (List.mem_cons_of_mem _ hb))]
theorem fnd_cg {p q : Nat → Bool} {K : Nat} (h : ∀ k, k < K → p k = q k) : fnd p K = fnd q K := find_cg (fun a ha => h a (List.mem_range.mp ha))
theorem r_hd1 (hR : Rel X S N K) (ix : Int32) : hd1 S K ix = hd1 X K ix := fnd_cg (fun i hi => by rw [hR.2.2.2.1 i hi 5 (by omega), r_ahead hR hi])
theorem r_wrg (hI : InvX eC X N K B) (hR : Rel X S N K) : ∀ i, i ≤ K → wrg S i = wrg X i
  | 0, _ => rfl
  | i + 1, h => by
    have ih := r_wrg hI hR i (by omega)
    obtain ⟨h0, hh0, e0⟩ := (hI.1.2.2.2.2.2.2.2 i (by omega)).1
    have c0 := hR.2.2.2.1 i (by omega) 0 (by omega)
    rw [Nat.add_zero] at c0
    have hN := hI.1.2.1
    show (if S (223 + 13 * i + 4) < lossX S i ∧ S (169 + 9 * (S (223 + 13 * i)).toNatClampNeg + 5) = 0 then wrg S i ||| (nI 1 <<< (S (223 + 13 * i) &&& 31)) else wrg S i) = (if X (223 + 13 * i + 4) < lossX X i ∧ X (169 + 9 * (X (223 + 13 * i)).toNatClampNeg + 5) = 0 then wrg X i ||| (nI 1 <<< (X (223 + 13 * i) &&& 31)) else wrg X i)
    rw [ih, c0, e0, nI_clamp (by omega), hR.2.2.2.1 i (by omega) 4 (by omega), r_loss hR (by omega), hR.2.2.1 h0 hh0 5 (by omega)]
theorem r_joined (hR : Rel X S N K) : joinedN S N = joinedN X N := cnt_congr (fun k hk => by rw [hR.2.2.1 k hk 5 (by omega)])
theorem sumI_cg {f g : Nat → Int32} : ∀ {n : Nat}, (∀ k, k < n → f k = g k) → sumI f n = sumI g n
  | 0, _ => rfl
  | n + 1, h => by unfold sumI; rw [sumI_cg (n := n) (fun k hk => h k (by omega)), h n (by omega)]
theorem r_fnet (hI : InvX eC X N K B) (hR : Rel X S N K) {k j : Nat} (hk : k < N) (hj : j < 11) : fNet eM S k j = fNet eC X k j := by
  have hN := hI.1.2.1
  have h := hR.2.2.1 k hk
  have h0 := h 0 (by omega)
  rw [Nat.add_zero] at h0
  rcases (show j = 0 ∨ j = 1 ∨ j = 2 ∨ j = 3 ∨ j = 4 ∨ j = 5 ∨ j = 6 ∨ j = 7 ∨ j = 8 ∨ j = 9 ∨ j = 10 by omega) with rfl | rfl | rfl | rfl | rfl | rfl | rfl | rfl | rfl | rfl | rfl
  · exact h0
  · exact h 1 (by omega)
  · show (if S (169 + 9 * k + 2) = -1 then _ else S (169 + 9 * k + 2)) = _
    rw [h 2 (by omega)]; rfl
  · exact h 3 (by omega)
  · exact h 4 (by omega)
  · show (if S (169 + 9 * k + 5) = 0 then _ else _) = _
    rw [h 5 (by omega)]; rfl
  · exact congrArg nI (r_wir hI hR (by omega))
  · exact congrArg nI (r_via hI hR (by omega))
  · exact h 6 (by omega)
  · exact h 7 (by omega)
  · exact h 8 (by omega)
theorem r_fclm (hR : Rel X S N K) {i j : Nat} (hi : i < K) (hj : j < 8) : fClm S i j = fClm X i j := by
  have h := hR.2.2.2.1 i hi
  have h0 := h 0 (by omega)
  rw [Nat.add_zero] at h0
  rcases (show j = 0 ∨ j = 1 ∨ j = 2 ∨ j = 3 ∨ j = 4 ∨ j = 5 ∨ j = 6 ∨ j = 7 by omega) with rfl | rfl | rfl | rfl | rfl | rfl | rfl | rfl
  · exact h0
  · exact h 1 (by omega)
  · exact h 2 (by omega)
  · exact h 3 (by omega)
  · exact h 4 (by omega)
  · exact r_loss hR hi
  · exact h 5 (by omega)
  · show S 4 - S (223 + 13 * i + 6) = X 4 - X (223 + 13 * i + 6)
    rw [hR.1 4 (by omega), h 6 (by omega)]
theorem r_fcnt (hI : InvX eC X N K B) (hR : Rel X S N K) {j : Nat} (hj : j < 24) : fCnt eM S N K j = fCnt eC X N K j := by
  rcases (show j = 0 ∨ j = 1 ∨ j = 2 ∨ j = 3 ∨ j = 4 ∨ j = 5 ∨ j = 6 ∨ j = 7 ∨ j = 8 ∨ j = 9 ∨ j = 10 ∨ j = 11 ∨ j = 12 ∨ j = 13 ∨ j = 14 ∨ j = 15 ∨ j = 16 ∨ j = 17 ∨ j = 18 ∨ j = 19 ∨ j = 20 ∨ j = 21 ∨ j = 22 ∨ j = 23 by omega) with rfl | rfl | rfl | rfl | rfl | rfl | rfl | rfl | rfl | rfl | rfl | rfl | rfl | rfl | rfl | rfl | rfl | rfl | rfl | rfl | rfl | rfl | rfl | rfl
  · rfl
  · exact congrArg nI (r_joined hR)
  · exact congrArg (fun z => nI (z / 2)) (r_wir20 hI hR)
  · exact congrArg nI (r_wirf hI hR)
  · rfl
  · exact congrArg nI (r_appl hR)
  · exact hR.1 4 (by omega)
  · exact sumI_cg (fun k hk => hR.2.2.1 k hk 4 (by omega))
  · exact congrArg nI (r_wires hI hR)
  · exact congrArg nI (r_cross hI hR)
  · rfl
  · rfl
  · rfl
  · rfl
  · rfl
  · rfl
  · rfl
  · rfl
  · rfl
  · rfl
  · exact hR.1 0 (by omega)
  · exact hR.1 1 (by omega)
  · exact hR.1 2 (by omega)
  · exact hR.1 3 (by omega)
/-- routes -/
theorem r_st (hR : Rel X S N K) {k : Nat} (hk : k < N) : stX S k = stX X k := by unfold stX; rw [hR.2.2.1 k hk 3 (by omega)]
theorem r_pr (hR : Rel X S N K) : prX S = prX X := by unfold prX; rw [hR.1 1 (by omega)]
theorem r_vc (hR : Rel X S N K) : vcX S = vcX X := by unfold vcX; rw [hR.1 0 (by omega)]
theorem fnd_lt {p : Nat → Bool} {K k : Nat} (h : fnd p K = some k) : k < K := by
  unfold fnd at h
  exact List.mem_range.mp (List.mem_of_find?_eq_some h)
theorem r_tw (hI : InvX eC X N K B) (hR : Rel X S N K) {n : Nat} (hn : n < N) (dg : Bool) : twX eM S N n dg = twX eC X N n dg := by
  have hN := hI.1.2.1
  funext a
  unfold twX twE
  by_cases ha : 162 ≤ a
  · rw [if_pos ha, if_pos ha]
  · rw [if_neg ha, if_neg ha]
    have e1 : (S (7 + a) = eM.1 ∨ S (7 + a) = eM.2.2 n) ↔ (X (7 + a) = eC.1 ∨ X (7 + a) = eC.2.2 n) := or_congr (o_f hI hR (by omega)) (o_p hI hR (by omega) (by omega))
    have e2 : fnd (fun k => decide (S (7 + a) = eM.2.1 k)) N = fnd (fun k => decide (X (7 + a) = eC.2.1 k)) N := fnd_cg (fun k hk => decide_eq_decide.mpr (o_w hI hR (by omega) (by omega)))
    rw [e2]
    by_cases q : X (7 + a) = eC.1 ∨ X (7 + a) = eC.2.2 n
    · rw [if_pos q, if_pos (e1.mpr q)]
    · rw [if_neg q, if_neg (fun z => q (e1.mp z))]
      cases hf : fnd (fun k => decide (X (7 + a) = eC.2.1 k)) N with
      | none => rfl
      | some k => rw [r_pr hR]; dsimp only; rw [r_st hR (fnd_lt hf)]
theorem joinL_rel (hI : InvX eC X N K B) (hR : Rel X S N K) {n : Nat} (hn : n < 6) : ∀ {l : List Nat} {J : Nat → Bool}, (∀ a, a ∈ l → a < 162) → joinL S (eM.2.2 n) J l = joinL X (eC.2.2 n) J l
  | [], _, _ => rfl
  | a :: l, J, h => by
    show joinL S (eM.2.2 n) (joinB S (eM.2.2 n) J a) l = joinL X (eC.2.2 n) (joinB X (eC.2.2 n) J a) l
    have e : joinB S (eM.2.2 n) J a = joinB X (eC.2.2 n) J a := by
      funext b
      unfold joinB
      rw [decide_eq_decide.mpr (o_p hI hR (h a List.mem_cons_self) hn)]
    rw [e]
    exact joinL_rel hI hR hn (fun b hb => h b (List.mem_cons_of_mem _ hb))
theorem r_rt (hI : InvX eC X N K B) (hR : Rel X S N K) {n : Nat} (hn : n < N) (dg : Bool) : rtX eM S N n dg = rtX eC X N n dg := by
  have hN := hI.1.2.1
  have hnet := hR.2.2.1 n hn
  have h0 := hnet 0 (by omega)
  rw [Nat.add_zero] at h0
  have e0 : p0X S n = p0X X n := by unfold p0X; rw [h0]
  have e1 : p1X S n = p1X X n := by unfold p1X; rw [hnet 1 (by omega)]
  have e2 : p2X S n = p2X X n := by unfold p2X; rw [hnet 2 (by omega)]
  have et : twE eM S N n dg (prX S) (stX S) = twE eC X N n dg (prX X) (stX X) := r_tw hI hR hn dg
  unfold rtX
  rw [e0, e1, e2, r_vc hR]
  generalize htw : twE eC X N n dg (prX X) (stX X) = tw at et
  generalize hvc : vcX X = vc
  cases h1 : startO (dcl tw (dS vc tw (jn0 (p0X X n)))) (p1X X n) with
  | none => rw [rtP_none1 et.symm h1, rtP_none1 htw.symm h1]
  | some s1 =>
    have hs : s1 < 162 := by
      have := startO_some h1
      have := (hI.1.net hn).p1.2.1
      omega
    have hj := joinL_rel hI hR (n := n) (by omega) (l := pthL vc tw (jn0 (p0X X n)) (dcl tw (dS vc tw (jn0 (p0X X n)))) 161 s1) (J := jn0 (p0X X n)) (pth_lt 161 s1 hs)
    cases h2 : p2X X n with
    | none => rw [rtP_one et.symm h1, rtP_one htw.symm h1]
    | some p2 =>
      generalize hpl : pthL vc tw (jn0 (p0X X n)) (dcl tw (dS vc tw (jn0 (p0X X n)))) 161 s1 = pl1 at hj
      generalize hJ1 : joinL X (eC.2.2 n) (jn0 (p0X X n)) pl1 = J1 at hj
      cases h3 : startO (dcl (tw0 tw pl1) (dS vc (tw0 tw pl1) J1)) p2 with
      | none => rw [rtP_none2 et.symm h1 hpl.symm rfl hj.symm h3, rtP_none2 htw.symm h1 hpl.symm rfl hJ1.symm h3]
      | some s2 => rw [rtP_two et.symm h1 hpl.symm rfl hj.symm h3, rtP_two htw.symm h1 hpl.symm rfl hJ1.symm h3]
theorem r_thr (hI : InvX eC X N K B) (hR : Rel X S N K) {k : Nat} (hk : k < 6) (L : List Nat) : thrE eM S L k = thrE eC X L k := cnt_congr (fun a ha => decide_eq_decide.mpr (and_congr Iff.rfl (o_w hI hR ha hk)))
theorem r_due (hI : InvX eC X N K B) (hR : Rel X S N K) {k : Nat} (hk : k < N) (L : List Nat) : dueE eM S L k = dueE eC X L k := by
  have hN := hI.1.2.1
  unfold dueE
  rw [r_thr hI hR (by omega), r_pr hR, r_st hR hk]
theorem r_pri (hI : InvX eC X N K B) (hR : Rel X S N K) (L : List Nat) : priE eM S N L = priE eC X N L := sumN_cg (fun k hk => r_due hI hR hk L)
theorem r_vic (hI : InvX eC X N K B) (hR : Rel X S N K) {k : Nat} (hk : k < 6) {L : List Nat} (hL : ∀ a, a ∈ L → a < 162) : vicE eM S L k = vicE eC X L k := decide_eq_decide.mpr ⟨fun ⟨a, h1, h2⟩ => ⟨a, h1, (o_w hI hR (hL a h1) hk).mp h2⟩, fun ⟨a, h1, h2⟩ => ⟨a, h1, (o_w hI hR (hL a h1) hk).mpr h2⟩⟩
theorem r_cntv (hI : InvX eC X N K B) (hR : Rel X S N K) {L : List Nat} (hL : ∀ a, a ∈ L → a < 162) {v : Nat} (hv : v ≤ N) : cnt (vicE eM S L) v = cnt (vicE eC X L) v := cnt_congr (fun k hk => r_vic hI hR (by have := hI.1.2.1; omega) hL)
end REL
/-! the relation is kept -/
theorem Rel_upd {X S : Nat → Int32} {N K j : Nat} {v : Int32} (hR : Rel X S N K) (hN : N ≤ 6) (hK : K ≤ 12) (hj : j < 7 ∨ (169 ≤ j ∧ j < 223) ∨ ∃ i t, i < 12 ∧ t < 7 ∧ j = 223 + 13 * i + t) : Rel (upd X j v) (upd S j v) N K := by
  have key : ∀ q, S q = X q → upd S j v q = upd X j v q := fun q h => upd_c h
  have hlo : j < 7 ∨ 169 ≤ j := by
    rcases hj with h | h | ⟨i, t, _, _, h⟩
    · exact Or.inl h
    · exact Or.inr h.1
    · exact Or.inr (by omega)
  refine ⟨fun q hq => key q (hR.1 q hq), fun a ha => ?_, fun k hk t ht => key _ (hR.2.2.1 k hk t ht), fun i hi t ht => key _ (hR.2.2.2.1 i hi t ht), fun i hi a ha => ?_⟩
  · rw [pk_un (by omega), pk_un (by omega)]; exact hR.2.1 a ha
  · have hne : 223 + 13 * i + (7 + a / 27) ≠ j := by
      rcases hj with h | h | ⟨i2, t2, h1, h2, h3⟩
      · omega
      · omega
      · omega
    have hne2 : 400 + a ≠ j := by
      rcases hj with h | h | ⟨i2, t2, h1, h2, h3⟩
      · omega
      · omega
      · omega
    rw [bM_cg (pk_un hne), bC_cg (pk_un hne2)]
    exact hR.2.2.2.2 i hi a ha
theorem Rel_lose {X S : Nat → Int32} {N K B k : Nat} (hI : InvX eC X N K B) (hR : Rel X S N K) (hk : k < N) : Rel (loseE eC X k) (loseE eM S k) N K := by
  have hN := hI.1.2.1
  have key : ∀ q, q < 7 ∨ 169 ≤ q → S q = X q → loseE eM S k q = loseE eC X k q := fun q hq h => by
    by_cases e : q = 169 + 9 * k + 5
    · subst e; rw [loseE_5, loseE_5]
    · rw [loseE_n hq e, loseE_n hq e, h]
  refine ⟨fun q hq => key q (by omega) (hR.1 q hq), fun a ha => ?_, fun j hj t ht => key _ (by omega) (hR.2.2.1 j hj t ht), fun i hi t ht => key _ (by omega) (hR.2.2.2.1 i hi t ht), fun i hi a ha => ?_⟩
  · rw [loseE_o (by omega) ha, loseE_o (by omega) ha]
    by_cases e : X (7 + a) = eC.2.1 k
    · rw [if_pos e, if_pos ((o_w hI hR ha (by omega)).mpr e), mapO_f]
    · rw [if_neg e, if_neg (fun z => e ((o_w hI hR ha (by omega)).mp z))]; exact hR.2.1 a ha
  · rw [bM_cg (loseE_n (by omega) (by omega)), bC_cg (loseE_n (by omega) (by omega))]
    exact hR.2.2.2.2 i hi a ha
theorem Rel_take {X S : Nat → Int32} {N K B k : Nat} (hI : InvX eC X N K B) (hR : Rel X S N K) (hk : k < N) (L : List Nat) : Rel (takeE eC X k L) (takeE eM S k L) N K := by
  have hN := hI.1.2.1
  have key : ∀ q, q < 7 ∨ 169 ≤ q → S q = X q → takeE eM S k L q = takeE eC X k L q := fun q hq h => by
    by_cases e : q = 169 + 9 * k + 5
    · subst e; rw [takeE_5, takeE_5]
    · rw [takeE_n hq e, takeE_n hq e, h]
  refine ⟨fun q hq => key q (by omega) (hR.1 q hq), fun a ha => ?_, fun j hj t ht => key _ (by omega) (hR.2.2.1 j hj t ht), fun i hi t ht => key _ (by omega) (hR.2.2.2.1 i hi t ht), fun i hi a ha => ?_⟩
  · rw [takeE_o (by omega) ha, takeE_o (by omega) ha]
    by_cases e : a ∈ L ∧ X (7 + a) = eC.1
    · rw [if_pos e, if_pos ⟨e.1, (o_f hI hR ha).mpr e.2⟩, mapO_w (by omega)]
    · rw [if_neg e, if_neg (fun z => e ⟨z.1, (o_f hI hR ha).mp z.2⟩)]; exact hR.2.1 a ha
  · rw [bM_cg (takeE_n (by omega) (by omega)), bC_cg (takeE_n (by omega) (by omega))]
    exact hR.2.2.2.2 i hi a ha
theorem Rel_back {X S : Nat → Int32} {N K B k i0 : Nat} (hI : InvX eC X N K B) (hR : Rel X S N K) (hk : k < N) (hi0 : i0 < K) : Rel (backG bC eC X i0 k) (backG bM eM S i0 k) N K := by
  have hN := hI.1.2.1
  have key : ∀ q, q < 7 ∨ 169 ≤ q → S q = X q → backG bM eM S i0 k q = backG bC eC X i0 k q := fun q hq h => by
    by_cases e : q = 169 + 9 * k + 5
    · subst e; rw [backG_5, backG_5]
    · rw [backG_n hq e, backG_n hq e, h]
  refine ⟨fun q hq => key q (by omega) (hR.1 q hq), fun a ha => ?_, fun j hj t ht => key _ (by omega) (hR.2.2.1 j hj t ht), fun i hi t ht => key _ (by omega) (hR.2.2.2.1 i hi t ht), fun i hi a ha => ?_⟩
  · rw [backG_o (by omega) ha, backG_o (by omega) ha, hR.2.2.2.2 i0 hi0 a ha]
    split
    · rw [mapO_w (by omega)]
    · exact hR.2.1 a ha
  · rw [bM_cg (backG_n (by omega) (by omega)), bC_cg (backG_n (by omega) (by omega))]
    exact hR.2.2.2.2 i hi a ha
theorem canB_R {X S : Nat → Int32} {N K B k i0 : Nat} (hI : InvX eC X N K B) (hR : Rel X S N K) (hk : k < N) (hi0 : i0 < K) : canB bM eM S i0 k ↔ canB bC eC X i0 k := by
  unfold canB
  rw [hR.2.2.1 k hk 5 (by omega)]
  refine and_congr Iff.rfl (forall_congr' fun a => forall_congr' fun ha => ?_)
  rw [hR.2.2.2.2 i0 hi0 a ha, o_f hI hR ha]
theorem Rel_lv {X Y S : Nat → Int32} {N K : Nat} (hR : Rel X S N K) (hl : LvX X Y N K) : Rel Y S N K := by
  refine ⟨fun j hj => (hR.1 j hj).trans (hl.1 j (by omega)).symm, fun a ha => by rw [hl.1 (7 + a) (by omega)]; exact hR.2.1 a ha, fun k hk t ht => (hR.2.2.1 k hk t ht).trans (hl.2.1 k hk t ht).symm, fun i hi t ht => (hR.2.2.2.1 i hi t ht).trans (hl.2.2 i hi t ht).symm, fun i hi a ha => ?_⟩
  rw [bC_cg (hl.1 (400 + a) (by omega))]
  exact hR.2.2.2.2 i hi a ha
theorem Rel_S {X S T : Nat → Int32} {N K : Nat} (hN : N ≤ 6) (hK : K ≤ 12) (hR : Rel X S N K) (h : ∀ j, j < 379 → T j = S j) : Rel X T N K := by
  refine ⟨fun j hj => (h j (by omega)).trans (hR.1 j hj), fun a ha => (h _ (by omega)).trans (hR.2.1 a ha), fun k hk t ht => (h _ (by omega)).trans (hR.2.2.1 k hk t ht), fun i hi t ht => (h _ (by omega)).trans (hR.2.2.2.1 i hi t ht), fun i hi a ha => ?_⟩
  rw [bM_cg (h _ (by omega))]
  exact hR.2.2.2.2 i hi a ha
/-- a digging on both sides -/
theorem Inv_dgV {bt : (Nat → Int32) → Nat → Nat → Bool} {e : Enc} {X Y : Nat → Int32} {N K k B : Nat} {L : List Nat} (hE : EncG e) (h : InvX e X N K B) (hk : k < N) (hp : ¬ X (169 + 9 * k + 4) < nI (priE e X N L)) (hKb : K + cnt (vicE e X L) N ≤ 12) (hq : dgV bt e X N K k L (priE e X N L) N Y) : InvX e Y N (K + cnt (vicE e X L) N) B := by
  obtain ⟨h1, h2, h3, h4, h5, h6, h7, -, -⟩ := hq
  have hN := h.1.2.1
  have hB := h.2.2.2.2.2
  obtain ⟨pu, g1, g2⟩ := h.2.2.2.2.1
  have hpb := pri_le (L := L) h.1
  have hpk : priE e X N L ≤ pu k := by
    rw [g1 k hk] at hp
    have := le_sumN (f := pu) hk
    by_cases q : pu k < priE e X N L
    · exact absurd ((nI_ltI (by omega) (by omega)).mpr q) hp
    · omega
  refine InvX_st hE h ?_ (h1 5 (by omega)) h3 hKb (fun j hj t ht => (h5 j hj).1 t ht) (fun j hj => ?_) ?_ (fun i hi => ?_) (fun a ha => ?_)
  · rw [h1 0 (by omega), h1 1 (by omega)]; exact h.s01
  · rw [(h5 j hj).2.2.1]
    split
    · exact Or.inl rfl
    · exact h.j5 hj
  · refine ⟨fun j => (if j = k then pu j - priE e X N L else pu j) + dueE e X L j, fun j hj => ?_, ?_⟩
    · rw [(h5 j hj).2.1, if_pos hj, g1 j hj]
      by_cases ek : j = k
      · subst ek
        rw [if_pos rfl, pk_sub hpk, nI_add]
        exact congrArg nI (congrArg (· + dueE e X L j) (if_pos rfl).symm)
      · rw [if_neg ek, nI_add]
        exact congrArg nI (congrArg (· + dueE e X L j) (if_neg ek).symm)
    · rw [sumN_add]
      have := sumN_upd (f := fun j => if j = k then pu j - priE e X N L else pu j) (g := pu) (k := k) (w := priE e X N L) hk (by rw [if_pos rfl]; omega) (fun j _ hj => (if_neg hj).symm)
      have e1 : sumN (dueE e X L) N = priE e X N L := rfl
      omega
  · by_cases hi2 : i < K
    · have q0 := h6 i hi2 0 (by decide)
      rw [Nat.add_zero] at q0
      rw [q0, h6 i hi2 1 (by decide)]; exact h.1.2.2.2.2.2.2.2 i hi2
    · have key : ∀ n, n ≤ N → i < K + cnt (vicE e X L) n → ∃ w, w < n ∧ w < N ∧ vicE e X L w = true ∧ i = K + cnt (vicE e X L) w := by
        intro n
        induction n with
        | zero => intro _ q; exact absurd q hi2
        | succ n ih =>
          intro hn q
          by_cases ev : vicE e X L n = true
          · rw [cnt_s ev] at q
            by_cases q2 : i < K + cnt (vicE e X L) n
            · obtain ⟨w, w1, w2⟩ := ih (by omega) q2
              exact ⟨w, by omega, w2⟩
            · exact ⟨n, by omega, hn, ev, by omega⟩
          · rw [cnt_n (by simpa using ev)] at q
            obtain ⟨w, w1, w2⟩ := ih (by omega) q
            exact ⟨w, by omega, w2⟩
      obtain ⟨w, w1, w2, w3, rfl⟩ := key N (Nat.le_refl N) hi
      have := h7 w w1 w2 w3
      exact ⟨⟨w, w2, this.1⟩, ⟨k, hk, this.2.1⟩⟩
  · rw [h4 a ha]
    unfold lzE
    by_cases q : ∃ w, w < N ∧ w < N ∧ X (7 + a) = e.2.1 w ∧ vicE e X L w = true
    · rw [if_pos q]
      obtain ⟨w, w1, -, w2, -⟩ := q
      exact Or.inr ⟨Or.inr ⟨w, w1, w2⟩, Or.inl rfl⟩
    · rw [if_neg q]; exact Or.inl rfl
theorem vic_key {p : Nat → Bool} {K i : Nat} (hi : ¬ i < K) : ∀ n, i < K + cnt p n → ∃ w, w < n ∧ p w = true ∧ i = K + cnt p w
  | 0, q => absurd q hi
  | n + 1, q => by
    by_cases ev : p n = true
    · rw [cnt_s ev] at q
      by_cases q2 : i < K + cnt p n
      · obtain ⟨w, w1, w2⟩ := vic_key hi n q2
        exact ⟨w, by omega, w2⟩
      · exact ⟨n, by omega, ev, by omega⟩
    · rw [cnt_n (by simpa using ev)] at q
      obtain ⟨w, w1, w2⟩ := vic_key hi n q
      exact ⟨w, by omega, w2⟩
theorem Rel_dig {X S X' S' : Nat → Int32} {N K B k : Nat} {L : List Nat} (hI : InvX eC X N K B) (hR : Rel X S N K) (hk : k < N) (hL : ∀ a, a ∈ L → a < 162) (hp : ¬ X (169 + 9 * k + 4) < nI (priE eC X N L)) (hKb : K + cnt (vicE eC X L) N ≤ 12) (h1 : dgF bC eC X N K k L X') (h2 : dgF bM eM S N K k L S') : Rel X' S' N (K + cnt (vicE eC X L) N) := by
  have hN := hI.1.2.1
  obtain ⟨Y, hY, rfl⟩ := h1
  obtain ⟨Z, hZ, rfl⟩ := h2
  have hcv : ∀ v, v ≤ N → cnt (vicE eM S L) v = cnt (vicE eC X L) v := fun v hv => r_cntv hI hR hL hv
  have hvc : ∀ w, w < N → vicE eM S L w = vicE eC X L w := fun w hw => r_vic hI hR (by omega) hL
  rw [r_pri hI hR] at hZ
  have hIY : InvX eC Y N (K + cnt (vicE eC X L) N) B := Inv_dgV eC_g hI hk hp hKb hY
  refine Rel_take hIY ?_ hk L
  obtain ⟨y1, y2, y3, y4, y5, y6, y7, y8, y9⟩ := hY
  obtain ⟨z1, z2, z3, z4, z5, z6, z7, z8, z9⟩ := hZ
  have hKe : K + cnt (vicE eM S L) N = K + cnt (vicE eC X L) N := by rw [hcv N (Nat.le_refl N)]
  refine ⟨fun j hj => ?_, fun a ha => ?_, fun j hj t ht => ?_, fun i hi t ht => ?_, fun i hi a ha => ?_⟩
  · rcases (show j < 4 ∨ j = 4 ∨ j = 5 ∨ j = 6 by omega) with h | rfl | rfl | rfl
    · rw [z1 j (Or.inl h), y1 j (Or.inl h)]; exact hR.1 j hj
    · rw [z2, y2, hR.1 4 (by omega)]
    · rw [z1 5 (Or.inr rfl), y1 5 (Or.inr rfl)]; exact hR.1 5 hj
    · rw [z3, y3, hcv N (Nat.le_refl N)]
  · rw [z4 a ha, y4 a ha]
    unfold lzE
    by_cases q : ∃ w, w < N ∧ w < N ∧ X (7 + a) = eC.2.1 w ∧ vicE eC X L w = true
    · rw [if_pos q, if_pos (by obtain ⟨w, q1, q2, q3, q4⟩ := q; exact ⟨w, q1, q2, (o_w hI hR ha (by omega)).mpr q3, by rw [hvc w q1]; exact q4⟩), mapO_f]
    · rw [if_neg q, if_neg (fun ⟨w, q1, q2, q3, q4⟩ => q ⟨w, q1, q2, (o_w hI hR ha (by omega)).mp q3, by rw [← hvc w q1]; exact q4⟩)]
      exact hR.2.1 a ha
  · obtain ⟨a1, a2, a3, a4, a5, a6⟩ := y5 j hj
    obtain ⟨b1, b2, b3, b4, b5, b6⟩ := z5 j hj
    have hs := hR.2.2.1 j hj
    rw [r_due hI hR hj] at b2 b6
    rw [hvc j hj] at b3 b4
    rcases (show t < 4 ∨ t = 4 ∨ t = 5 ∨ t = 6 ∨ t = 7 ∨ t = 8 by omega) with h | rfl | rfl | rfl | rfl | rfl
    · rw [b1 t h, a1 t h]; exact hs t ht
    · rw [b2, a2, hs 4 ht]
    · rw [b3, a3, hs 5 ht]
    · rw [b4, a4, hs 6 ht]
    · rw [b5, a5, hs 7 ht]
    · rw [b6, a6, hs 8 ht]
  · by_cases hi2 : i < K
    · rw [z6 i hi2 t ht, y6 i hi2 t ht]; exact hR.2.2.2.1 i hi2 t ht
    · obtain ⟨w, w1, w2, rfl⟩ := vic_key hi2 N hi
      obtain ⟨a0, a1, a2, a3, a4, a5, a6⟩ := y7 w w1 w1 w2
      obtain ⟨b0, b1, b2, b3, b4, b5, b6⟩ := z7 w w1 w1 (by rw [hvc w w1]; exact w2)
      rw [hcv w (by omega)] at b0 b1 b2 b3 b4 b5 b6
      rw [r_wir hI hR (by omega)] at b2
      rw [r_via hI hR (by omega)] at b3
      rw [r_due hI hR w1] at b4
      rcases (show t = 0 ∨ t = 1 ∨ t = 2 ∨ t = 3 ∨ t = 4 ∨ t = 5 ∨ t = 6 by omega) with rfl | rfl | rfl | rfl | rfl | rfl | rfl
      · exact b0.trans a0.symm
      · exact b1.trans a1.symm
      · exact b2.trans a2.symm
      · exact b3.trans a3.symm
      · exact b4.trans a4.symm
      · exact b5.trans a5.symm
      · rw [b6, a6, hR.1 4 (by omega)]
  · by_cases hi2 : i < K
    · rw [z8 i hi2 a ha, y8 i hi2 a ha]; exact hR.2.2.2.2 i hi2 a ha
    · obtain ⟨w, w1, w2, rfl⟩ := vic_key hi2 N hi
      have b := z9 w w1 w1 (by rw [hvc w w1]; exact w2) a ha
      rw [hcv w (by omega)] at b
      rw [b, y9 w w1 w1 w2 a ha]
      exact decide_eq_decide.mpr (o_w hI hR ha (by omega))
