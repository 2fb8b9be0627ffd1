/-! CALLS THAT ARE REFUSED -/
def RS (M0 : Nat → Nat → Int32) (P : Nat → Nat) (X : Nat → Int32) (N K B A s : Nat) (M : Nat → Nat → Int32) : Prop := WI M P N K B A s ∧ M (P 0) = X ∧ FrS P M0 M
section NOSECT
variable {M0 M M' : Nat → Nat → Int32} {P P' : Nat → Nat} {X Y X' : Nat → Int32} {N K B A s : Nat} {r : Int32}
theorem RS_fr (h : RS M0 P X N K B A s M) (hF : FrS P M M') : RS M0 P X N K B A s M' := ⟨WI_fr h.1 hF, (FrS_0 h.1 hF).trans h.2.1, FrS_tr h.2.2 hF⟩
theorem InR_not {k : Nat} (h : N ≤ k) (hk : k < 2 ^ 31) : ¬ InR N (nI k) := fun ⟨j, hj, e⟩ => by
  have := (nI_eq hk (by omega)).mp e
  omega
theorem InR_m {x : Int32} (h : x < 0) (hN : N < 2 ^ 31) : ¬ InR N x := InR_no1 hN h
/-- a trial call whose answer is an error -/
theorem ref_of {Q : (Nat → Int32) → Int32 → (Nat → Int32) → Prop} (c : Int32) (hs : M 144 6 = nI s) (hp : FrK P M M' ∧ M' 147 = M 147 ∧ KpQ s M P r M' P' ∧ ∃ Y, LvX X Y N K ∧ Q Y r (M' (P 1))) (hc : c < 0) (hQ : ∀ Y, LvX X Y N K → ∀ X', Q Y r X' → r = c) : r = c ∧ P = P' ∧ FrS P M M' := by
  obtain ⟨h1, h2, h3, Y, hY, hq⟩ := hp
  obtain rfl := hQ Y hY _ hq
  have := FrS_K h1 h2 hs h3 hc
  exact ⟨rfl, this.2.symm, this.1⟩
theorem set_bad {w v : Int32} (hb : ∀ j, j < 4 → ¬ (w = nI j ∧ f_LEASTi j ≤ v ∧ v ≤ f_MOSTi j)) (h : setQ Y w v r X') : r = -1000001 := by
  rcases h with ⟨-, e, -⟩ | ⟨j, hj, e1, e2, e3, -⟩
  · exact e
  · exact absurd ⟨e1, e2, e3⟩ (hb j hj)
theorem blk_bad {p t : Int32} (hb : ¬ (InR 81 p ∧ InR 2 t)) (h : blkQ eC Y p t r X') : r = -1000001 := by
  rcases h with ⟨-, e, -⟩ | ⟨j, b, h1, h2, h3, h4, -⟩
  · exact e
  · exact absurd ⟨⟨j, h1, h3⟩, ⟨b, h2, h4⟩⟩ hb
theorem net_bad {p0 p1 p2 t u : Int32} (hb : ¬ netGood p0 p1 p2 t u) (h : netQ eC Y N p0 p1 p2 t u r X') : r = -1000001 := by
  rcases h with ⟨-, e, -⟩ | ⟨e, -⟩
  · exact e
  · exact absurd e hb
theorem give_bad {n a : Int32} (hb : ¬ (InR N n ∧ nI 1 ≤ a ∧ a ≤ nI 9999)) (h : giveQ Y N n a r X') : r = -1000001 := by
  rcases h with ⟨-, e, -⟩ | ⟨k, h1, h2, h3, h4, -⟩
  · exact e
  · exact absurd ⟨⟨k, h1, h2⟩, h3, h4⟩ hb
theorem lay_bad {n : Int32} (hb : ¬ InR N n) (h : layQ eC Y N n r X') : r = -1000001 := by
  rcases h with ⟨-, e, -⟩ | ⟨k, h1, h2, -⟩
  · exact e
  · exact absurd ⟨k, h1, h2⟩ hb
theorem dig_bad {n : Int32} (hb : ¬ InR N n) (h : digQ finC eC Y N K n r X') : r = -1000001 := by
  rcases h with ⟨-, e, -⟩ | ⟨k, h1, h2, -⟩
  · exact e
  · exact absurd ⟨k, h1, h2⟩ hb
theorem rip_bad {n : Int32} (hb : ¬ InR N n) (h : ripQ eC Y N n r X') : r = -1000001 := by
  rcases h with ⟨-, e, -⟩ | ⟨k, h1, h2, -⟩
  · exact e
  · exact absurd ⟨k, h1, h2⟩ hb
theorem appl_bad {n : Int32} (hb : ¬ InR K n) (h : applQ Y K n r X') : r = -1000001 := by
  rcases h with ⟨-, e, -⟩ | ⟨k, h1, h2, -⟩
  · exact e
  · exact absurd ⟨k, h1, h2⟩ hb
theorem pass_bad {a : Int32} (hb : ¬ (nI 1 ≤ a ∧ a ≤ nI 50)) (h : passQ Y a r X') : r = -1000001 := by
  rcases h with ⟨-, e, -⟩ | ⟨h1, h2, -⟩
  · exact e
  · exact absurd ⟨h1, h2⟩ hb
/-- questions that are refused -/
theorem no_l {p q : Prop} {c : Int32} (h : (p ∧ r = c) ∨ q) (hq : ¬ q) : r = c := by
  rcases h with h | h
  · exact h.2
  · exact absurd h hq
theorem net_no {n w : Int32} (hb : ¬ (InR N n ∧ InR 11 w)) (h : (¬ (InR N n ∧ InR 11 w) ∧ r = -1000001) ∨ ∃ k j, k < N ∧ n = nI k ∧ j < 11 ∧ w = nI j ∧ r = fNet eC X k j) : r = -1000001 := no_l h fun ⟨k, j, h1, h2, h3, h4, _⟩ => hb ⟨⟨k, h1, h2⟩, ⟨j, h3, h4⟩⟩
theorem clm_no {n w : Int32} (hb : ¬ (InR K n ∧ InR 8 w)) (h : (¬ (InR K n ∧ InR 8 w) ∧ r = -1000001) ∨ ∃ k j, k < K ∧ n = nI k ∧ j < 8 ∧ w = nI j ∧ r = fClm X k j) : r = -1000001 := no_l h fun ⟨k, j, h1, h2, h3, h4, _⟩ => hb ⟨⟨k, h1, h2⟩, ⟨j, h3, h4⟩⟩
theorem cell_no {a : Int32} (hb : ¬ InR 162 a) (h : (¬ InR 162 a ∧ r = -1000001) ∨ ∃ j, j < 162 ∧ a = nI j ∧ r = if X (7 + j) = -1 then -1000004 else X (7 + j)) : r = -1000001 := no_l h fun ⟨j, h1, h2, _⟩ => hb ⟨j, h1, h2⟩
def wireV (X : Nat → Int32) (k j : Nat) : Int32 := match fnd (fun a => decide (X (7 + a) = nI k ∧ cnt (fun b => decide (X (7 + b) = nI k)) a = j)) 162 with | some a => nI a | none => -1000004
theorem wire_no {n a : Int32} (hb : ¬ (InR N n ∧ ¬ a < 0)) (h : (¬ (InR N n ∧ ¬ a < 0) ∧ r = -1000001) ∨ ∃ k j, k < N ∧ n = nI k ∧ j < 2 ^ 31 ∧ a = nI j ∧ r = (match fnd (fun a => decide (X (7 + a) = nI k ∧ cnt (fun b => decide (X (7 + b) = nI k)) a = j)) 162 with | some a => nI a | none => -1000004)) : r = -1000001 := no_l h fun ⟨k, j, h1, h2, h3, h4, _⟩ => hb ⟨⟨k, h1, h2⟩, by rw [h4]; exact nI_pos h3⟩
theorem wire_at {k j : Nat} (hN : N ≤ 6) (hk : k < N) (hj : j < 2 ^ 31) (h : (¬ (InR N (nI k) ∧ ¬ nI j < 0) ∧ r = -1000001) ∨ ∃ k' j', k' < N ∧ nI k = nI k' ∧ j' < 2 ^ 31 ∧ nI j = nI j' ∧ r = (match fnd (fun a => decide (X (7 + a) = nI k' ∧ cnt (fun b => decide (X (7 + b) = nI k')) a = j')) 162 with | some a => nI a | none => -1000004)) : r = wireV X k j := by
  rcases h with ⟨e, -⟩ | ⟨k', j', h1, h2, h3, h4, h5⟩
  · exact absurd ⟨⟨k, hk, rfl⟩, nI_pos hj⟩ e
  · have e1 := (nI_eq (by omega) (by omega)).mp h2
    have e2 := (nI_eq hj h3).mp h4
    subst e1
    subst e2
    exact h5
theorem wire_end {k : Nat} : wireV X k (wir X (nI k)) = -1000004 := by
  unfold wireV
  rw [fnd_none (fun a ha => by
    simp only [decide_eq_false_iff_not]
    rintro ⟨h1, h2⟩
    have h3 : cnt (fun b => decide (X (7 + b) = nI k)) (a + 1) ≤ cnt (fun b => decide (X (7 + b) = nI k)) 162 := cnt_up (by omega)
    have h4 : cnt (fun b => decide (X (7 + b) = nI k)) (a + 1) = cnt (fun b => decide (X (7 + b) = nI k)) a + 1 := by
      rw [show cnt (fun b => decide (X (7 + b) = nI k)) (a + 1) = cnt (fun b => decide (X (7 + b) = nI k)) a + (if (decide (X (7 + a) = nI k)) = true then 1 else 0) from rfl, if_pos (by simpa using h1)]
    unfold wir at h2
    omega)]
theorem rt_no {n d : Int32} {f : Nat → List Nat → Int32} (hb : ¬ (InR N n ∧ InR 2 d)) (h : rtQ eC X N n d f r) : r = -1000001 := no_l h fun ⟨k, b, h1, h2, h3, h4, _⟩ => hb ⟨⟨k, h1, h3⟩, ⟨b, h2, h4⟩⟩
/-- a route's question that is not refused -/
theorem rt_at {f : Nat → List Nat → Int32} {k b : Nat} (hN : N ≤ 6) (hk : k < N) (hb : b < 2) (h : rtQ eC X N (nI k) (nI b) f r) : (¬ X (169 + 9 * k + 5) = 0 ∧ r = -1000002) ∨ (X (169 + 9 * k + 5) = 0 ∧ ((rtX eC X N k (decide (b = 1)) = none ∧ r = -1000004) ∨ ∃ z l1 l2, rtX eC X N k (decide (b = 1)) = some (z, l1, l2) ∧ r = f z (l1 ++ l2))) := by
  rcases h with ⟨e, -⟩ | ⟨k', b', h1, h2, h3, h4, h5⟩
  · exact absurd ⟨⟨k, hk, rfl⟩, ⟨b, hb, rfl⟩⟩ e
  · have e1 := (nI_eq (by omega) (by omega)).mp h3
    have e2 := (nI_eq (by omega) (by omega)).mp h4
    subst e1
    subst e2
    exact h5
theorem rt_joined {f : Nat → List Nat → Int32} {k b : Nat} (hN : N ≤ 6) (hk : k < N) (hb : b < 2) (hj : ¬ X (169 + 9 * k + 5) = 0) (h : rtQ eC X N (nI k) (nI b) f r) : r = -1000002 := by
  rcases rt_at hN hk hb h with ⟨-, e⟩ | ⟨e, -⟩
  · exact e
  · exact absurd e hj
theorem ra_neg {a : Int32} {q : Prop} (h : (a < 0 ∧ r = -1000001) ∨ q) (hq : ¬ q) : r = -1000001 := no_l h hq
theorem ra_at {n d : Int32} {j : Nat} (hj : j < 2 ^ 31) (h : (nI j < 0 ∧ r = -1000001) ∨ ∃ i, i < 2 ^ 31 ∧ nI j = nI i ∧ rtQ eC X N n d (fun _ L => atL L i) r) (hb : ¬ (InR N n ∧ InR 2 d)) : r = -1000001 := by
  rcases h with ⟨-, e⟩ | ⟨i, _, _, h⟩
  · exact e
  · exact rt_no hb h
theorem dk_neg {a : Int32} (ha : a < 0) (h : (a < 0 ∧ r = -1000001) ∨ (¬ a < 0 ∧ r = (match hd1 X K a with | some i => nI i | none => -1000004))) : r = -1000001 := no_l h fun q => q.1 ha
theorem dk_at {j : Nat} (hj : j < 2 ^ 31) (h : (nI j < 0 ∧ r = -1000001) ∨ (¬ nI j < 0 ∧ r = (match hd1 X K (nI j) with | some i => nI i | none => -1000004))) : r = (match hd1 X K (nI j) with | some i => nI i | none => -1000004) := by
  rcases h with ⟨e, -⟩ | ⟨-, e⟩
  · exact absurd e (nI_pos hj)
  · exact e
theorem fnd_true {p : Nat → Bool} {n i : Nat} (h : fnd p n = some i) : i < n ∧ p i = true := by
  unfold fnd at h
  exact ⟨List.mem_range.mp (List.mem_of_find?_eq_some h), List.find?_some h⟩
theorem fnd_no {p : Nat → Bool} {n : Nat} (h : fnd p n = none) : ∀ i, i < n → p i = false := by
  unfold fnd at h
  intro i hi
  have := List.find?_eq_none.mp h i (List.mem_range.mpr hi)
  simpa using this
theorem ahead_lt {i : Nat} (hi : i < K) (h : X (223 + 13 * i + 5) = nI 1) : ahead X K i < appl X K := by
  unfold ahead appl
  refine cnt_lt (a := i) (fun k _ hk => ?_) hi ?_ ?_
  · simp only [decide_eq_true_eq] at hk ⊢
    exact hk.1
  · simp only [decide_eq_false_iff_not]
    rintro ⟨-, h1 | ⟨-, h1⟩⟩
    · exact absurd h1 Int32.lt_irrefl
    · omega
  · simpa using h
theorem appl_le : appl X K ≤ K := cnt_le _ _
theorem hd1_end (hK : K ≤ 12) : hd1 X K (nI (appl X K)) = none := fnd_none (fun i hi => by
  simp only [decide_eq_false_iff_not]
  rintro ⟨h1, h2⟩
  have h3 := ahead_lt hi h1
  have h4 : appl X K ≤ K := appl_le
  have := (nI_eq (by omega) (by omega)).mp h2
  omega)
theorem hd1_0 (h : appl X K = 0) (ix : Int32) : hd1 X K ix = none := fnd_none (fun i hi => by
  simp only [decide_eq_false_iff_not]
  rintro ⟨h1, -⟩
  have := ahead_lt hi h1
  omega)
theorem LvX.appl (h : LvX X Y N K) : appl Y K = appl X K := cnt_congr (fun i hi => by rw [h.2.2 i hi 5 (by omega)])
theorem hear_no (hY : LvX X Y N K) (ha : appl X K = 0) (h : hearQ bC eC Y N K r X') : r = -1000002 := by
  rcases h with ⟨-, h2, -⟩ | ⟨i, h, d, h1, -⟩
  · exact h2
  · rw [hd1_0 (by rw [hY.appl]; exact ha)] at h1
    cases h1
theorem blk_pos {p b : Nat} (hp : p < 81) (hb : b < 2) (hY : LvX X Y N K) (h1 : ¬ X (7 + p) = (if b = 1 then (-1 : Int32) else nI 20)) (h : blkQ eC Y (nI p) (nI b) r X') : r = -1000002 := by
  rcases h with ⟨e, -⟩ | ⟨j, b', h2, h3, h4, h5, h6⟩
  · exact absurd ⟨⟨p, hp, rfl⟩, ⟨b, hb, rfl⟩⟩ e
  · have e1 := (nI_eq (by omega) (by omega)).mp h4
    have e2 := (nI_eq (by omega) (by omega)).mp h5
    subst e1
    subst e2
    rcases h6 with ⟨-, e, -⟩ | ⟨e, -⟩
    · exact e
    · rw [hY.1 (7 + p) (by omega)] at e
      exact absurd e h1
theorem lay_pos {k : Nat} (hN : N ≤ 6) (hk : k < N) (hY : LvX X Y N K) (hj : ¬ X (169 + 9 * k + 5) = 0) (h : layQ eC Y N (nI k) r X') : r = -1000002 := by
  rcases h with ⟨e, -⟩ | ⟨k', h1, h2, h3⟩
  · exact absurd ⟨k, hk, rfl⟩ e
  · have e1 := (nI_eq (by omega) (by omega)).mp h2
    subst e1
    rcases h3 with ⟨-, e, -⟩ | ⟨e, -⟩
    · exact e
    · rw [hY.2.1 k hk 5 (by omega)] at e
      exact absurd e hj
theorem dig_pos {k : Nat} (hN : N ≤ 6) (hk : k < N) (hY : LvX X Y N K) (hj : ¬ X (169 + 9 * k + 5) = 0) (h : digQ finC eC Y N K (nI k) r X') : r = -1000002 := by
  rcases h with ⟨e, -⟩ | ⟨k', h1, h2, h3⟩
  · exact absurd ⟨k, hk, rfl⟩ e
  · have e1 := (nI_eq (by omega) (by omega)).mp h2
    subst e1
    rcases h3 with ⟨-, e, -⟩ | ⟨e, -⟩
    · exact e
    · rw [hY.2.1 k hk 5 (by omega)] at e
      exact absurd e hj
theorem rip_pos {k : Nat} (hN : N ≤ 6) (hk : k < N) (hY : LvX X Y N K) (hj : X (169 + 9 * k + 5) = 0) (h : ripQ eC Y N (nI k) r X') : r = -1000002 := by
  rcases h with ⟨e, -⟩ | ⟨k', h1, h2, h3⟩
  · exact absurd ⟨k, hk, rfl⟩ e
  · have e1 := (nI_eq (by omega) (by omega)).mp h2
    subst e1
    rcases h3 with ⟨-, e, -⟩ | ⟨e, -⟩
    · exact e
    · rw [hY.2.1 k hk 5 (by omega)] at e
      exact absurd hj e
theorem wlN_le3 {n : Nat} : (wlN X n).length ≤ 3 := wlN_3
theorem bo_neg {a : Int32} (ha : a < -1) (h : BOQ X N K a r) : r = -1000001 := no_l h fun q => q.1 ha
theorem bo_3 (h : BOQ X N K (nI 3) r) : r = -1000004 := by
  rcases h with ⟨e, -⟩ | ⟨-, f, -, ⟨e, -⟩ | ⟨-, ⟨-, e⟩ | ⟨j, h1, h2, -⟩⟩⟩
  · exact absurd e (by decide)
  · exact absurd e (by decide)
  · exact e
  · have h3 : (wlN X N).length ≤ 3 := wlN_3
    have := (nI_eq (by omega) (by omega)).mp h2
    omega
theorem flt_no {w : Int32} {tx : Nat → Nat} {ln : Nat} (hb : ¬ InR 2 w) (h : FltQ bC finC eC tx ln Y N K w r) : r = -1000001 := no_l h fun ⟨b, h1, h2, _⟩ => hb ⟨b, h1, h2⟩
theorem cnt_no {ln : Nat} {w : Int32} (h0 : ¬ w = nI 10) (h1 : ¬ w = nI 11) (h2 : ∀ j, j < 24 → w = nI j → fCnt eC X N K j = -1000001) (h : (w = nI 10 ∧ r = nI s) ∨ (w = nI 11 ∧ r = nI ln) ∨ (¬ w = nI 10 ∧ ¬ w = nI 11 ∧ ((∃ j, j < 24 ∧ w = nI j ∧ r = fCnt eC X N K j) ∨ (¬ InR 24 w ∧ r = -1000001)))) : r = -1000001 := by
  rcases h with ⟨e, -⟩ | ⟨e, -⟩ | ⟨-, -, ⟨j, hj, e, e2⟩ | ⟨-, e⟩⟩
  · exact absurd e h0
  · exact absurd e h1
  · rw [e2, h2 j hj e]
  · exact e
theorem cnt_10 {ln : Nat} (h : (nI 10 = nI 10 ∧ r = nI s) ∨ (nI 10 = nI 11 ∧ r = nI ln) ∨ (¬ nI 10 = nI 10 ∧ ¬ nI 10 = nI 11 ∧ ((∃ j, j < 24 ∧ nI 10 = nI j ∧ r = fCnt eC X N K j) ∨ (¬ InR 24 (nI 10) ∧ r = -1000001)))) : r = nI s := by
  rcases h with ⟨-, e⟩ | ⟨e, -⟩ | ⟨e, -⟩
  · exact e
  · exact absurd e (by decide)
  · exact absurd rfl e
theorem typ_no {tx : Nat → Nat} {ln : Nat} (h : (¬ (nI 32 ≤ nI 31 ∧ nI 31 ≤ nI 126) ∧ r = -1000001 ∧ M = M') ∨ ((nI 32 ≤ nI 31 ∧ nI 31 ≤ nI 126) ∧ ((60 ≤ ln ∧ r = -1000003 ∧ M = M') ∨ (ln < 60 ∧ r = nI (ln + 1) ∧ M' = st2 (st2 M 148 ln (nI 31)) 147 1 (nI (ln + 1)))))) : r = -1000001 ∧ M = M' := by
  rcases h with ⟨-, e1, e2⟩ | ⟨e, -⟩
  · exact ⟨e1, e2⟩
  · exact absurd e.1 (by decide)
end NOSECT
