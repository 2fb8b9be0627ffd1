/-! ONE CALL OF THE LAW: what it asks -/
section STEPS
variable {M M' : Nat → Nat → Int32} {P P' : Nat → Nat} {X : Nat → Int32} {N K B A s : Nat} {r : Int32}
theorem WI.mono {B' A' : Nat} (h : WI M P N K B A s) (hB : B ≤ B') (hB2 : B' < 2 ^ 31) (hA : A ≤ A') (hA2 : A' < 2 ^ 30) : WI M P N K B' A' s := by
  obtain ⟨h1, h2, h3, h4, h5, h6⟩ := h
  refine ⟨h1, h2, h3.mono hB hB2 hA hA2, h4, h5, fun t ht => ?_⟩
  obtain ⟨N', K', g⟩ := h6 t ht
  exact ⟨N', K', g.mono hB hB2 hA hA2⟩
theorem ErrP.neg (h : ErrP r) : r < 0 := by rcases h with rfl | rfl | rfl <;> decide
theorem OkP.pos (h : OkP r) : ¬ r < 0 := by
  obtain ⟨q, hq, rfl⟩ := h
  exact nI_pos hq
theorem tr_step {Q : (Nat → Int32) → Int32 → (Nat → Int32) → Prop} {Er : Prop} {Ok : Nat → Nat → (Nat → Int32) → Prop} (hW : WI M P N K B A s) (hX : M (P 0) = X) (hA : A + 1 < 2 ^ 30) (hB : B + 9999 < 2 ^ 31) (hp : FrK P M M' ∧ M' 147 = M 147 ∧ KpQ s M P r M' P' ∧ ∃ Y, LvX X Y N K ∧ Q Y r (M' (P 1)))
    (hQ : ∀ Y X', LvX X Y N K → GI Y N K B A → Q Y r X' → (ErrP r ∧ Er) ∨ (OkP r ∧ ∃ N' K', GI X' N' K' (B + 9999) (A + 1) ∧ Ok N' K' X')) :
    (ErrP r ∧ Er ∧ P = P' ∧ WI M' P N K (B + 9999) (A + 1) s ∧ M' (P 0) = X) ∨ (OkP r ∧ ∃ N' K' X', WI M' P' N' K' (B + 9999) (A + 1) (min (s + 1) 4) ∧ M' (P' 0) = X' ∧ Ok N' K' X') := by
  obtain ⟨h1, h2, h3, Y, hY, hq⟩ := hp
  have hGX : GI X N K B A := hX ▸ hW.hG
  rcases hQ Y _ hY (GI_lv hGX hY) hq with ⟨he, hEr⟩ | ⟨hok, N', K', hG', hOk⟩
  · left
    obtain ⟨hF, e⟩ := FrS_K h1 h2 hW.hs h3 he.neg
    exact ⟨he, hEr, e.symm, (WI_fr hW hF).mono (by omega) hB (by omega) hA, (FrS_0 hW hF).trans hX⟩
  · right
    have hP := hW.hP
    have hp1 := hP.1 1 (by decide)
    rcases h3 with ⟨e, -⟩ | ⟨-, rfl, hs'⟩
    · exact absurd e hok.pos
    have keep : ∀ i, i < 6 → i ≠ 1 → M' (P i) = M (P i) := fun i hi h1i => by
      have h9 := hP.1 i hi
      exact h1 _ (fun e => h1i (hP.2 i 1 hi (by decide) e)) (by omega) (by omega) (by omega)
    have e0 : rotP P 0 = P 1 := rotP_i P 0 (by decide)
    refine ⟨hok, N', K', _, ⟨StP_rot hP, Nbr_cg (h1 150 (by omega) (by omega) (by omega) (by omega)) hW.hNb, by rw [e0]; exact hG', ⟨hs', by omega⟩, by rw [h2]; exact hW.hln, fun t ht => ?_⟩, by rw [e0], hOk⟩
    have hs4 := hW.hs4
    rw [rotP_i P (5 - t) (by omega)]
    by_cases e : t = 0
    · subst e
      rw [show (5 - 0 + 1) % 6 = 0 from rfl, keep 0 (by decide) (by decide)]
      exact ⟨N, K, hW.hG.mono (by omega) hB (by omega) hA⟩
    · rw [show (5 - t + 1) % 6 = 5 - (t - 1) by omega, keep _ (by omega) (by omega)]
      obtain ⟨N2, K2, g⟩ := hW.2.2.2.2.2 (t - 1) (by omega)
      exact ⟨N2, K2, g.mono (by omega) hB (by omega) hA⟩
theorem WI_undo (hW : WI M P N K B A s) (hs0 : s ≠ 0) : ∃ N' K', WI (st2 M 144 6 (nI (s - 1))) (unP P) N' K' B A (s - 1) := by
  have hP := hW.hP
  have hs4 := hW.hs4
  obtain ⟨N', K', g⟩ := hW.2.2.2.2.2 0 (by omega)
  have ev : ∀ i, i < 6 → st2 M 144 6 (nI (s - 1)) (P i) = M (P i) := fun i hi => st2_n _ _ _ (by have := hP.1 i hi; omega)
  refine ⟨N', K', StP_un hP, Nbr_cg (st2_n _ _ _ (by decide)) hW.hNb, ?_, ⟨by rw [st2_k, pk_us], by omega⟩, by rw [st2_n _ _ _ (by decide)]; exact hW.hln, fun t ht => ?_⟩
  · rw [unP_i P 0 (by decide), show unS 0 = 5 from rfl, ev 5 (by decide)]
    exact g
  · have e : unS (5 - t) = 5 - (t + 1) := by
      unfold unS
      rw [if_neg (by omega), if_neg (by omega), if_neg (by omega)]
      omega
    rw [unP_i P (5 - t) (by omega), e, ev _ (by omega)]
    exact hW.2.2.2.2.2 (t + 1) (by omega)
/-- what each act asks of its chip, told of the chip before it -/
theorem q_set {w v : Int32} (hA : A + 1 < 2 ^ 30) (hB : B + 9999 < 2 ^ 31) : ∀ Y X', LvX X Y N K → GI Y N K B A → setQ Y w v r X' → (ErrP r ∧ True) ∨ (OkP r ∧ ∃ N' K', GI X' N' K' (B + 9999) (A + 1) ∧ True) := fun _ _ _ hG hq => (GI_set hG hA hB hq).imp (fun e => ⟨e, trivial⟩) (fun e => ⟨e.1, _, _, e.2, trivial⟩)
theorem q_blk {p t : Int32} (hA : A + 1 < 2 ^ 30) (hB : B + 9999 < 2 ^ 31) : ∀ Y X', LvX X Y N K → GI Y N K B A → blkQ eC Y p t r X' → (ErrP r ∧ True) ∨ (OkP r ∧ ∃ N' K', GI X' N' K' (B + 9999) (A + 1) ∧ True) := fun _ _ _ hG hq => (GI_blk hG hA hB hq).imp (fun e => ⟨e, trivial⟩) (fun e => ⟨e.1, _, _, e.2, trivial⟩)
theorem q_pass {a : Int32} (hA0 : 100000 ≤ A) (hA : A + 1 < 2 ^ 30) (hB : B + 9999 < 2 ^ 31) : ∀ Y X', LvX X Y N K → GI Y N K B A → passQ Y a r X' → (ErrP r ∧ True) ∨ (OkP r ∧ ∃ N' K', GI X' N' K' (B + 9999) (A + 1) ∧ True) := fun _ _ _ hG hq => (GI_pass hG hA0 hA hB hq).imp (fun e => ⟨e, trivial⟩) (fun e => ⟨e.1, _, _, e.2, trivial⟩)
theorem q_net {p0 p1 p2 t u : Int32} (hA : A + 1 < 2 ^ 30) (hB : B + 9999 < 2 ^ 31) : ∀ Y X', LvX X Y N K → GI Y N K B A → netQ eC Y N p0 p1 p2 t u r X' → (ErrP r ∧ True) ∨ (OkP r ∧ ∃ N' K', GI X' N' K' (B + 9999) (A + 1) ∧ N + 1 = N' ∧ r = nI N ∧ X' (169 + 9 * N + 4) = u ∧ jN X' N = 0) := fun _ _ _ hG hq => (GI_net hG hA hB hq).imp (fun e => ⟨e, trivial⟩) (fun e => ⟨e.1, _, _, e.2.1, rfl, e.2.2⟩)
theorem q_lay {n : Nat} (hn6 : n < 2 ^ 31) (hA : A + 1 < 2 ^ 30) (hB : B + 9999 < 2 ^ 31) : ∀ Y X', LvX X Y N K → GI Y N K B A → layQ eC Y N (nI n) r X' → (ErrP r ∧ (n < N → GdX eC X N K → ¬ X (169 + 9 * n + 5) = 0 ∨ rtX eC X N n false = none)) ∨ (OkP r ∧ ∃ N' K', GI X' N' K' (B + 9999) (A + 1) ∧ N = N' ∧ n < N ∧ X (169 + 9 * n + 5) = 0 ∧ (GdX eC X N K → ∃ z l1 l2, rtX eC X N n false = some (z, l1, l2) ∧ r = nI z) ∧ jN X' n = 1 ∧ coins X' N = coins X N) := fun Y X' hY hG hq => by
  have hN := hG.1.1.1.2.1
  rcases GI_lay hG hA hB hq with ⟨e, h⟩ | ⟨e, g, k, z, l1, l2, hk, ek, h5, hrt, hr, hj, hc⟩
  · refine Or.inl ⟨e, fun hn hGX => ?_⟩
    rcases h n hn rfl with h | h
    · rw [hY.2.1 n hn 5 (by omega)] at h
      exact Or.inl h
    · rw [l_rt hGX hY hn] at h
      exact Or.inr h
  · have e9 := (nI_eq hn6 (by omega)).mp ek
    subst e9
    refine Or.inr ⟨e, N, K, g, rfl, hk, by rw [← hY.2.1 n hk 5 (by omega)]; exact h5, fun hGX => ⟨z, l1, l2, by rw [← l_rt hGX hY hk]; exact hrt, hr⟩, hj, hc.trans (sumI_cg (fun k hk => hY.2.1 k hk 4 (by omega)))⟩
theorem q_rip {n : Nat} (hn6 : n < 2 ^ 31) (hA : A + 1 < 2 ^ 30) (hB : B + 9999 < 2 ^ 31) : ∀ Y X', LvX X Y N K → GI Y N K B A → ripQ eC Y N (nI n) r X' → (ErrP r ∧ True) ∨ (OkP r ∧ ∃ N' K', GI X' N' K' (B + 9999) (A + 1) ∧ N = N' ∧ K = K' ∧ n < N ∧ jN X' n = 0) := fun Y X' hY hG hq => by
  have hN := hG.1.1.1.2.1
  rcases GI_rip hG hA hB hq with e | ⟨e, g, k, hk, ek, hj⟩
  · exact Or.inl ⟨e, trivial⟩
  · have e9 := (nI_eq hn6 (by omega)).mp ek
    subst e9
    exact Or.inr ⟨e, N, K, g, rfl, rfl, hk, hj⟩
theorem q_appl {i : Nat} (hi6 : i < 2 ^ 31) (hA : A + 1 < 2 ^ 30) (hB : B + 9999 < 2 ^ 31) : ∀ Y X', LvX X Y N K → GI Y N K B A → applQ Y K (nI i) r X' → (ErrP r ∧ True) ∨ (OkP r ∧ ∃ N' K', GI X' N' K' (B + 9999) (A + 1) ∧ K = K' ∧ i < K ∧ X' (223 + 13 * i + 5) = nI 1 ∧ r = nI (appl X' K)) := fun Y X' hY hG hq => by
  have hK := hG.1.1.1.2.2.2.1
  rcases GI_appl hG hA hB hq with e | ⟨e, g, k, hk, ek, hj, hr⟩
  · exact Or.inl ⟨e, trivial⟩
  · have e9 := (nI_eq hi6 (by omega)).mp ek
    subst e9
    exact Or.inr ⟨e, N, K, g, rfl, hk, hj, hr⟩
theorem l_loss {Y : Nat → Int32} (hY : LvX X Y N K) {i : Nat} (hi : i < K) : lossX Y i = lossX X i := by
  unfold lossX
  rw [hY.1 2 (by omega), hY.1 0 (by omega), hY.2.2 i hi 2 (by omega), hY.2.2 i hi 3 (by omega)]
theorem find_cg {p q : Nat → Bool} : ∀ {l : List Nat}, (∀ i, i ∈ l → p i = q i) → l.find? p = l.find? q
  | [], _ => rfl
  | a :: l, h => by rw [List.find?_cons, List.find?_cons, h a List.mem_cons_self, find_cg (l := l) (fun i hi => h i (List.mem_cons_of_mem _ hi))]
theorem l_hd1 {Y : Nat → Int32} (hY : LvX X Y N K) (ix : Int32) : hd1 Y K ix = hd1 X K ix := by
  unfold hd1
  have ha : ∀ i, i < K → ahead Y K i = ahead X K i := fun i hi => cnt_congr (fun d hd => by rw [hY.2.2 d hd 5 (by omega), l_loss hY hd, l_loss hY hi])
  have : ∀ {p q : Nat → Bool} {n : Nat}, (∀ i, i < n → p i = q i) → fnd p n = fnd q n := fun {p q n} h => by
    unfold fnd
    exact find_cg (fun x hx => h x (List.mem_range.mp hx))
  exact this (fun i hi => by rw [hY.2.2 i hi 5 (by omega), ha i hi])
theorem q_hear (hA : A + 1 < 2 ^ 30) (hB : B + 9999 < 2 ^ 31) : ∀ Y X', LvX X Y N K → GI Y N K B A → hearQ bC eC Y N K r X' → (ErrP r ∧ hd1 X K (nI 0) = none) ∨ (OkP r ∧ ∃ N' K', GI X' N' K' (B + 9999) (A + 1) ∧ N = N' ∧ K = K' ∧ ∃ i d, hd1 X K (nI 0) = some i ∧ i < K ∧ X (223 + 13 * i + 1) = nI d ∧ d < N ∧ r = payI (dueI X i) (X (169 + 9 * d + 4)) ∧ X' (223 + 13 * i + 5) = nI 2 ∧ (¬ r < dueI X i ∨ jN X' d = 0) ∧ coins X' N = coins X N) := fun Y X' hY hG hq => by
  rcases GI_hear hG hA hB hq with ⟨e, h⟩ | ⟨e, g, i, hh, d, h1, hi, e0, e1, hhN, hdN, hne, hr, h2, h3, h4⟩
  · rw [l_hd1 hY] at h
    exact Or.inl ⟨e, h⟩
  · have ed : dueI Y i = dueI X i := by
      unfold dueI
      rw [l_loss hY hi, hY.2.2 i hi 4 (by omega)]
    rw [l_hd1 hY] at h1
    rw [ed] at hr h3
    rw [hY.2.2 i hi 1 (by omega)] at e1
    rw [hY.2.1 d hdN 4 (by omega)] at hr
    exact Or.inr ⟨e, N, K, g, rfl, rfl, i, d, h1, hi, e1, hdN, hr, h2, h3, h4.trans (sumI_cg (fun k hk => hY.2.1 k hk 4 (by omega)))⟩
theorem q_dig {n : Nat} (hn6 : n < 2 ^ 31) (hGX : GdX eC X N K) (hA : A + 1 < 2 ^ 30) (hB : B + 9999 < 2 ^ 31) : ∀ Y X', LvX X Y N K → GI Y N K B A → digQ finC eC Y N K (nI n) r X' →
    (ErrP r ∧ (n < N → (¬ X (169 + 9 * n + 5) = 0 ∨ rtX eC X N n true = none) ∨ (X (169 + 9 * n + 5) = 0 ∧ ∃ z l1 l2, rtX eC X N n true = some (z, l1, l2) ∧ (X (169 + 9 * n + 4) < nI (priE eC X N (l1 ++ l2)) ∨ 12 < K + cnt (vicE eC X (l1 ++ l2)) N)))) ∨
    (OkP r ∧ ∃ N' K', GI X' N' K' (B + 9999) (A + 1) ∧ N = N' ∧ n < N ∧ X (169 + 9 * n + 5) = 0 ∧ ∃ z l1 l2, rtX eC X N n true = some (z, l1, l2) ∧ K + cnt (vicE eC X (l1 ++ l2)) N = K' ∧ K' ≤ 12 ∧ r = nI (priE eC X N (l1 ++ l2)) ∧ jN X' n = 1 ∧ coins X' N = coins X N ∧
      ∀ w, w < N → vicE eC X (l1 ++ l2) w = true → jN X' w = 0 ∧ X' (223 + 13 * (K + cnt (vicE eC X (l1 ++ l2)) w)) = nI w ∧ X' (223 + 13 * (K + cnt (vicE eC X (l1 ++ l2)) w) + 1) = nI n ∧ X' (223 + 13 * (K + cnt (vicE eC X (l1 ++ l2)) w) + 5) = nI 0) := fun Y X' hY hG hq => by
  have hN := hG.1.1.1.2.1
  have cv : ∀ z l1 l2, n < N → rtX eC Y N n true = some (z, l1, l2) → rtX eC X N n true = some (z, l1, l2) ∧ priE eC Y N (l1 ++ l2) = priE eC X N (l1 ++ l2) ∧ (∀ k, vicE eC Y (l1 ++ l2) k = vicE eC X (l1 ++ l2) k) := fun z l1 l2 hn h => by
    rw [l_rt hGX hY hn] at h
    have hok := rtX_ok hGX hn h
    exact ⟨h, l_pri hY _, fun k => l_vic hY (fun a ha => (hok.2.2.2.2 a ha).1)⟩
  rcases GI_dig hG hA hB hq with ⟨e, h⟩ | ⟨e, k, z, l1, l2, g, hKb, hk, ek, h5, hrt, hr, hj, hc, hw⟩
  · refine Or.inl ⟨e, fun hn => ?_⟩
    rcases h n hn rfl with (h | h) | ⟨h1, z, l1, l2, h2, h3⟩
    · rw [hY.2.1 n hn 5 (by omega)] at h
      exact Or.inl (Or.inl h)
    · rw [l_rt hGX hY hn] at h
      exact Or.inl (Or.inr h)
    · obtain ⟨c1, c2, c3⟩ := cv z l1 l2 hn h2
      rw [hY.2.1 n hn 5 (by omega)] at h1
      rw [hY.2.1 n hn 4 (by omega), c2, cnt_congr (fun k _ => c3 k)] at h3
      exact Or.inr ⟨h1, z, l1, l2, c1, h3⟩
  · have e9 := (nI_eq hn6 (by omega)).mp ek
    subst e9
    obtain ⟨c1, c2, c3⟩ := cv z l1 l2 hk hrt
    have cc : ∀ m, cnt (vicE eC Y (l1 ++ l2)) m = cnt (vicE eC X (l1 ++ l2)) m := fun m => cnt_congr (fun k _ => c3 k)
    rw [cc] at g hKb
    rw [c2] at hr
    refine Or.inr ⟨e, N, _, g, rfl, hk, by rw [← hY.2.1 n hk 5 (by omega)]; exact h5, z, l1, l2, c1, rfl, hKb, hr, hj, hc.trans (sumI_cg (fun k hk => hY.2.1 k hk 4 (by omega))), fun w h1 h2 => ?_⟩
    have := hw w h1 (by rw [c3]; exact h2)
    rw [cc] at this
    exact this
theorem rt_er {n b : Nat} {c : Int32} {f : Nat → List Nat → Int32} (hN : N ≤ 6) (hn : n < N) (hb : b < 2) (hc : (¬ X (169 + 9 * n + 5) = 0 ∧ c = -1000002) ∨ (X (169 + 9 * n + 5) = 0 ∧ rtX eC X N n (decide (b = 1)) = none ∧ c = -1000004)) (h : rtQ eC X N (nI n) (nI b) f r) : r = c := by
  rcases rt_at hN hn hb h with ⟨e, e2⟩ | ⟨e, ⟨e1, e2⟩ | ⟨z', a, d, e1, e2⟩⟩
  · rcases hc with ⟨-, q⟩ | ⟨q, -⟩
    · rw [e2, q]
    · exact absurd q e
  · rcases hc with ⟨q, -⟩ | ⟨-, -, q⟩
    · exact absurd e q
    · rw [e2, q]
  · rcases hc with ⟨q, -⟩ | ⟨-, q, -⟩
    · exact absurd e q
    · rw [q] at e1; cases e1
theorem vic_bit {L : List Nat} {j : Nat} (hN : N ≤ 6) (hj : j < N) : bit1 (nI (bset (vicE eC X L) N)) j ↔ vicE eC X L j = true := by
  rw [bit1_nI (bset_64 _ hN) (by omega), bset_bit, decide_eq_true hj, Bool.true_and]
/-- payments -/
theorem pay_lo {due u : Int32} (h : due < 0) : payI due u = 0 := if_pos (Int32.le_of_lt h)
theorem pay_mid {due u : Int32} (h : ¬ due < 0) (h2 : due < u) : payI due u = due := by
  unfold payI
  by_cases e : due ≤ 0
  · rw [if_pos e]
    exact (Int32.le_antisymm e (Int32.not_lt.mp h)).symm
  · rw [if_neg e, if_pos h2]
theorem pay_hi {due u : Int32} (hu : ¬ u < 0) (h : ¬ due < 0) (h2 : ¬ due < u) : payI due u = u := by
  unfold payI
  by_cases e : due ≤ 0
  · rw [if_pos e]
    have e2 := Int32.le_antisymm e (Int32.not_lt.mp h)
    subst e2
    exact (Int32.le_antisymm (Int32.not_lt.mp h2) (Int32.not_lt.mp hu)).symm
  · rw [if_neg e, if_neg h2]
/-- the best order -/
theorem bst_le {f : Nat → Int32} {m : Int32} (hm : -1 ≤ m) : ∀ n, (∀ q, q < n → f q ≤ m) → (bst f n).1 ≤ m
  | 0, _ => hm
  | n + 1, h => by
    show (if f n ≤ (bst f n).1 then bst f n else (f n, n)).1 ≤ m
    split
    · exact bst_le hm n (fun q hq => h q (by omega))
    · exact h n (by omega)
theorem bst_0 {f : Nat → Int32} : ∀ n, (∀ q, q < n + 1 → f q = nI 0) → (bst f (n + 1)).1 = nI 0
  | 0, h => by
    show (if f 0 ≤ (bst f 0).1 then bst f 0 else (f 0, 0)).1 = nI 0
    rw [if_neg (by rw [h 0 (by omega), show (bst f 0).1 = -1 from rfl]; decide)]
    exact h 0 (by omega)
  | n + 1, h => by
    show (if f (n + 1) ≤ (bst f (n + 1)).1 then bst f (n + 1) else (f (n + 1), n + 1)).1 = nI 0
    have ih := bst_0 n (fun q hq => h q (by omega))
    rw [if_pos (by rw [h (n + 1) (by omega), ih]; exact Int32.le_refl _)]
    exact ih
theorem wl_j : ∀ n, (wlN X n).length + joinedN X n ≤ n
  | 0 => Nat.le_refl 0
  | n + 1 => by
    have ih := wl_j n
    have hj : joinedN X (n + 1) = joinedN X n + jN X n := joined_s.symm
    unfold wlN
    split
    · rename_i h
      have : jN X n = 0 := if_pos h.1
      rw [List.length_append]
      show (wlN X n).length + 1 + _ ≤ _
      omega
    · have : jN X n ≤ 1 := by unfold jN; split <;> omega
      omega
theorem jrq_le {L : List Nat} {row : Nat} (hL : L.length ≤ 3) (h : JRQ X N K L row r) : r ≤ nI L.length := by
  rcases h with ⟨-, e⟩ | ⟨-, c, Y, X', -, h, e⟩
  · rw [e]
    exact Int32.le_trans (show (-1 : Int32) ≤ 0 by decide) (nI_pos' (by omega))
  · have := LayT_le h
    rw [e]
    exact nI_le this (by omega)
theorem bo_m1 (h : BOQ X N K (-1) r) : r ≤ nI (wlN X N).length ∧ (N = 0 → r = nI 0) := by
  have hL : (wlN X N).length ≤ 3 := wlN_3
  rcases h with ⟨e, -⟩ | ⟨-, f, hf, ⟨-, e⟩ | ⟨e, -⟩⟩
  · exact absurd e (by decide)
  · rw [e]
    refine ⟨bst_le (Int32.le_trans (show (-1 : Int32) ≤ 0 by decide) (nI_pos' (by omega))) 6 (fun q hq => jrq_le hL (hf q hq)), fun hN => bst_0 5 (fun q hq => ?_)⟩
    subst hN
    rcases hf q hq with ⟨⟨i, hi, -⟩, -⟩ | ⟨-, c, Y, X', -, h, e⟩
    · exact absurd hi (Nat.not_lt_zero i)
    · have h : c = 0 ∧ _ := h
      rw [e, h.1]
  · exact absurd rfl e
theorem flt_0 {tx : Nat → Nat} {Y : Nat → Int32} (h : FltQ bC finC eC tx 0 Y N K (nI 0) r) : r = -1000004 := by
  rcases h with ⟨e, -⟩ | ⟨b, hb, e, i, p, rr, X', ⟨X1, K1, -, h⟩, h2⟩
  · exact absurd ⟨0, by decide, rfl⟩ e
  · rcases h with ⟨-, e1, -⟩ | ⟨e1, -⟩ | ⟨e1, -⟩
    · rcases h2 with ⟨-, e2⟩ | ⟨e2, -⟩ | ⟨e2, -⟩
      · exact e2
      · exact absurd (e1.trans nI_0) e2
      · exact absurd (e1.trans nI_0) e2
    · exact absurd e1 (Nat.not_lt_zero p)
    · exact absurd e1 (Nat.not_lt_zero p)
end STEPS
