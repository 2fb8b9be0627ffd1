section ACTS2
variable {X X' : Nat → Int32} {N K B A : Nat} {r : Int32}
theorem net_out {p0 p1 p2 t u : Int32} (h : netQ eC X N p0 p1 p2 t u r X') : ErrP r ∨ (N < 6 ∧ r = nI N ∧ netGood p0 p1 p2 t u ∧ ∃ j0 j1 o2, j0 < 81 ∧ j1 < 81 ∧ (∀ j, o2 = some j → j < 81) ∧ (∀ a, a < 81 → (a = j0 ∨ a = j1 ∨ o2 = some a) → X (7 + a) = -1 ∧ X (7 + (a + 81)) = -1) ∧ NetP eC X N j0 j1 o2 t u X') := by
  rcases h with ⟨-, e, -⟩ | ⟨hg, ⟨-, e, -⟩ | ⟨⟨f0, f1, f2⟩, ⟨-, e, -⟩ | ⟨hN6, hr, j0, j1, h0, h1, rfl, rfl, hx⟩⟩⟩
  · exact Or.inl (Or.inl e)
  · exact Or.inl (Or.inr (Or.inl e))
  · exact Or.inl (Or.inr (Or.inr e))
  right
  have fp : ∀ j, j < 81 → FPe eC X (nI j) → X (7 + j) = -1 ∧ X (7 + (j + 81)) = -1 := fun j hj ⟨q, hq, e, e1, e2⟩ => by
    have := (nI_eq (by omega) (by omega)).mp e
    subst this
    exact ⟨e1, e2⟩
  have g0 := fp j0 h0 f0
  have g1 := fp j1 h1 f1
  rcases hx with ⟨rfl, rfl⟩ | ⟨j2, h2, rfl, rfl⟩
  · refine ⟨hN6, hr, hg, j0, j1, none, h0, h1, (fun j e => by cases e), fun a ha q => ?_, NetP_0 hN6 h0 h1⟩
    rcases q with rfl | rfl | q
    · exact g0
    · exact g1
    · cases q
  · refine ⟨hN6, hr, hg, j0, j1, some j2, h0, h1, (fun j e => by cases e; exact h2), fun a ha q => ?_, NetP_2 hN6 h0 h1 h2⟩
    rcases q with rfl | rfl | q
    · exact g0
    · exact g1
    · cases q
      exact fp j2 h2 (f2.resolve_left (fun e => m1_ne (by omega) e.symm))
theorem GI_net {p0 p1 p2 t u : Int32} (h : GI X N K B A) (hA : A + 1 < 2 ^ 30) (hB : B + 9999 < 2 ^ 31) (hq : netQ eC X N p0 p1 p2 t u r X') : ErrP r ∨ (OkP r ∧ GI X' (N + 1) K (B + 9999) (A + 1) ∧ r = nI N ∧ X' (169 + 9 * N + 4) = u ∧ jN X' N = 0) := by
  have h0 := h
  obtain ⟨⟨hI, hz⟩, hnw, hcl, hcm, h23⟩ := h
  have hN := hI.1.2.1
  have hO := hI.2.1
  obtain ⟨ac, eac, hac, hA30, -⟩ := hcl
  rcases net_out hq with e | ⟨hN6, hr, ⟨-, -, -, -, -, -, s0, s9, u0, u9⟩, j0, j1, o2, h1, h2, ho2, hf, hP⟩
  · exact Or.inl e
  right
  obtain ⟨n5, no, ⟨-, -, -, -, v4, v5, -⟩, hT, hF⟩ := id hP
  have lo : ∀ j, (j < 7 ∧ j ≠ 5) ∨ (169 ≤ j ∧ j < 169 + 9 * N) ∨ 169 + 9 * N + 9 ≤ j → X' j = X j := no
  have ow : ∀ a, a < 162 → X' (7 + a) = nI (10 + N) ∨ X' (7 + a) = X (7 + a) := fun a ha => by
    by_cases h81 : a < 81
    · by_cases q : a = j0 ∨ a = j1 ∨ o2 = some a
      · exact Or.inl (hT a h81 q).1
      · exact Or.inr (hF a h81 q).1
    · obtain ⟨b, rfl⟩ : ∃ b, a = b + 81 := ⟨a - 81, by omega⟩
      by_cases q : b = j0 ∨ b = j1 ∨ o2 = some b
      · exact Or.inl (hT b (by omega) q).2
      · exact Or.inr (hF b (by omega) q).2
  have hInv := Inv_net eC_g hI hB hN6 h1 h2 ho2 (nI_of2 (M := nI 9) (n := 9) (by decide) s0 s9) (nI_of2 (M := nI 9999) (n := 9999) (by decide) u0 u9) hf hP
  refine ⟨⟨N, by omega, hr⟩, GI.mono (A := A) (B := B + 9999) ⟨⟨hInv, ZbX_cg (fun a ha => lo _ (by omega)) hz⟩, fun k hk e a ha q => ?_, CL_keep h0.2.2.1 ((lo 4 (by omega)).trans eac) (same4 (Nat.le_refl _) eac (by omega)) hA30 (Nat.le_succ N) (fun i hi => ⟨lo _ (by omega), lo _ (by omega), lo _ (by omega), lo _ (by omega)⟩), CM_keep hcm (fun i hi => lo _ (by omega)), by rw [lo 2 (by omega)]; exact h23.1, by rw [lo 3 (by omega)]; exact h23.2⟩ (Nat.le_refl _) hB (by omega) hA, hr, v4, if_pos (v5.trans nI_0)⟩
  rcases ow a ha with o | o
  · rw [o] at q
    have := (nI_eq (by omega) (by omega)).mp q
    omega
  · rw [o] at q
    by_cases e9 : k = N
    · subst e9
      rcases own_k hO ha with o2 | ⟨k2, h3, h4, o2⟩
      · rw [o2] at q
        exact m1_ne (by omega) q
      · rw [o2] at q
        have := (nI_eq (by omega) (by omega)).mp q
        omega
    · rw [lo _ (by omega)] at e
      exact hnw k (by omega) e a ha q
theorem GI_hear (h : GI X N K B A) (hA : A + 1 < 2 ^ 30) (hB : B + 9999 < 2 ^ 31) (hq : hearQ bC eC X N K r X') : (ErrP r ∧ hd1 X K (nI 0) = none) ∨ (OkP r ∧ GI X' N K (B + 9999) (A + 1) ∧ ∃ i hh d, hd1 X K (nI 0) = some i ∧ i < K ∧ X (223 + 13 * i) = nI hh ∧ X (223 + 13 * i + 1) = nI d ∧ hh < N ∧ d < N ∧ hh ≠ d ∧ r = payI (dueI X i) (X (169 + 9 * d + 4)) ∧ X' (223 + 13 * i + 5) = nI 2 ∧ (¬ r < dueI X i ∨ jN X' d = 0) ∧ coins X' N = coins X N) := by
  have h0 := h
  obtain ⟨⟨hI, hz⟩, hnw, hcl, hcm, h23⟩ := h
  have hN := hI.1.2.1
  have hK := hI.1.2.2.2.1
  obtain ⟨ac, eac, hac, hA30, hrow⟩ := hcl
  rcases id hq with ⟨e1, e, -⟩ | ⟨i, hh, d, e1, hi, ei, ed, hhN, hdN, hr, hX⟩
  · exact Or.inl ⟨Or.inr (Or.inl e), e1⟩
  right
  have hne : hh ≠ d := by
    obtain ⟨p, d2, c, q, a0, a1, a2, a3, a4, -⟩ := hrow i hi
    rw [ei] at a0
    rw [ed] at a1
    have := (nI_eq (by omega) (by omega)).mp a0
    have := (nI_eq (by omega) (by omega)).mp a1
    omega
  have hInv := Inv_hear eC_g hI hq
  -- the payment
  obtain ⟨Y1, hY1⟩ : ∃ Y, Y = hearY X i hh d r := ⟨_, rfl⟩
  have y1 : ∀ j, j ≠ 223 + 13 * i + 4 → j ≠ 223 + 13 * i + 5 → (∀ q, (q = hh ∨ q = d) → j ≠ 169 + 9 * q + 4 ∧ j ≠ 169 + 9 * q + 7 ∧ j ≠ 169 + 9 * q + 8) → Y1 j = X j := fun j g1 g2 g3 => by rw [hY1]; exact hearY_o g1 g2 g3
  have y1s : ∀ j, j < 169 ∨ 400 ≤ j → Y1 j = X j := fun j hj => y1 j (by omega) (by omega) (fun q hq => by rcases hq with rfl | rfl <;> omega)
  have y1f : ∀ k, k < 6 → Y1 (169 + 9 * k + 5) = X (169 + 9 * k + 5) := fun k hk => y1 _ (by omega) (by omega) (fun q hq => by rcases hq with rfl | rfl <;> omega)
  have y1c : ∀ j, j < K → ∀ t, t < 7 → t ≠ 4 → t ≠ 5 → Y1 (223 + 13 * j + t) = X (223 + 13 * j + t) := fun j hj t ht t4 t5 => y1 _ (by omega) (by omega) (fun q hq => by rcases hq with rfl | rfl <;> omega)
  have y15 : Y1 (223 + 13 * i + 5) = nI 2 := by rw [hY1]; exact pk_us
  have y1p : coins Y1 N = coins X N := by
    show sumI (fun k => Y1 (169 + 9 * k + 4)) N = sumI (fun k => X (169 + 9 * k + 4)) N
    rw [sumI_cg (g := fun j => (if j = d then X (169 + 9 * j + 4) - r else X (169 + 9 * j + 4)) + (if j = hh then r else nI 0)) (fun j hj => by rw [hY1]; exact hearY_p (by omega) (by omega) (by omega))]
    exact sum_move (f := fun k => X (169 + 9 * k + 4)) (e := fun j => if j = hh then r else nI 0) hdN (by rw [sumI_one, if_pos hhN])
  have hOk : OkP r := by
    obtain ⟨pu, g4, g5⟩ := hI.2.2.2.2.1
    have h9 := le_sumN (f := pu) hdN
    have hBB := hI.2.2.2.2.2
    obtain ⟨p, hp, e⟩ := payI_p (due := dueI X i) (u := pu d) (by omega)
    exact ⟨p, by omega, by rw [hr, g4 d hdN, e]⟩
  -- whatever happens to the wires
  have fin : ∀ Z : Nat → Int32, (∀ j, (j < 7 ∨ 169 ≤ j) → (∀ k, k < N → j ≠ 169 + 9 * k + 5) → Z j = Y1 j) → (∀ k, k < N → Z (169 + 9 * k + 5) = nI 0 → ∀ a, a < 162 → Z (7 + a) ≠ nI k) → (¬ r < dueI X i ∨ Z (169 + 9 * d + 5) = nI 0) → X' = upd Z 4 (X 4 + nI 1) → GI X' N K (B + 9999) (A + 1) ∧ X' (223 + 13 * i + 5) = nI 2 ∧ (¬ r < dueI X i ∨ jN X' d = 0) ∧ coins X' N = coins X N := fun Z z1 z2 z3 z4 => by
    have zz : ∀ j, j ≠ 4 → X' j = Z j := fun j hj => by rw [z4]; exact pk_un hj
    have zc : ∀ j, j < K → ∀ t, t < 7 → Z (223 + 13 * j + t) = Y1 (223 + 13 * j + t) := fun j hj t ht => z1 _ (by omega) (fun k hk => by omega)
    have e4 : X' 4 = nI (ac + 1) := by rw [z4, pk_us, eac, nI_add]
    have cc : ∀ j, j < K → ∀ t, t < 7 → t ≠ 4 → t ≠ 5 → X' (223 + 13 * j + t) = X (223 + 13 * j + t) := fun j hj t ht t4 t5 => by rw [zz _ (by omega), zc j hj t ht, y1c j hj t ht t4 t5]
    refine ⟨GI.mono (A := A + 1) (B := B) ⟨⟨hInv, ZbX_cg (fun a ha => by rw [zz _ (by omega), z1 _ (by omega) (fun k hk => by omega), y1s _ (by omega)]) hz⟩, fun k hk e a ha q => ?_, CL_keep h0.2.2.1 e4 (plus4 eac (by omega)) hA (Nat.le_refl N) (fun j hj => ⟨cc j hj 0 (by omega) (by omega) (by omega), cc j hj 1 (by omega) (by omega) (by omega), cc j hj 2 (by omega) (by omega) (by omega), cc j hj 6 (by omega) (by omega) (by omega)⟩), CM_keep hcm (fun j hj => cc j hj 6 (by omega) (by omega) (by omega)), ?_, ?_⟩ (by omega) hB (Nat.le_refl _) hA, ?_, z3.imp id (fun q => if_pos (by rw [zz _ (by omega), q, nI_0])), ?_⟩
    · rw [zz _ (by omega)] at e q
      exact z2 k hk e a ha q
    · rw [zz 2 (by omega), z1 2 (by omega) (fun k hk => by omega), y1s 2 (by omega)]; exact h23.1
    · rw [zz 3 (by omega), z1 3 (by omega) (fun k hk => by omega), y1s 3 (by omega)]; exact h23.2
    · rw [zz _ (by omega), zc i hi 5 (by omega), y15]
    · refine (sumI_cg (fun k hk => ?_)).trans y1p
      show X' (169 + 9 * k + 4) = Y1 (169 + 9 * k + 4)
      rw [zz _ (by omega), z1 _ (by omega) (fun k2 hk2 => by omega)]
  have y2n : ∀ k, k < N → Y1 (169 + 9 * k + 5) = nI 0 → ∀ a, a < 162 → Y1 (7 + a) ≠ nI k := fun k hk e a ha => by
    rw [y1f k (by omega)] at e
    rw [y1s (7 + a) (by omega)]
    exact hnw k hk e a ha
  have y3n : ∀ k, k < N → loseE eC Y1 d (169 + 9 * k + 5) = nI 0 → ∀ a, a < 162 → loseE eC Y1 d (7 + a) ≠ nI k := fun k hk e a ha q => by
    rw [loseE_o (by omega) ha] at q
    by_cases e6 : Y1 (7 + a) = eC.2.1 d
    · rw [if_pos e6] at q
      exact m1_ne (by omega) q
    · rw [if_neg e6] at q
      by_cases e7 : k = d
      · subst e7; exact e6 q
      · rw [loseE_n (by omega) (by omega)] at e
        exact y2n k hk e a ha q
  have out : ∀ g : GI X' N K (B + 9999) (A + 1) ∧ X' (223 + 13 * i + 5) = nI 2 ∧ (¬ r < dueI X i ∨ jN X' d = 0) ∧ coins X' N = coins X N, OkP r ∧ GI X' N K (B + 9999) (A + 1) ∧ ∃ i hh d, hd1 X K (nI 0) = some i ∧ i < K ∧ X (223 + 13 * i) = nI hh ∧ X (223 + 13 * i + 1) = nI d ∧ hh < N ∧ d < N ∧ hh ≠ d ∧ r = payI (dueI X i) (X (169 + 9 * d + 4)) ∧ X' (223 + 13 * i + 5) = nI 2 ∧ (¬ r < dueI X i ∨ jN X' d = 0) ∧ coins X' N = coins X N := fun g => ⟨hOk, g.1, i, hh, d, e1, hi, ei, ed, hhN, hdN, hne, hr, g.2.1, g.2.2.1, g.2.2.2⟩
  rw [← hY1] at hX
  rcases hX with ⟨hle, e⟩ | ⟨-, ⟨-, e⟩ | ⟨hcb, e⟩⟩
  · exact out (fin Y1 (fun _ _ _ => rfl) y2n (Or.inl hle) e)
  · exact out (fin (loseE eC Y1 d) (fun j g1 g2 => loseE_n g1 (g2 d hdN)) y3n (Or.inr (loseE_5 _ _ _)) e)
  · refine out (fin (backG bC eC (loseE eC Y1 d) i hh) (fun j g1 g2 => by rw [backG_n g1 (g2 hh hhN), loseE_n g1 (g2 d hdN)]) (fun k hk e5 a ha q => ?_) (Or.inr (by rw [backG_n (by omega) (by omega)]; exact loseE_5 _ _ _)) e)
    by_cases e7 : k = hh
    · subst e7
      rw [backG_5] at e5
      exact absurd e5 (by decide)
    · rw [backG_n (by omega) (by omega)] at e5
      rw [backG_o (by omega) ha] at q
      by_cases e6 : bC (loseE eC Y1 d) i a = true
      · rw [if_pos e6] at q
        exact e7 ((nI_eq (by omega) (by omega)).mp q).symm
      · rw [if_neg e6] at q
        exact y3n k hk e5 a ha q
theorem vic_k (hnw : ∀ a, a < 162 → X (7 + a) ≠ nI K) {L : List Nat} (hL : ∀ a, a ∈ L → a < 162) : ¬ vicE eC X L K = true := fun e => by
  unfold vicE at e
  obtain ⟨a, ha, e⟩ := of_decide_eq_true e
  exact hnw a (hL a ha) e
theorem GI_dig {n : Int32} (h : GI X N K B A) (hA : A + 1 < 2 ^ 30) (hB : B + 9999 < 2 ^ 31) (hq : digQ finC eC X N K n r X') :
    (ErrP r ∧ ∀ k, k < N → n = nI k → (¬ X (169 + 9 * k + 5) = 0 ∨ rtX eC X N k true = none) ∨ (X (169 + 9 * k + 5) = 0 ∧ ∃ z l1 l2, rtX eC X N k true = some (z, l1, l2) ∧ (X (169 + 9 * k + 4) < nI (priE eC X N (l1 ++ l2)) ∨ 12 < K + cnt (vicE eC X (l1 ++ l2)) N))) ∨
    (OkP r ∧ ∃ k z l1 l2, GI X' N (K + cnt (vicE eC X (l1 ++ l2)) N) (B + 9999) (A + 1) ∧ K + cnt (vicE eC X (l1 ++ l2)) N ≤ 12 ∧ k < N ∧ n = nI k ∧ X (169 + 9 * k + 5) = 0 ∧ rtX eC X N k true = some (z, l1, l2) ∧ r = nI (priE eC X N (l1 ++ l2)) ∧ jN X' k = 1 ∧ coins X' N = coins X N ∧
      ∀ w, w < N → vicE eC X (l1 ++ l2) w = true → jN X' w = 0 ∧ X' (223 + 13 * (K + cnt (vicE eC X (l1 ++ l2)) w)) = nI w ∧ X' (223 + 13 * (K + cnt (vicE eC X (l1 ++ l2)) w) + 1) = nI k ∧ X' (223 + 13 * (K + cnt (vicE eC X (l1 ++ l2)) w) + 5) = nI 0) := by
  have h0 := h
  obtain ⟨⟨hI, hz⟩, hnw, hcl, hcm, h23⟩ := h
  have hN := hI.1.2.1
  have hK := hI.1.2.2.2.1
  obtain ⟨ac, eac, hac, hA30, hrow⟩ := hcl
  rcases hq with ⟨e9, e, -⟩ | ⟨k, hk, rfl, ⟨e9, e, -⟩ | ⟨hj, z, l1, l2, hrt, ⟨e9, e, -⟩ | ⟨hpay, ⟨e9, e, -⟩ | ⟨hKb, hr, hX⟩⟩⟩⟩
  · exact Or.inl ⟨Or.inl e, fun k hk e => absurd ⟨k, hk, e⟩ e9⟩
  · exact Or.inl ⟨Or.inr (Or.inl e), fun k2 hk2 e2 => by
      have := (nI_eq (by omega) (by omega)).mp e2
      subst this
      exact Or.inl e9⟩
  · exact Or.inl ⟨Or.inr (Or.inl e), fun k2 hk2 e2 => by
      have := (nI_eq (by omega) (by omega)).mp e2
      subst this
      exact Or.inr ⟨hj, z, l1, l2, hrt, Or.inl e9⟩⟩
  · exact Or.inl ⟨Or.inr (Or.inr e), fun k2 hk2 e2 => by
      have := (nI_eq (by omega) (by omega)).mp e2
      subst this
      exact Or.inr ⟨hj, z, l1, l2, hrt, Or.inr e9⟩⟩
  right
  have hk6 : k < 6 := by omega
  have hok := rtX_ok hI.1 hk hrt
  have hL : ∀ a, a ∈ l1 ++ l2 → a < 162 := fun a ha => (hok.2.2.2.2 a ha).1
  have hnk : ∀ a, a < 162 → X (7 + a) ≠ nI k := hnw k hk (hj.trans nI_0.symm)
  have hvk : ¬ vicE eC X (l1 ++ l2) k = true := vic_k hnk hL
  obtain ⟨hF, hZ⟩ := finC_F hN hk hI.1.2.2.1 hKb hz
  rw [← hX] at hF hZ
  have hInv := Inv_dgF eC_g hI hk hpay hKb hF
  obtain ⟨Y, ⟨d0, d4, d6, dO, dN, dC, dW, -, -⟩, rfl⟩ := hF
  generalize hLL : l1 ++ l2 = L at *
  have tk : ∀ j, j < 7 ∨ 169 ≤ j → j ≠ 169 + 9 * k + 5 → takeE eC Y k L j = Y j := fun j h1 h2 => takeE_n h1 h2
  have e4 : takeE eC Y k L 4 = nI (ac + 1) := by rw [tk 4 (by omega) (by omega), d4, eac, nI_add]
  have hpri : priE eC X N L < 2 ^ 31 := pri_lt hI.1
  -- the new rows
  have hnew : ∀ i, K ≤ i → i < K + cnt (vicE eC X L) N → ∃ w, w < N ∧ vicE eC X L w = true ∧ i = K + cnt (vicE eC X L) w := fun i h1 h2 => by
    obtain ⟨w, g1, g2, g3⟩ := cnt_hit (p := vicE eC X L) (j := i - K) (n := N) (by omega)
    exact ⟨w, g1, g2, by omega⟩
  have hwl : ∀ w, w < N → vicE eC X L w = true → K + cnt (vicE eC X L) w < K + cnt (vicE eC X L) N := fun w h1 h2 => by
    have := cnt_lt2 (p := vicE eC X L) h1 h2
    omega
  have row6 : ∀ i, i < K + cnt (vicE eC X L) N → ∃ q, q ≤ ac + 1 ∧ takeE eC Y k L (223 + 13 * i + 6) = nI q ∧ (K ≤ i → q = ac + 1) := fun i hi => by
    rw [tk _ (by omega) (by omega)]
    by_cases c : i < K
    · obtain ⟨p, d, cc, q, -, -, -, -, -, -, -, -, a8, a9⟩ := hrow i c
      exact ⟨q, by omega, by rw [dC i c 6 (by omega), a8], fun q => by omega⟩
    · obtain ⟨w, g1, g2, rfl⟩ := hnew i (by omega) hi
      exact ⟨ac + 1, Nat.le_refl _, by rw [(dW w g1 g1 g2).2.2.2.2.2.2, eac, nI_add], fun _ => rfl⟩
  refine ⟨⟨_, hpri, hr⟩, k, z, l1, l2, ?_⟩
  rw [hLL]
  refine ⟨GI.mono (A := A + 1) (B := B) ⟨⟨hInv, hZ⟩, fun k2 hk2 e a ha q => ?_, ⟨ac + 1, e4, by omega, hA, fun i hi => ?_⟩, fun i hi => ?_, ?_, ?_⟩ (by omega) hB (Nat.le_refl _) hA, hKb, hk, rfl, hj, hrt, hr, if_neg (by rw [takeE_5]; decide), ?_, fun w hw hv => ?_⟩
  · by_cases e7 : k2 = k
    · subst e7
      rw [takeE_5] at e
      exact absurd e (by decide)
    · rw [tk _ (by omega) (by omega)] at e
      rw [takeE_o hk6 ha] at q
      by_cases e6 : a ∈ L ∧ Y (7 + a) = eC.1
      · rw [if_pos e6] at q
        exact e7 ((nI_eq (by omega) (by omega)).mp q).symm
      · rw [if_neg e6, dO a ha] at q
        unfold lzE at q
        by_cases e5 : ∃ w, w < N ∧ w < N ∧ X (7 + a) = eC.2.1 w ∧ vicE eC X L w = true
        · rw [if_pos e5] at q
          exact m1_ne (by omega) q
        · rw [if_neg e5] at q
          have hnv : ¬ vicE eC X L k2 = true := fun z => e5 ⟨k2, hk2, hk2, q, z⟩
          rw [(dN k2 hk2).2.2.1, if_neg (fun z => hnv z.2)] at e
          exact hnw k2 hk2 e a ha q
  · by_cases c : i < K
    · obtain ⟨p, d, cc, q, a0, a1, a2, a3, a5, a6, a7, a8, a9, b1⟩ := hrow i c
      refine ⟨p, d, cc, q, ?_, ?_, a2, a3, a5, ?_, a7, a8, ?_, by omega⟩
      · rw [tk _ (by omega) (by omega)]; exact (dC i c 0 (by omega)).trans a0
      · rw [tk _ (by omega) (by omega)]; exact (dC i c 1 (by omega)).trans a1
      · rw [tk _ (by omega) (by omega)]; exact (dC i c 2 (by omega)).trans a6
      · rw [tk _ (by omega) (by omega)]; exact (dC i c 6 (by omega)).trans a9
    · obtain ⟨w, g1, g2, rfl⟩ := hnew i (by omega) hi
      have hd := dW w g1 g1 g2
      have hwk : w ≠ k := fun e => hvk (e ▸ g2)
      have hpos : 0 < wir X (eC.2.1 w) := by
        have := of_decide_eq_true (show decide (∃ a, a ∈ L ∧ X (7 + a) = eC.2.1 w) = true from g2)
        obtain ⟨a, ha, e⟩ := this
        exact cnt_pos (hL a ha) (decide_eq_true e)
      exact ⟨w, k, wir X (eC.2.1 w), ac + 1, by rw [tk _ (by omega) (by omega)]; exact hd.1, by rw [tk _ (by omega) (by omega)]; exact hd.2.1, g1, hk, hwk, by rw [tk _ (by omega) (by omega)]; exact hd.2.2.1, hpos, cnt_le _ _, by rw [tk _ (by omega) (by omega), hd.2.2.2.2.2.2, eac, nI_add], Nat.le_refl _⟩
  · obtain ⟨q1, b1, f1, g1⟩ := row6 i (by omega)
    obtain ⟨q2, b2, f2, g2⟩ := row6 (i + 1) hi
    by_cases c : i + 1 < K
    · rw [tk _ (by omega) (by omega), tk _ (by omega) (by omega), dC i (by omega) 6 (by omega), dC (i + 1) c 6 (by omega)]
      exact hcm i c
    · rw [f1, f2, g2 (by omega)]
      exact nI_le b1 (by omega)
  · rw [tk 2 (by omega) (by omega), d0 2 (by omega)]; exact h23.1
  · rw [tk 3 (by omega) (by omega), d0 3 (by omega)]; exact h23.2
  · show sumI (fun j => takeE eC Y k L (169 + 9 * j + 4)) N = sumI (fun j => X (169 + 9 * j + 4)) N
    rw [sumI_cg (g := fun j => (if j = k then X (169 + 9 * j + 4) - nI (priE eC X N L) else X (169 + 9 * j + 4)) + nI (if j < N then dueE eC X L j else 0)) (fun j hj => by rw [tk _ (by omega) (by omega)]; exact (dN j hj).2.1)]
    refine sum_move (f := fun j => X (169 + 9 * j + 4)) (e := fun j => nI (if j < N then dueE eC X L j else 0)) hk ?_
    rw [sumI_N]
    congr 1
    exact sumN_cg (fun j hj => if_pos hj)
  · have hd := dW w hw hw hv
    have hwk : w ≠ k := fun e => hvk (e ▸ hv)
    have := hwl w hw hv
    refine ⟨if_pos ?_, by rw [tk _ (by omega) (by omega)]; exact hd.1, by rw [tk _ (by omega) (by omega)]; exact hd.2.1, by rw [tk _ (by omega) (by omega)]; exact hd.2.2.2.2.2.1⟩
    rw [tk _ (by omega) (by omega), (dN w hw).2.2.1, if_pos ⟨hw, hv⟩, nI_0]
end ACTS2
