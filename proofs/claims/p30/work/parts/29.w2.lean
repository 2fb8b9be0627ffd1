theorem Nbr_cg {M M' : Nat → Nat → Int32} (h : M' 150 = M 150) (hN : Nbr M) : Nbr M' := fun a k ha hk => by rw [h]; exact hN a k ha hk
/-- the answer of a change to the trial, kept or not -/
theorem kp_mk {P P' : Nat → Nat} {M M1 M2 M3 : Nat → Nat → Int32} {s : Nat} {r a : Int32} (hP : StP P) (h1 : ∀ k, k ≠ P 1 → M1 k = M k) (h2 : FrC (P 1) M1 M2) (hs : M 144 6 = nI s) (hk : r = a ∧ ((a < 0 ∧ P' = P ∧ M3 = M2) ∨ (¬ a < 0 ∧ P' = rotP P ∧ M3 = st2 M2 144 6 (nI (min (s + 1) 4))))) : FrK P M M3 ∧ KpQ s M P r M3 P' ∧ M3 (P 1) = M2 (P 1) ∧ r = a ∧ ∀ j, j ≠ 6 → M3 144 j = M 144 j := by
  have hp1 := hP.1 1 (by decide)
  have e144 : M2 144 = M 144 := (h2 144 (by omega) (by omega)).trans (h1 144 (by omega))
  obtain ⟨rfl, ⟨g1, g2, rfl⟩ | ⟨g1, g2, rfl⟩⟩ := hk
  · exact ⟨fun k a1 a2 a3 a4 => (h2 k a1 a4).trans (h1 k a1), Or.inl ⟨g1, g2, by rw [e144]; exact hs⟩, rfl, rfl, fun j hj => by rw [e144]⟩
  · exact ⟨fun k a1 a2 a3 a4 => (st2_n _ _ _ a2).trans ((h2 k a1 a4).trans (h1 k a1)), Or.inr ⟨g1, g2, by rw [st2_k, pk_us]⟩, st2_n _ _ _ (by omega), rfl, fun j hj => by rw [st2_k, pk_un hj, e144]⟩
theorem FrC_up {M M' : Nat → Nat → Int32} {c : Nat} {Y : Nat → Int32} (h : M' = va_up M c Y) : FrC c M M' := by rw [h]; exact FrC_v
def fndQ (M : Nat → Nat → Int32) (X : Nat → Int32) (N : Nat) (n d r : Int32) (M' : Nat → Nat → Int32) : Prop := (¬ (InR N n ∧ InR 2 d) ∧ r = -1000001) ∨ ∃ k b, k < N ∧ b < 2 ∧ n = nI k ∧ d = nI b ∧ ((¬ X (169 + 9 * k + 5) = 0 ∧ r = -1000002) ∨ (X (169 + 9 * k + 5) = 0 ∧ ((rtX eC X N k (decide (b = 1)) = none ∧ r = -1000004) ∨ ∃ z l1 l2, rtX eC X N k (decide (b = 1)) = some (z, l1, l2) ∧ rtOK (twX eC X N k (decide (b = 1))) l1 l2 ∧ r = nI 0 ∧ RtM M' (l1 ++ l2) (accR X N (twX eC X N k (decide (b = 1))) l1 l2) ∧ M' 149 12 = nI z)))
/-- an answer about a route: f of its cost and its cells -/
def rtQ (e : Enc) (X : Nat → Int32) (N : Nat) (n d : Int32) (f : Nat → List Nat → Int32) (r : Int32) : Prop := (¬ (InR N n ∧ InR 2 d) ∧ r = -1000001) ∨ ∃ k b, k < N ∧ b < 2 ∧ n = nI k ∧ d = nI b ∧ ((¬ X (169 + 9 * k + 5) = 0 ∧ r = -1000002) ∨ (X (169 + 9 * k + 5) = 0 ∧ ((rtX e X N k (decide (b = 1)) = none ∧ r = -1000004) ∨ ∃ z l1 l2, rtX e X N k (decide (b = 1)) = some (z, l1, l2) ∧ r = f z (l1 ++ l2))))
def atL (L : List Nat) (i : Nat) : Int32 := if i < L.length then nI (L.getD i 0) else -1000004
theorem fnd_rt {M M' : Nat → Nat → Int32} {X : Nat → Int32} {N : Nat} {n d a r : Int32} {f : Nat → List Nat → Int32} (h : fndQ M X N n d a M') (h1 : a < 0 → r = a) (h2 : ∀ k b z l1 l2, k < N → b < 2 → d = nI b → a = nI 0 → rtOK (twX eC X N k (decide (b = 1))) l1 l2 → RtM M' (l1 ++ l2) (accR X N (twX eC X N k (decide (b = 1))) l1 l2) → M' 149 12 = nI z → r = f z (l1 ++ l2)) : rtQ eC X N n d f r := by
  rcases h with ⟨q, rfl⟩ | ⟨k, b, hk, hb, rfl, rfl, ⟨q, rfl⟩ | ⟨q, ⟨q2, rfl⟩ | ⟨z, l1, l2, q2, q3, rfl, q4, q5⟩⟩⟩
  · exact Or.inl ⟨q, h1 (by decide)⟩
  · exact Or.inr ⟨k, b, hk, hb, rfl, rfl, Or.inl ⟨q, h1 (by decide)⟩⟩
  · exact Or.inr ⟨k, b, hk, hb, rfl, rfl, Or.inr ⟨q, Or.inl ⟨q2, h1 (by decide)⟩⟩⟩
  · exact Or.inr ⟨k, b, hk, hb, rfl, rfl, Or.inr ⟨q, Or.inr ⟨z, l1, l2, q2, h2 k b z l1 l2 hk hb rfl rfl q3 q4 q5⟩⟩⟩
theorem fnd_ok {M M' : Nat → Nat → Int32} {X : Nat → Int32} {N : Nat} {n d a : Int32} (h : fndQ M X N n d a M') (h1 : ¬ a < 0) : ∃ k b z l1 l2, k < N ∧ b < 2 ∧ d = nI b ∧ rtOK (twX eC X N k (decide (b = 1))) l1 l2 ∧ RtM M' (l1 ++ l2) (accR X N (twX eC X N k (decide (b = 1))) l1 l2) ∧ M' 149 12 = nI z := by
  rcases h with ⟨q, rfl⟩ | ⟨k, b, hk, hb, rfl, rfl, ⟨q, rfl⟩ | ⟨q, ⟨q2, rfl⟩ | ⟨z, l1, l2, q2, q3, rfl, q4, q5⟩⟩⟩
  · exact absurd (by decide) h1
  · exact absurd (by decide) h1
  · exact absurd (by decide) h1
  · exact ⟨k, b, z, l1, l2, hk, hb, rfl, q3, q4, q5⟩
theorem rt_uq {M' : Nat → Nat → Int32} {L1 L2 : List Nat} {a1 a2 : Acc} (h1 : RtM M' L1 a1) (h2 : RtM M' L2 a2) (l1 : L1.length ≤ 324) (l2 : L2.length ≤ 324) (b1 : ∀ a, a ∈ L1 → a < 162) (b2 : ∀ a, a ∈ L2 → a < 162) : L1 = L2 := by
  have e := h1.1.symm.trans h2.1
  have e := (nI_eq (by omega) (by omega)).mp e
  refine List.ext_getElem e (fun i g1 g2 => ?_)
  have q := (h1.2.1 i g1).symm.trans (h2.2.1 i g2)
  simp only [List.getD_eq_getElem?_getD, List.getElem?_eq_getElem g1, List.getElem?_eq_getElem g2, Option.getD_some] at q
  have m1 := b1 _ (List.getElem_mem g1)
  have m2 := b2 _ (List.getElem_mem g2)
  exact (nI_eq (by omega) (by omega)).mp q

set_option maxRecDepth 20000 in
theorem ggX5_set_X5_freshTrial : GoodIn wsX5_set wsX5_freshTrial := goodIn_r _ [5, 6, 7, 8, 9, 10, 11, 12, 13, 14, 15, 16, 17, 18, 19, 20, 21, 22, 23, 24, 25, 26, 27, 28, 29, 30, 31, 32, 33, 34, 35, 36, 37, 38, 39, 40, 41, 42, 43, 44, 45, 46, 47, 48, 49, 50, 66, 67, 68, 69, 70, 71, 72, 73, 74, 75, 76, 77, 78, 79, 80, 81, 82, 83, 84, 85, 86, 87, 88, 89, 90, 91, 92, 93, 94, 95, 96] (by decide +kernel) (by decide +kernel)
set_option maxRecDepth 20000 in
theorem gX5_set_X5_freshTrial : GoodIn wsX5_set (wsV RX5 45 RX5 yX5_freshTrial wsX5_freshTrial) := goodIn_app (goodIn_of _ (by decide +kernel)) ggX5_set_X5_freshTrial
set_option maxRecDepth 20000 in
theorem ggX5_set_X0_changeSetting : GoodIn wsX5_set wsX0_changeSetting := goodIn_r _ [54, 55, 13, 73, 74, 75, 76, 77, 78, 79, 80] (by decide +kernel) (by decide +kernel)
set_option maxRecDepth 20000 in
theorem gX5_set_X0_changeSetting : GoodIn wsX5_set (wsV RX5 49 RX0 yX0_changeSetting wsX0_changeSetting) := goodIn_app (goodIn_of _ (by decide +kernel)) ggX5_set_X0_changeSetting
set_option maxRecDepth 20000 in
theorem ggX5_set_X5_keepTrial : GoodIn wsX5_set wsX5_keepTrial := goodIn_r _ [59, 60, 7, 6, 61, 62, 63, 64, 65, 66, 67, 68, 69, 70, 71, 72] (by decide +kernel) (by decide +kernel)
set_option maxRecDepth 20000 in
theorem gX5_set_X5_keepTrial : GoodIn wsX5_set (wsV RX5 53 RX5 yX5_keepTrial wsX5_keepTrial) := goodIn_app (goodIn_of _ (by decide +kernel)) ggX5_set_X5_keepTrial
theorem dX5_set_0 : decode cX5_set 0 = .ok (.aload_n 0, 1) := by decide +kernel
theorem dX5_set_1 : decode cX5_set 1 = .ok (.aload_n 0, 1) := by decide +kernel
theorem dX5_set_2 : decode cX5_set 2 = .ok (.invokevirtual 45, 3) := by decide +kernel
theorem dX5_set_5 : decode cX5_set 5 = .ok (.iload_n 1, 1) := by decide +kernel
theorem dX5_set_6 : decode cX5_set 6 = .ok (.iload_n 2, 1) := by decide +kernel
theorem dX5_set_7 : decode cX5_set 7 = .ok (.invokevirtual 49, 3) := by decide +kernel
theorem dX5_set_10 : decode cX5_set 10 = .ok (.invokevirtual 53, 3) := by decide +kernel
theorem dX5_set_13 : decode cX5_set 13 = .ok (.ireturn, 1) := by decide +kernel
abbrev rmX5_set : Room := { frames := 3, cells := 0, slots := 0, locals := 82 }

set_option maxRecDepth 100000 in
set_option maxHeartbeats 4000000 in
theorem c_X5_set {l : Launch} {g : Geo} {M : Nat → Nat → Int32} {P : Nat → Nat} (hP : StP P) {N K B : Nat} (hI : InvC (M (P 0)) N K B) {s : Nat} (hs : M 144 6 = nI s) (hs4 : s ≤ 4) {w v : Int32} : Met l yX5_set wsX5_set rmX5_set (cPre g [.ref (g.1 144), .int w, .int v] M P) (cQi g (fun r M' P' => FrK P M M' ∧ M' 147 = M 147 ∧ KpQ s M P r M' P' ∧ ∃ Y, LvX (M (P 0)) Y N K ∧ setQ Y w v r (M' (P 1)))) 0 0 (gA g) := by
  refine met_i (cc := cX5_set) (maxL := 3) (by decide) rfl ⟨rfl, rfl⟩ (Nat.le_of_ble_eq_true rfl) (fun x hx h hret => ?_)
  replace h : Cxk x g cX5_set 3 wsX5_set RX5 rmX5_set := h
  show X x 0 [(0, .ref (g.1 144)), (1, .int w), (2, .int v)] [] M P
  refine x_aload_n h 0 dX5_set_0 rfl rfl ?_
  refine x_aload_n h 0 dX5_set_1 rfl rfl ?_
  refine x_callVr h (As := []) 0 hx (c_X5_freshTrial hP hI) gX5_set_X5_freshTrial rfl ⟨rfl, rfl⟩ (by decide +kernel) rfl (by decide) (by decide) E_144 rfl rfl (Nat.le_of_ble_eq_true rfl) dX5_set_2 (fun q M2 P' hp => ?_)
  obtain ⟨rfl, rfl, ha2, hl2⟩ := hp
  have hI2 := InvC_lv hI hl2
  have hG2 := hI2.1.1
  refine x_iload_n h 1 dX5_set_5 rfl rfl ?_
  refine x_iload_n h 2 dX5_set_6 rfl rfl ?_
  refine x_callV h (As := [.int w, .int v]) 2 hx (c_X0_changeSetting (hP.1 1 (by decide))) gX5_set_X0_changeSetting rfl ⟨rfl, rfl⟩ (by decide +kernel) rfl (by decide) (hk_chip (hP.1 1 (by decide))) (E_chip (hP.1 1 (by decide))) rfl rfl (Nat.le_of_ble_eq_true rfl) dX5_set_7 (fun a3 M3 P' hp => ?_)
  obtain ⟨rfl, X3, hQ3, hM3⟩ := hp
  have hF3 := FrC_up hM3
  rw [show X3 = M3 (P 1) by rw [hM3, va_up_k]] at hQ3
  have hs3 : M3 144 6 = nI s := by rw [hF3 144 (by have := hP.1 1 (by decide); omega) (by omega), ha2 144 (by have := hP.1 1 (by decide); omega)]; exact hs
  refine x_callV h (As := [.int a3]) 1 hx (c_X5_keepTrial hP hs3 hs4) gX5_set_X5_keepTrial rfl ⟨rfl, rfl⟩ (by decide +kernel) rfl (by decide) (by decide) E_144 rfl rfl (Nat.le_of_ble_eq_true rfl) dX5_set_10 (fun a4 M4 P4 hp => ?_)
  obtain ⟨k1, k2, k3, k4, k5⟩ := kp_mk hP ha2 hF3 hs hp
  exact hret _ _ _ _ _ dX5_set_13 (by 
          refine ⟨k1, ?_, k2, M2 (P 1), hl2, ?_⟩
          · rcases hp with ⟨-, ⟨-, -, e⟩ | ⟨-, -, e⟩⟩ <;> rw [e] <;> (try rw [st2_n _ _ _ (by decide)]) <;> rw [hF3 147 (by have := hP.1 1 (by decide); omega) (by omega), ha2 147 (by have := hP.1 1 (by decide); omega)]
          · rw [k3, k4]; exact hQ3)

set_option maxRecDepth 20000 in
theorem ggX5_block_X5_freshTrial : GoodIn wsX5_block wsX5_freshTrial := goodIn_r _ [5, 6, 7, 8, 9, 10, 11, 12, 13, 14, 15, 16, 17, 18, 19, 20, 21, 22, 23, 24, 25, 26, 27, 28, 29, 30, 31, 32, 33, 34, 35, 36, 37, 38, 39, 40, 41, 42, 43, 44, 45, 46, 47, 48, 49, 50, 75, 76, 77, 78, 79, 80, 81, 82, 83, 84, 85, 86, 87, 88, 89, 90, 91, 92, 93, 94, 95, 96, 97, 98, 99, 100, 101, 102, 103, 104, 105] (by decide +kernel) (by decide +kernel)
set_option maxRecDepth 20000 in
theorem gX5_block_X5_freshTrial : GoodIn wsX5_block (wsV RX5 45 RX5 yX5_freshTrial wsX5_freshTrial) := goodIn_app (goodIn_of _ (by decide +kernel)) ggX5_block_X5_freshTrial
set_option maxRecDepth 20000 in
theorem ggX5_block_X0_changeBlocked : GoodIn wsX5_block wsX0_changeBlocked := goodIn_r _ [54, 55, 18, 56, 57, 58, 59, 11, 60, 61, 62, 63, 64, 82, 83, 84, 85, 86, 87, 88, 89] (by decide +kernel) (by decide +kernel)
set_option maxRecDepth 20000 in
theorem gX5_block_X0_changeBlocked : GoodIn wsX5_block (wsV RX5 57 RX0 yX0_changeBlocked wsX0_changeBlocked) := goodIn_app (goodIn_of _ (by decide +kernel)) ggX5_block_X0_changeBlocked
set_option maxRecDepth 20000 in
theorem ggX5_block_X5_keepTrial : GoodIn wsX5_block wsX5_keepTrial := goodIn_r _ [68, 69, 7, 6, 70, 71, 72, 73, 74, 75, 76, 77, 78, 79, 80, 81] (by decide +kernel) (by decide +kernel)
set_option maxRecDepth 20000 in
theorem gX5_block_X5_keepTrial : GoodIn wsX5_block (wsV RX5 53 RX5 yX5_keepTrial wsX5_keepTrial) := goodIn_app (goodIn_of _ (by decide +kernel)) ggX5_block_X5_keepTrial
theorem dX5_block_0 : decode cX5_block 0 = .ok (.aload_n 0, 1) := by decide +kernel
theorem dX5_block_1 : decode cX5_block 1 = .ok (.aload_n 0, 1) := by decide +kernel
theorem dX5_block_2 : decode cX5_block 2 = .ok (.invokevirtual 45, 3) := by decide +kernel
theorem dX5_block_5 : decode cX5_block 5 = .ok (.iload_n 1, 1) := by decide +kernel
theorem dX5_block_6 : decode cX5_block 6 = .ok (.iload_n 2, 1) := by decide +kernel
theorem dX5_block_7 : decode cX5_block 7 = .ok (.invokevirtual 57, 3) := by decide +kernel
theorem dX5_block_10 : decode cX5_block 10 = .ok (.invokevirtual 53, 3) := by decide +kernel
theorem dX5_block_13 : decode cX5_block 13 = .ok (.ireturn, 1) := by decide +kernel
abbrev rmX5_block : Room := { frames := 3, cells := 0, slots := 0, locals := 82 }

set_option maxRecDepth 100000 in
set_option maxHeartbeats 4000000 in
theorem c_X5_block {l : Launch} {g : Geo} {M : Nat → Nat → Int32} {P : Nat → Nat} (hP : StP P) {N K B : Nat} (hI : InvC (M (P 0)) N K B) {s : Nat} (hs : M 144 6 = nI s) (hs4 : s ≤ 4) {p t : Int32} : Met l yX5_block wsX5_block rmX5_block (cPre g [.ref (g.1 144), .int p, .int t] M P) (cQi g (fun r M' P' => FrK P M M' ∧ M' 147 = M 147 ∧ KpQ s M P r M' P' ∧ ∃ Y, LvX (M (P 0)) Y N K ∧ blkQ eC Y p t r (M' (P 1)))) 0 0 (gA g) := by
  refine met_i (cc := cX5_block) (maxL := 3) (by decide) rfl ⟨rfl, rfl⟩ (Nat.le_of_ble_eq_true rfl) (fun x hx h hret => ?_)
  replace h : Cxk x g cX5_block 3 wsX5_block RX5 rmX5_block := h
  show X x 0 [(0, .ref (g.1 144)), (1, .int p), (2, .int t)] [] M P
  refine x_aload_n h 0 dX5_block_0 rfl rfl ?_
  refine x_aload_n h 0 dX5_block_1 rfl rfl ?_
  refine x_callVr h (As := []) 0 hx (c_X5_freshTrial hP hI) gX5_block_X5_freshTrial rfl ⟨rfl, rfl⟩ (by decide +kernel) rfl (by decide) (by decide) E_144 rfl rfl (Nat.le_of_ble_eq_true rfl) dX5_block_2 (fun q M2 P' hp => ?_)
  obtain ⟨rfl, rfl, ha2, hl2⟩ := hp
  have hI2 := InvC_lv hI hl2
  have hG2 := hI2.1.1
  refine x_iload_n h 1 dX5_block_5 rfl rfl ?_
  refine x_iload_n h 2 dX5_block_6 rfl rfl ?_
  refine x_callV h (As := [.int p, .int t]) 2 hx (c_X0_changeBlocked (hP.1 1 (by decide))) gX5_block_X0_changeBlocked rfl ⟨rfl, rfl⟩ (by decide +kernel) rfl (by decide) (hk_chip (hP.1 1 (by decide))) (E_chip (hP.1 1 (by decide))) rfl rfl (Nat.le_of_ble_eq_true rfl) dX5_block_7 (fun a3 M3 P' hp => ?_)
  obtain ⟨rfl, X3, hQ3, hM3⟩ := hp
  have hF3 := FrC_up hM3
  rw [show X3 = M3 (P 1) by rw [hM3, va_up_k]] at hQ3
  have hs3 : M3 144 6 = nI s := by rw [hF3 144 (by have := hP.1 1 (by decide); omega) (by omega), ha2 144 (by have := hP.1 1 (by decide); omega)]; exact hs
  refine x_callV h (As := [.int a3]) 1 hx (c_X5_keepTrial hP hs3 hs4) gX5_block_X5_keepTrial rfl ⟨rfl, rfl⟩ (by decide +kernel) rfl (by decide) (by decide) E_144 rfl rfl (Nat.le_of_ble_eq_true rfl) dX5_block_10 (fun a4 M4 P4 hp => ?_)
  obtain ⟨k1, k2, k3, k4, k5⟩ := kp_mk hP ha2 hF3 hs hp
  exact hret _ _ _ _ _ dX5_block_13 (by 
          refine ⟨k1, ?_, k2, M2 (P 1), hl2, ?_⟩
          · rcases hp with ⟨-, ⟨-, -, e⟩ | ⟨-, -, e⟩⟩ <;> rw [e] <;> (try rw [st2_n _ _ _ (by decide)]) <;> rw [hF3 147 (by have := hP.1 1 (by decide); omega) (by omega), ha2 147 (by have := hP.1 1 (by decide); omega)]
          · rw [k3, k4]; exact hQ3)

set_option maxRecDepth 20000 in
theorem ggX5_net_X5_freshTrial : GoodIn wsX5_net wsX5_freshTrial := goodIn_r _ [5, 6, 7, 8, 9, 10, 11, 12, 13, 14, 15, 16, 17, 18, 19, 20, 21, 22, 23, 24, 25, 26, 27, 28, 29, 30, 31, 32, 33, 34, 35, 36, 37, 38, 39, 40, 41, 42, 43, 44, 45, 46, 47, 48, 49, 50, 88, 89, 90, 91, 92, 93, 94, 95, 96, 97, 98, 99, 100, 101, 102, 103, 104, 105, 106, 107, 108, 109, 110, 111, 112, 113, 114, 115, 116, 117, 118] (by decide +kernel) (by decide +kernel)
set_option maxRecDepth 20000 in
theorem gX5_net_X5_freshTrial : GoodIn wsX5_net (wsV RX5 45 RX5 yX5_freshTrial wsX5_freshTrial) := goodIn_app (goodIn_of _ (by decide +kernel)) ggX5_net_X5_freshTrial
set_option maxRecDepth 20000 in
theorem ggX5_net_X0_addNet : GoodIn wsX5_net wsX0_addNet := goodIn_r _ [54, 55, 56, 20, 57, 21, 58, 59, 60, 61, 62, 63, 64, 65, 66, 67, 68, 11, 69, 70, 71, 72, 73, 18, 74, 75, 76, 77, 95, 96, 97, 98, 99, 100, 101, 102, 103, 104, 105, 106, 107, 108, 109, 110, 111] (by decide +kernel) (by decide +kernel)
set_option maxRecDepth 20000 in
theorem gX5_net_X0_addNet : GoodIn wsX5_net (wsV RX5 60 RX0 yX0_addNet wsX0_addNet) := goodIn_app (goodIn_of _ (by decide +kernel)) ggX5_net_X0_addNet
set_option maxRecDepth 20000 in
theorem ggX5_net_X5_keepTrial : GoodIn wsX5_net wsX5_keepTrial := goodIn_r _ [81, 82, 7, 6, 83, 84, 85, 86, 87, 88, 89, 90, 91, 92, 93, 94] (by decide +kernel) (by decide +kernel)
set_option maxRecDepth 20000 in
theorem gX5_net_X5_keepTrial : GoodIn wsX5_net (wsV RX5 53 RX5 yX5_keepTrial wsX5_keepTrial) := goodIn_app (goodIn_of _ (by decide +kernel)) ggX5_net_X5_keepTrial
theorem dX5_net_0 : decode cX5_net 0 = .ok (.aload_n 0, 1) := by decide +kernel
theorem dX5_net_1 : decode cX5_net 1 = .ok (.aload_n 0, 1) := by decide +kernel
theorem dX5_net_2 : decode cX5_net 2 = .ok (.invokevirtual 45, 3) := by decide +kernel
theorem dX5_net_5 : decode cX5_net 5 = .ok (.iload_n 1, 1) := by decide +kernel
theorem dX5_net_6 : decode cX5_net 6 = .ok (.iload_n 2, 1) := by decide +kernel
theorem dX5_net_7 : decode cX5_net 7 = .ok (.iload_n 3, 1) := by decide +kernel
theorem dX5_net_8 : decode cX5_net 8 = .ok (.iload 4, 2) := by decide +kernel
theorem dX5_net_10 : decode cX5_net 10 = .ok (.iload 5, 2) := by decide +kernel
theorem dX5_net_12 : decode cX5_net 12 = .ok (.invokevirtual 60, 3) := by decide +kernel
theorem dX5_net_15 : decode cX5_net 15 = .ok (.invokevirtual 53, 3) := by decide +kernel
theorem dX5_net_18 : decode cX5_net 18 = .ok (.ireturn, 1) := by decide +kernel
abbrev rmX5_net : Room := { frames := 3, cells := 0, slots := 0, locals := 82 }

set_option maxRecDepth 100000 in
set_option maxHeartbeats 4000000 in
theorem c_X5_net {l : Launch} {g : Geo} {M : Nat → Nat → Int32} {P : Nat → Nat} (hP : StP P) {N K B : Nat} (hI : InvC (M (P 0)) N K B) {s : Nat} (hs : M 144 6 = nI s) (hs4 : s ≤ 4) {p0 p1 p2 t u : Int32} : Met l yX5_net wsX5_net rmX5_net (cPre g [.ref (g.1 144), .int p0, .int p1, .int p2, .int t, .int u] M P) (cQi g (fun r M' P' => FrK P M M' ∧ M' 147 = M 147 ∧ KpQ s M P r M' P' ∧ ∃ Y, LvX (M (P 0)) Y N K ∧ netQ eC Y N p0 p1 p2 t u r (M' (P 1)))) 0 0 (gA g) := by
  refine met_i (cc := cX5_net) (maxL := 6) (by decide) rfl ⟨rfl, rfl⟩ (Nat.le_of_ble_eq_true rfl) (fun x hx h hret => ?_)
  replace h : Cxk x g cX5_net 6 wsX5_net RX5 rmX5_net := h
  show X x 0 [(0, .ref (g.1 144)), (1, .int p0), (2, .int p1), (3, .int p2), (4, .int t), (5, .int u)] [] M P
  refine x_aload_n h 0 dX5_net_0 rfl rfl ?_
  refine x_aload_n h 0 dX5_net_1 rfl rfl ?_
  refine x_callVr h (As := []) 0 hx (c_X5_freshTrial hP hI) gX5_net_X5_freshTrial rfl ⟨rfl, rfl⟩ (by decide +kernel) rfl (by decide) (by decide) E_144 rfl rfl (Nat.le_of_ble_eq_true rfl) dX5_net_2 (fun q M2 P' hp => ?_)
  obtain ⟨rfl, rfl, ha2, hl2⟩ := hp
  have hI2 := InvC_lv hI hl2
  have hG2 := hI2.1.1
  refine x_iload_n h 1 dX5_net_5 rfl rfl ?_
  refine x_iload_n h 2 dX5_net_6 rfl rfl ?_
  refine x_iload_n h 3 dX5_net_7 rfl rfl ?_
  refine x_iload h 4 dX5_net_8 rfl ?_
  refine x_iload h 5 dX5_net_10 rfl ?_
  refine x_callV h (As := [.int p0, .int p1, .int p2, .int t, .int u]) 5 hx (c_X0_addNet (hP.1 1 (by decide)) hG2.1 hG2.2.1) gX5_net_X0_addNet rfl ⟨rfl, rfl⟩ (by decide +kernel) rfl (by decide) (hk_chip (hP.1 1 (by decide))) (E_chip (hP.1 1 (by decide))) rfl rfl (Nat.le_of_ble_eq_true rfl) dX5_net_12 (fun a3 M3 P' hp => ?_)
  obtain ⟨rfl, X3, hQ3, hM3⟩ := hp
  have hF3 := FrC_up hM3
  rw [show X3 = M3 (P 1) by rw [hM3, va_up_k]] at hQ3
  have hs3 : M3 144 6 = nI s := by rw [hF3 144 (by have := hP.1 1 (by decide); omega) (by omega), ha2 144 (by have := hP.1 1 (by decide); omega)]; exact hs
  refine x_callV h (As := [.int a3]) 1 hx (c_X5_keepTrial hP hs3 hs4) gX5_net_X5_keepTrial rfl ⟨rfl, rfl⟩ (by decide +kernel) rfl (by decide) (by decide) E_144 rfl rfl (Nat.le_of_ble_eq_true rfl) dX5_net_15 (fun a4 M4 P4 hp => ?_)
  obtain ⟨k1, k2, k3, k4, k5⟩ := kp_mk hP ha2 hF3 hs hp
  exact hret _ _ _ _ _ dX5_net_18 (by 
          refine ⟨k1, ?_, k2, M2 (P 1), hl2, ?_⟩
          · rcases hp with ⟨-, ⟨-, -, e⟩ | ⟨-, -, e⟩⟩ <;> rw [e] <;> (try rw [st2_n _ _ _ (by decide)]) <;> rw [hF3 147 (by have := hP.1 1 (by decide); omega) (by omega), ha2 147 (by have := hP.1 1 (by decide); omega)]
          · rw [k3, k4]; exact hQ3)

set_option maxRecDepth 20000 in
theorem ggX5_give_X5_freshTrial : GoodIn wsX5_give wsX5_freshTrial := goodIn_r _ [5, 6, 7, 8, 9, 10, 11, 12, 13, 14, 15, 16, 17, 18, 19, 20, 21, 22, 23, 24, 25, 26, 27, 28, 29, 30, 31, 32, 33, 34, 35, 36, 37, 38, 39, 40, 41, 42, 43, 44, 45, 46, 47, 48, 49, 50, 73, 74, 75, 76, 77, 78, 79, 80, 81, 82, 83, 84, 85, 86, 87, 88, 89, 90, 91, 92, 93, 94, 95, 96, 97, 98, 99, 100, 101, 102, 103] (by decide +kernel) (by decide +kernel)
set_option maxRecDepth 20000 in
theorem gX5_give_X5_freshTrial : GoodIn wsX5_give (wsV RX5 45 RX5 yX5_freshTrial wsX5_freshTrial) := goodIn_app (goodIn_of _ (by decide +kernel)) ggX5_give_X5_freshTrial
set_option maxRecDepth 20000 in
theorem ggX5_give_X0_addCoins : GoodIn wsX5_give wsX0_addCoins := goodIn_r _ [54, 55, 21, 56, 57, 58, 59, 60, 61, 11, 62, 20, 80, 81, 82, 83, 84, 85, 86, 87, 88, 89, 90, 91, 92, 93, 94, 95, 96] (by decide +kernel) (by decide +kernel)
set_option maxRecDepth 20000 in
theorem gX5_give_X0_addCoins : GoodIn wsX5_give (wsV RX5 64 RX0 yX0_addCoins wsX0_addCoins) := goodIn_app (goodIn_of _ (by decide +kernel)) ggX5_give_X0_addCoins
set_option maxRecDepth 20000 in
theorem ggX5_give_X5_keepTrial : GoodIn wsX5_give wsX5_keepTrial := goodIn_r _ [66, 67, 7, 6, 68, 69, 70, 71, 72, 73, 74, 75, 76, 77, 78, 79] (by decide +kernel) (by decide +kernel)
set_option maxRecDepth 20000 in
theorem gX5_give_X5_keepTrial : GoodIn wsX5_give (wsV RX5 53 RX5 yX5_keepTrial wsX5_keepTrial) := goodIn_app (goodIn_of _ (by decide +kernel)) ggX5_give_X5_keepTrial
theorem dX5_give_0 : decode cX5_give 0 = .ok (.aload_n 0, 1) := by decide +kernel
theorem dX5_give_1 : decode cX5_give 1 = .ok (.aload_n 0, 1) := by decide +kernel
theorem dX5_give_2 : decode cX5_give 2 = .ok (.invokevirtual 45, 3) := by decide +kernel
theorem dX5_give_5 : decode cX5_give 5 = .ok (.iload_n 1, 1) := by decide +kernel
theorem dX5_give_6 : decode cX5_give 6 = .ok (.iload_n 2, 1) := by decide +kernel
theorem dX5_give_7 : decode cX5_give 7 = .ok (.invokevirtual 64, 3) := by decide +kernel
theorem dX5_give_10 : decode cX5_give 10 = .ok (.invokevirtual 53, 3) := by decide +kernel
theorem dX5_give_13 : decode cX5_give 13 = .ok (.ireturn, 1) := by decide +kernel
abbrev rmX5_give : Room := { frames := 3, cells := 0, slots := 0, locals := 82 }

set_option maxRecDepth 100000 in
set_option maxHeartbeats 4000000 in
theorem c_X5_give {l : Launch} {g : Geo} {M : Nat → Nat → Int32} {P : Nat → Nat} (hP : StP P) {N K B : Nat} (hI : InvC (M (P 0)) N K B) {s : Nat} (hs : M 144 6 = nI s) (hs4 : s ≤ 4) {n a : Int32} : Met l yX5_give wsX5_give rmX5_give (cPre g [.ref (g.1 144), .int n, .int a] M P) (cQi g (fun r M' P' => FrK P M M' ∧ M' 147 = M 147 ∧ KpQ s M P r M' P' ∧ ∃ Y, LvX (M (P 0)) Y N K ∧ giveQ Y N n a r (M' (P 1)))) 0 0 (gA g) := by
  refine met_i (cc := cX5_give) (maxL := 3) (by decide) rfl ⟨rfl, rfl⟩ (Nat.le_of_ble_eq_true rfl) (fun x hx h hret => ?_)
  replace h : Cxk x g cX5_give 3 wsX5_give RX5 rmX5_give := h
  show X x 0 [(0, .ref (g.1 144)), (1, .int n), (2, .int a)] [] M P
  refine x_aload_n h 0 dX5_give_0 rfl rfl ?_
  refine x_aload_n h 0 dX5_give_1 rfl rfl ?_
  refine x_callVr h (As := []) 0 hx (c_X5_freshTrial hP hI) gX5_give_X5_freshTrial rfl ⟨rfl, rfl⟩ (by decide +kernel) rfl (by decide) (by decide) E_144 rfl rfl (Nat.le_of_ble_eq_true rfl) dX5_give_2 (fun q M2 P' hp => ?_)
  obtain ⟨rfl, rfl, ha2, hl2⟩ := hp
  have hI2 := InvC_lv hI hl2
  have hG2 := hI2.1.1
  refine x_iload_n h 1 dX5_give_5 rfl rfl ?_
  refine x_iload_n h 2 dX5_give_6 rfl rfl ?_
  refine x_callV h (As := [.int n, .int a]) 2 hx (c_X0_addCoins (hP.1 1 (by decide)) hG2.1 hG2.2.1) gX5_give_X0_addCoins rfl ⟨rfl, rfl⟩ (by decide +kernel) rfl (by decide) (hk_chip (hP.1 1 (by decide))) (E_chip (hP.1 1 (by decide))) rfl rfl (Nat.le_of_ble_eq_true rfl) dX5_give_7 (fun a3 M3 P' hp => ?_)
  obtain ⟨rfl, X3, hQ3, hM3⟩ := hp
  have hF3 := FrC_up hM3
  rw [show X3 = M3 (P 1) by rw [hM3, va_up_k]] at hQ3
  have hs3 : M3 144 6 = nI s := by rw [hF3 144 (by have := hP.1 1 (by decide); omega) (by omega), ha2 144 (by have := hP.1 1 (by decide); omega)]; exact hs
  refine x_callV h (As := [.int a3]) 1 hx (c_X5_keepTrial hP hs3 hs4) gX5_give_X5_keepTrial rfl ⟨rfl, rfl⟩ (by decide +kernel) rfl (by decide) (by decide) E_144 rfl rfl (Nat.le_of_ble_eq_true rfl) dX5_give_10 (fun a4 M4 P4 hp => ?_)
  obtain ⟨k1, k2, k3, k4, k5⟩ := kp_mk hP ha2 hF3 hs hp
  exact hret _ _ _ _ _ dX5_give_13 (by 
          refine ⟨k1, ?_, k2, M2 (P 1), hl2, ?_⟩
          · rcases hp with ⟨-, ⟨-, -, e⟩ | ⟨-, -, e⟩⟩ <;> rw [e] <;> (try rw [st2_n _ _ _ (by decide)]) <;> rw [hF3 147 (by have := hP.1 1 (by decide); omega) (by omega), ha2 147 (by have := hP.1 1 (by decide); omega)]
          · rw [k3, k4]; exact hQ3)

set_option maxRecDepth 20000 in
theorem ggX5_lay_X5_freshTrial : GoodIn wsX5_lay wsX5_freshTrial := goodIn_r _ [6, 7, 8, 9, 10, 11, 12, 13, 14, 15, 16, 17, 18, 19, 20, 21, 22, 23, 24, 25, 26, 27, 28, 29, 30, 31, 32, 33, 34, 35, 36, 37, 38, 39, 40, 41, 42, 43, 44, 45, 46, 47, 48, 49, 50, 51, 153, 154, 155, 156, 157, 158, 159, 160, 161, 162, 163, 164, 165, 166, 167, 168, 169, 170, 171, 172, 173, 174, 175, 176, 177, 178, 179, 180, 181, 182, 183] (by decide +kernel) (by decide +kernel)
set_option maxRecDepth 20000 in
theorem gX5_lay_X5_freshTrial : GoodIn wsX5_lay (wsV RX5 45 RX5 yX5_freshTrial wsX5_freshTrial) := goodIn_app (goodIn_of _ (by decide +kernel)) ggX5_lay_X5_freshTrial
set_option maxRecDepth 20000 in
theorem ggX5_lay_X0_layNet : GoodIn wsX5_lay wsX0_layNet := goodIn_r _ [55, 56, 22, 57, 58, 25, 59, 60, 61, 62, 12, 63, 21, 64, 65, 66, 67, 68, 69, 70, 71, 72, 73, 74, 75, 76, 77, 78, 79, 80, 81, 82, 83, 84, 85, 86, 19, 14, 87, 88, 89, 90, 91, 92, 93, 94, 95, 96, 97, 98, 99, 100, 101, 102, 103, 104, 105, 106, 107, 108, 109, 110, 111, 112, 113, 114, 115, 116, 117, 118, 119, 120, 121, 122, 123, 124, 125, 126, 127, 128, 129, 130, 131, 132, 133, 134, 135, 136, 137, 138, 139, 140, 141, 142, 160, 161, 162, 163, 164, 165, 166, 167, 168, 169, 170, 171, 172, 173, 174, 175, 176, 184, 185, 186, 187, 188, 189, 190, 191, 192, 193, 194, 195, 196, 197, 198] (by decide +kernel) (by decide +kernel)
set_option maxRecDepth 20000 in
theorem gX5_lay_X0_layNet : GoodIn wsX5_lay (wsV RX5 82 RX0 yX0_layNet wsX0_layNet) := goodIn_app (goodIn_of _ (by decide +kernel)) ggX5_lay_X0_layNet
set_option maxRecDepth 20000 in
theorem ggX5_lay_X5_keepTrial : GoodIn wsX5_lay wsX5_keepTrial := goodIn_r _ [146, 147, 8, 7, 148, 149, 150, 151, 152, 153, 154, 155, 156, 157, 158, 159] (by decide +kernel) (by decide +kernel)
set_option maxRecDepth 20000 in
theorem gX5_lay_X5_keepTrial : GoodIn wsX5_lay (wsV RX5 53 RX5 yX5_keepTrial wsX5_keepTrial) := goodIn_app (goodIn_of _ (by decide +kernel)) ggX5_lay_X5_keepTrial
theorem dX5_lay_0 : decode cX5_lay 0 = .ok (.aload_n 0, 1) := by decide +kernel
theorem dX5_lay_1 : decode cX5_lay 1 = .ok (.aload_n 0, 1) := by decide +kernel
theorem dX5_lay_2 : decode cX5_lay 2 = .ok (.invokevirtual 45, 3) := by decide +kernel
theorem dX5_lay_5 : decode cX5_lay 5 = .ok (.aload_n 0, 1) := by decide +kernel
theorem dX5_lay_6 : decode cX5_lay 6 = .ok (.getfield 10, 3) := by decide +kernel
theorem dX5_lay_9 : decode cX5_lay 9 = .ok (.iload_n 1, 1) := by decide +kernel
theorem dX5_lay_10 : decode cX5_lay 10 = .ok (.invokevirtual 82, 3) := by decide +kernel
theorem dX5_lay_13 : decode cX5_lay 13 = .ok (.invokevirtual 53, 3) := by decide +kernel
theorem dX5_lay_16 : decode cX5_lay 16 = .ok (.ireturn, 1) := by decide +kernel
abbrev rmX5_lay : Room := { frames := 5, cells := 0, slots := 0, locals := 119 }
set_option maxRecDepth 20000 in
theorem in_X5_lay_X5 : ∀ w ∈ wsX50, w ∈ wsX5_lay := by decide +kernel

set_option maxRecDepth 100000 in
set_option maxHeartbeats 4000000 in
theorem c_X5_lay {l : Launch} {g : Geo} {M : Nat → Nat → Int32} {P : Nat → Nat} (hP : StP P) {N K B : Nat} (hI : InvC (M (P 0)) N K B) {s : Nat} (hs : M 144 6 = nI s) (hs4 : s ≤ 4) (hNb : Nbr M) {n : Int32} : Met l yX5_lay wsX5_lay rmX5_lay (cPre g [.ref (g.1 144), .int n] M P) (cQi g (fun r M' P' => FrK P M M' ∧ M' 147 = M 147 ∧ KpQ s M P r M' P' ∧ ∃ Y, LvX (M (P 0)) Y N K ∧ layQ eC Y N n r (M' (P 1)))) 0 0 (gA g) := by
  refine met_i (cc := cX5_lay) (maxL := 2) (by decide) rfl ⟨rfl, rfl⟩ (Nat.le_of_ble_eq_true rfl) (fun x hx h hret => ?_)
  replace h : Cxk x g cX5_lay 2 wsX5_lay RX5 rmX5_lay := h
  show X x 0 [(0, .ref (g.1 144)), (1, .int n)] [] M P
  refine x_aload_n h 0 dX5_lay_0 rfl rfl ?_
  refine x_aload_n h 0 dX5_lay_1 rfl rfl ?_
  refine x_callVr h (As := []) 0 hx (c_X5_freshTrial hP hI) gX5_lay_X5_freshTrial rfl ⟨rfl, rfl⟩ (by decide +kernel) rfl (by decide) (by decide) E_144 rfl rfl (Nat.le_of_ble_eq_true rfl) dX5_lay_2 (fun q M2 P' hp => ?_)
  obtain ⟨rfl, rfl, ha2, hl2⟩ := hp
  have hI2 := InvC_lv hI hl2
  have hG2 := hI2.1.1
  refine x_aload_n h 0 dX5_lay_5 rfl rfl ?_
  refine xg_X5_0 h in_X5_lay_X5 (by decide +kernel) dX5_lay_6 ?_
  refine x_iload_n h 1 dX5_lay_9 rfl rfl ?_
  refine x_callV h (As := [.ref (g.1 149), .int n]) 2 hx (c_X0_layNet (hP.1 1 (by decide)) hG2 (Nbr_cg (ha2 150 (by have := hP.1 1 (by decide); omega)) hNb)) gX5_lay_X0_layNet rfl ⟨rfl, rfl⟩ (by decide +kernel) rfl (by decide) (hk_chip (hP.1 1 (by decide))) (E_chip (hP.1 1 (by decide))) rfl rfl (Nat.le_of_ble_eq_true rfl) dX5_lay_10 (fun a3 M3 P' hp => ?_)
  obtain ⟨rfl, hF3, hQ3⟩ := hp
  have hs3 : M3 144 6 = nI s := by rw [hF3 144 (by have := hP.1 1 (by decide); omega) (by omega), ha2 144 (by have := hP.1 1 (by decide); omega)]; exact hs
  refine x_callV h (As := [.int a3]) 1 hx (c_X5_keepTrial hP hs3 hs4) gX5_lay_X5_keepTrial rfl ⟨rfl, rfl⟩ (by decide +kernel) rfl (by decide) (by decide) E_144 rfl rfl (Nat.le_of_ble_eq_true rfl) dX5_lay_13 (fun a4 M4 P4 hp => ?_)
  obtain ⟨k1, k2, k3, k4, k5⟩ := kp_mk hP ha2 hF3 hs hp
  exact hret _ _ _ _ _ dX5_lay_16 (by 
          refine ⟨k1, ?_, k2, M2 (P 1), hl2, ?_⟩
          · rcases hp with ⟨-, ⟨-, -, e⟩ | ⟨-, -, e⟩⟩ <;> rw [e] <;> (try rw [st2_n _ _ _ (by decide)]) <;> rw [hF3 147 (by have := hP.1 1 (by decide); omega) (by omega), ha2 147 (by have := hP.1 1 (by decide); omega)]
          · rw [k3, k4]; exact hQ3)

set_option maxRecDepth 20000 in
theorem ggX5_dig_X5_freshTrial : GoodIn wsX5_dig wsX5_freshTrial := goodIn_r _ [6, 7, 8, 9, 10, 11, 12, 13, 14, 15, 16, 17, 18, 19, 20, 21, 22, 23, 24, 25, 26, 27, 28, 29, 30, 31, 32, 33, 34, 35, 36, 37, 38, 39, 40, 41, 42, 43, 44, 45, 46, 47, 48, 49, 50, 51, 196, 197, 198, 199, 200, 201, 202, 203, 204, 205, 206, 207, 208, 209, 210, 211, 212, 213, 214, 215, 216, 217, 218, 219, 220, 221, 222, 223, 224, 225, 226] (by decide +kernel) (by decide +kernel)
set_option maxRecDepth 20000 in
theorem gX5_dig_X5_freshTrial : GoodIn wsX5_dig (wsV RX5 45 RX5 yX5_freshTrial wsX5_freshTrial) := goodIn_app (goodIn_of _ (by decide +kernel)) ggX5_dig_X5_freshTrial
set_option maxRecDepth 20000 in
theorem ggX5_dig_X0_digForNet : GoodIn wsX5_dig wsX0_digForNet := goodIn_r _ [55, 56, 22, 57, 58, 59, 60, 23, 61, 62, 25, 63, 64, 65, 66, 67, 12, 68, 21, 69, 70, 71, 72, 73, 74, 75, 76, 77, 78, 79, 80, 81, 82, 83, 84, 85, 86, 87, 88, 89, 90, 91, 19, 14, 92, 93, 94, 95, 96, 97, 98, 99, 100, 101, 102, 103, 104, 105, 106, 107, 108, 109, 110, 111, 112, 113, 114, 115, 116, 117, 118, 119, 120, 121, 122, 123, 124, 125, 126, 127, 128, 129, 130, 131, 132, 133, 134, 135, 136, 137, 138, 139, 140, 141, 142, 143, 144, 145, 146, 147, 29, 148, 35, 38, 149, 150, 151, 152, 24, 153, 154, 155, 156, 157, 158, 159, 20, 160, 161, 162, 163, 164, 165, 166, 167, 168, 169, 170, 171, 39, 172, 173, 174, 175, 176, 177, 178, 179, 180, 181, 182, 183, 184, 185, 203, 204, 205, 206, 207, 208, 209, 210, 211, 212, 213, 214, 215, 216, 217, 218, 219, 227, 228, 229, 230, 231, 232, 233, 234, 235, 236, 237, 238, 239, 240, 241, 220, 221, 222, 223, 224, 225, 226] (by decide +kernel) (by decide +kernel)
set_option maxRecDepth 20000 in
theorem gX5_dig_X0_digForNet : GoodIn wsX5_dig (wsV RX5 86 RX0 yX0_digForNet wsX0_digForNet) := goodIn_app (goodIn_of _ (by decide +kernel)) ggX5_dig_X0_digForNet
set_option maxRecDepth 20000 in
theorem ggX5_dig_X5_keepTrial : GoodIn wsX5_dig wsX5_keepTrial := goodIn_r _ [189, 190, 8, 7, 191, 192, 193, 194, 195, 196, 197, 198, 199, 200, 201, 202] (by decide +kernel) (by decide +kernel)
set_option maxRecDepth 20000 in
theorem gX5_dig_X5_keepTrial : GoodIn wsX5_dig (wsV RX5 53 RX5 yX5_keepTrial wsX5_keepTrial) := goodIn_app (goodIn_of _ (by decide +kernel)) ggX5_dig_X5_keepTrial
theorem dX5_dig_0 : decode cX5_dig 0 = .ok (.aload_n 0, 1) := by decide +kernel
theorem dX5_dig_1 : decode cX5_dig 1 = .ok (.aload_n 0, 1) := by decide +kernel
theorem dX5_dig_2 : decode cX5_dig 2 = .ok (.invokevirtual 45, 3) := by decide +kernel
theorem dX5_dig_5 : decode cX5_dig 5 = .ok (.aload_n 0, 1) := by decide +kernel
theorem dX5_dig_6 : decode cX5_dig 6 = .ok (.getfield 10, 3) := by decide +kernel
theorem dX5_dig_9 : decode cX5_dig 9 = .ok (.iload_n 1, 1) := by decide +kernel
theorem dX5_dig_10 : decode cX5_dig 10 = .ok (.invokevirtual 86, 3) := by decide +kernel
theorem dX5_dig_13 : decode cX5_dig 13 = .ok (.invokevirtual 53, 3) := by decide +kernel
theorem dX5_dig_16 : decode cX5_dig 16 = .ok (.ireturn, 1) := by decide +kernel
abbrev rmX5_dig : Room := { frames := 5, cells := 0, slots := 0, locals := 121 }
set_option maxRecDepth 20000 in
theorem in_X5_dig_X5 : ∀ w ∈ wsX50, w ∈ wsX5_dig := by decide +kernel

set_option maxRecDepth 100000 in
set_option maxHeartbeats 4000000 in
theorem c_X5_dig {l : Launch} {g : Geo} {M : Nat → Nat → Int32} {P : Nat → Nat} (hP : StP P) {N K B : Nat} (hI : InvC (M (P 0)) N K B) {s : Nat} (hs : M 144 6 = nI s) (hs4 : s ≤ 4) (hNb : Nbr M) {n : Int32} : Met l yX5_dig wsX5_dig rmX5_dig (cPre g [.ref (g.1 144), .int n] M P) (cQi g (fun r M' P' => FrK P M M' ∧ M' 147 = M 147 ∧ KpQ s M P r M' P' ∧ ∃ Y, LvX (M (P 0)) Y N K ∧ digQ finC eC Y N K n r (M' (P 1)))) 0 0 (gA g) := by
  refine met_i (cc := cX5_dig) (maxL := 2) (by decide) rfl ⟨rfl, rfl⟩ (Nat.le_of_ble_eq_true rfl) (fun x hx h hret => ?_)
  replace h : Cxk x g cX5_dig 2 wsX5_dig RX5 rmX5_dig := h
  show X x 0 [(0, .ref (g.1 144)), (1, .int n)] [] M P
  refine x_aload_n h 0 dX5_dig_0 rfl rfl ?_
  refine x_aload_n h 0 dX5_dig_1 rfl rfl ?_
  refine x_callVr h (As := []) 0 hx (c_X5_freshTrial hP hI) gX5_dig_X5_freshTrial rfl ⟨rfl, rfl⟩ (by decide +kernel) rfl (by decide) (by decide) E_144 rfl rfl (Nat.le_of_ble_eq_true rfl) dX5_dig_2 (fun q M2 P' hp => ?_)
  obtain ⟨rfl, rfl, ha2, hl2⟩ := hp
  have hI2 := InvC_lv hI hl2
  have hG2 := hI2.1.1
  refine x_aload_n h 0 dX5_dig_5 rfl rfl ?_
  refine xg_X5_0 h in_X5_dig_X5 (by decide +kernel) dX5_dig_6 ?_
  refine x_iload_n h 1 dX5_dig_9 rfl rfl ?_
  refine x_callV h (As := [.ref (g.1 149), .int n]) 2 hx (c_X0_digForNet (hP.1 1 (by decide)) hG2 (Nbr_cg (ha2 150 (by have := hP.1 1 (by decide); omega)) hNb)) gX5_dig_X0_digForNet rfl ⟨rfl, rfl⟩ (by decide +kernel) rfl (by decide) (hk_chip (hP.1 1 (by decide))) (E_chip (hP.1 1 (by decide))) rfl rfl (Nat.le_of_ble_eq_true rfl) dX5_dig_10 (fun a3 M3 P' hp => ?_)
  obtain ⟨rfl, hF3, hQ3⟩ := hp
  have hs3 : M3 144 6 = nI s := by rw [hF3 144 (by have := hP.1 1 (by decide); omega) (by omega), ha2 144 (by have := hP.1 1 (by decide); omega)]; exact hs
  refine x_callV h (As := [.int a3]) 1 hx (c_X5_keepTrial hP hs3 hs4) gX5_dig_X5_keepTrial rfl ⟨rfl, rfl⟩ (by decide +kernel) rfl (by decide) (by decide) E_144 rfl rfl (Nat.le_of_ble_eq_true rfl) dX5_dig_13 (fun a4 M4 P4 hp => ?_)
  obtain ⟨k1, k2, k3, k4, k5⟩ := kp_mk hP ha2 hF3 hs hp
  exact hret _ _ _ _ _ dX5_dig_16 (by 
          refine ⟨k1, ?_, k2, M2 (P 1), hl2, ?_⟩
          · rcases hp with ⟨-, ⟨-, -, e⟩ | ⟨-, -, e⟩⟩ <;> rw [e] <;> (try rw [st2_n _ _ _ (by decide)]) <;> rw [hF3 147 (by have := hP.1 1 (by decide); omega) (by omega), ha2 147 (by have := hP.1 1 (by decide); omega)]
          · rw [k3, k4]; exact hQ3)

set_option maxRecDepth 20000 in
theorem ggX5_rip_X5_freshTrial : GoodIn wsX5_rip wsX5_freshTrial := goodIn_r _ [5, 6, 7, 8, 9, 10, 11, 12, 13, 14, 15, 16, 17, 18, 19, 20, 21, 22, 23, 24, 25, 26, 27, 28, 29, 30, 31, 32, 33, 34, 35, 36, 37, 38, 39, 40, 41, 42, 43, 44, 45, 46, 47, 48, 49, 50, 80, 81, 82, 83, 84, 85, 86, 87, 88, 89, 90, 91, 92, 93, 94, 95, 96, 97, 98, 99, 100, 101, 102, 103, 104, 105, 106, 107, 108, 109, 110] (by decide +kernel) (by decide +kernel)
set_option maxRecDepth 20000 in
theorem gX5_rip_X5_freshTrial : GoodIn wsX5_rip (wsV RX5 45 RX5 yX5_freshTrial wsX5_freshTrial) := goodIn_app (goodIn_of _ (by decide +kernel)) ggX5_rip_X5_freshTrial
set_option maxRecDepth 20000 in
theorem ggX5_rip_X0_ripNet : GoodIn wsX5_rip wsX0_ripNet := goodIn_r _ [54, 55, 21, 56, 57, 24, 58, 59, 60, 11, 61, 20, 62, 63, 64, 65, 18, 66, 67, 68, 69, 87, 88, 89, 90, 91, 92, 93, 94, 95, 96, 97, 98, 99, 100, 101, 102, 103] (by decide +kernel) (by decide +kernel)
set_option maxRecDepth 20000 in
theorem gX5_rip_X0_ripNet : GoodIn wsX5_rip (wsV RX5 89 RX0 yX0_ripNet wsX0_ripNet) := goodIn_app (goodIn_of _ (by decide +kernel)) ggX5_rip_X0_ripNet
set_option maxRecDepth 20000 in
theorem ggX5_rip_X5_keepTrial : GoodIn wsX5_rip wsX5_keepTrial := goodIn_r _ [73, 74, 7, 6, 75, 76, 77, 78, 79, 80, 81, 82, 83, 84, 85, 86] (by decide +kernel) (by decide +kernel)
set_option maxRecDepth 20000 in
theorem gX5_rip_X5_keepTrial : GoodIn wsX5_rip (wsV RX5 53 RX5 yX5_keepTrial wsX5_keepTrial) := goodIn_app (goodIn_of _ (by decide +kernel)) ggX5_rip_X5_keepTrial
theorem dX5_rip_0 : decode cX5_rip 0 = .ok (.aload_n 0, 1) := by decide +kernel
theorem dX5_rip_1 : decode cX5_rip 1 = .ok (.aload_n 0, 1) := by decide +kernel
theorem dX5_rip_2 : decode cX5_rip 2 = .ok (.invokevirtual 45, 3) := by decide +kernel
theorem dX5_rip_5 : decode cX5_rip 5 = .ok (.iload_n 1, 1) := by decide +kernel
theorem dX5_rip_6 : decode cX5_rip 6 = .ok (.invokevirtual 89, 3) := by decide +kernel
theorem dX5_rip_9 : decode cX5_rip 9 = .ok (.invokevirtual 53, 3) := by decide +kernel
theorem dX5_rip_12 : decode cX5_rip 12 = .ok (.ireturn, 1) := by decide +kernel
abbrev rmX5_rip : Room := { frames := 3, cells := 0, slots := 0, locals := 82 }

set_option maxRecDepth 100000 in
set_option maxHeartbeats 4000000 in
theorem c_X5_rip {l : Launch} {g : Geo} {M : Nat → Nat → Int32} {P : Nat → Nat} (hP : StP P) {N K B : Nat} (hI : InvC (M (P 0)) N K B) {s : Nat} (hs : M 144 6 = nI s) (hs4 : s ≤ 4) {n : Int32} : Met l yX5_rip wsX5_rip rmX5_rip (cPre g [.ref (g.1 144), .int n] M P) (cQi g (fun r M' P' => FrK P M M' ∧ M' 147 = M 147 ∧ KpQ s M P r M' P' ∧ ∃ Y, LvX (M (P 0)) Y N K ∧ ripQ eC Y N n r (M' (P 1)))) 0 0 (gA g) := by
  refine met_i (cc := cX5_rip) (maxL := 2) (by decide) rfl ⟨rfl, rfl⟩ (Nat.le_of_ble_eq_true rfl) (fun x hx h hret => ?_)
  replace h : Cxk x g cX5_rip 2 wsX5_rip RX5 rmX5_rip := h
  show X x 0 [(0, .ref (g.1 144)), (1, .int n)] [] M P
  refine x_aload_n h 0 dX5_rip_0 rfl rfl ?_
  refine x_aload_n h 0 dX5_rip_1 rfl rfl ?_
  refine x_callVr h (As := []) 0 hx (c_X5_freshTrial hP hI) gX5_rip_X5_freshTrial rfl ⟨rfl, rfl⟩ (by decide +kernel) rfl (by decide) (by decide) E_144 rfl rfl (Nat.le_of_ble_eq_true rfl) dX5_rip_2 (fun q M2 P' hp => ?_)
  obtain ⟨rfl, rfl, ha2, hl2⟩ := hp
  have hI2 := InvC_lv hI hl2
  have hG2 := hI2.1.1
  refine x_iload_n h 1 dX5_rip_5 rfl rfl ?_
  refine x_callV h (As := [.int n]) 1 hx (c_X0_ripNet (hP.1 1 (by decide)) hG2.1 hG2.2.1) gX5_rip_X0_ripNet rfl ⟨rfl, rfl⟩ (by decide +kernel) rfl (by decide) (hk_chip (hP.1 1 (by decide))) (E_chip (hP.1 1 (by decide))) rfl rfl (Nat.le_of_ble_eq_true rfl) dX5_rip_6 (fun a3 M3 P' hp => ?_)
  obtain ⟨rfl, X3, hQ3, hM3⟩ := hp
  have hF3 := FrC_up hM3
  rw [show X3 = M3 (P 1) by rw [hM3, va_up_k]] at hQ3
  have hs3 : M3 144 6 = nI s := by rw [hF3 144 (by have := hP.1 1 (by decide); omega) (by omega), ha2 144 (by have := hP.1 1 (by decide); omega)]; exact hs
  refine x_callV h (As := [.int a3]) 1 hx (c_X5_keepTrial hP hs3 hs4) gX5_rip_X5_keepTrial rfl ⟨rfl, rfl⟩ (by decide +kernel) rfl (by decide) (by decide) E_144 rfl rfl (Nat.le_of_ble_eq_true rfl) dX5_rip_9 (fun a4 M4 P4 hp => ?_)
  obtain ⟨k1, k2, k3, k4, k5⟩ := kp_mk hP ha2 hF3 hs hp
  exact hret _ _ _ _ _ dX5_rip_12 (by 
          refine ⟨k1, ?_, k2, M2 (P 1), hl2, ?_⟩
          · rcases hp with ⟨-, ⟨-, -, e⟩ | ⟨-, -, e⟩⟩ <;> rw [e] <;> (try rw [st2_n _ _ _ (by decide)]) <;> rw [hF3 147 (by have := hP.1 1 (by decide); omega) (by omega), ha2 147 (by have := hP.1 1 (by decide); omega)]
          · rw [k3, k4]; exact hQ3)

set_option maxRecDepth 20000 in
theorem ggX5_appeal_X5_freshTrial : GoodIn wsX5_appeal wsX5_freshTrial := goodIn_r _ [5, 6, 7, 8, 9, 10, 11, 12, 13, 14, 15, 16, 17, 18, 19, 20, 21, 22, 23, 24, 25, 26, 27, 28, 29, 30, 31, 32, 33, 34, 35, 36, 37, 38, 39, 40, 41, 42, 43, 44, 45, 46, 47, 48, 49, 50, 77, 78, 79, 80, 81, 82, 83, 84, 85, 86, 87, 88, 89, 90, 91, 92, 93, 94, 95, 96, 97, 98, 99, 100, 101, 102, 103, 104, 105, 106, 107] (by decide +kernel) (by decide +kernel)
set_option maxRecDepth 20000 in
theorem gX5_appeal_X5_freshTrial : GoodIn wsX5_appeal (wsV RX5 45 RX5 yX5_freshTrial wsX5_freshTrial) := goodIn_app (goodIn_of _ (by decide +kernel)) ggX5_appeal_X5_freshTrial
set_option maxRecDepth 20000 in
theorem ggX5_appeal_X0_appealClaim : GoodIn wsX5_appeal wsX0_appealClaim := goodIn_r _ [54, 55, 23, 56, 24, 57, 13, 58, 59, 60, 61, 11, 62, 22, 63, 64, 65, 66, 84, 85, 86, 87, 88, 89, 90, 91, 101, 102, 103, 104, 105, 106, 107] (by decide +kernel) (by decide +kernel)
set_option maxRecDepth 20000 in
theorem gX5_appeal_X0_appealClaim : GoodIn wsX5_appeal (wsV RX5 92 RX0 yX0_appealClaim wsX0_appealClaim) := goodIn_app (goodIn_of _ (by decide +kernel)) ggX5_appeal_X0_appealClaim
set_option maxRecDepth 20000 in
theorem ggX5_appeal_X5_keepTrial : GoodIn wsX5_appeal wsX5_keepTrial := goodIn_r _ [70, 71, 7, 6, 72, 73, 74, 75, 76, 77, 78, 79, 80, 81, 82, 83] (by decide +kernel) (by decide +kernel)
set_option maxRecDepth 20000 in
theorem gX5_appeal_X5_keepTrial : GoodIn wsX5_appeal (wsV RX5 53 RX5 yX5_keepTrial wsX5_keepTrial) := goodIn_app (goodIn_of _ (by decide +kernel)) ggX5_appeal_X5_keepTrial
theorem dX5_appeal_0 : decode cX5_appeal 0 = .ok (.aload_n 0, 1) := by decide +kernel
theorem dX5_appeal_1 : decode cX5_appeal 1 = .ok (.aload_n 0, 1) := by decide +kernel
theorem dX5_appeal_2 : decode cX5_appeal 2 = .ok (.invokevirtual 45, 3) := by decide +kernel
theorem dX5_appeal_5 : decode cX5_appeal 5 = .ok (.iload_n 1, 1) := by decide +kernel
theorem dX5_appeal_6 : decode cX5_appeal 6 = .ok (.invokevirtual 92, 3) := by decide +kernel
theorem dX5_appeal_9 : decode cX5_appeal 9 = .ok (.invokevirtual 53, 3) := by decide +kernel
theorem dX5_appeal_12 : decode cX5_appeal 12 = .ok (.ireturn, 1) := by decide +kernel
abbrev rmX5_appeal : Room := { frames := 3, cells := 0, slots := 0, locals := 82 }

set_option maxRecDepth 100000 in
set_option maxHeartbeats 4000000 in
theorem c_X5_appeal {l : Launch} {g : Geo} {M : Nat → Nat → Int32} {P : Nat → Nat} (hP : StP P) {N K B : Nat} (hI : InvC (M (P 0)) N K B) {s : Nat} (hs : M 144 6 = nI s) (hs4 : s ≤ 4) {n : Int32} : Met l yX5_appeal wsX5_appeal rmX5_appeal (cPre g [.ref (g.1 144), .int n] M P) (cQi g (fun r M' P' => FrK P M M' ∧ M' 147 = M 147 ∧ KpQ s M P r M' P' ∧ ∃ Y, LvX (M (P 0)) Y N K ∧ applQ Y K n r (M' (P 1)))) 0 0 (gA g) := by
  refine met_i (cc := cX5_appeal) (maxL := 2) (by decide) rfl ⟨rfl, rfl⟩ (Nat.le_of_ble_eq_true rfl) (fun x hx h hret => ?_)
  replace h : Cxk x g cX5_appeal 2 wsX5_appeal RX5 rmX5_appeal := h
  show X x 0 [(0, .ref (g.1 144)), (1, .int n)] [] M P
  refine x_aload_n h 0 dX5_appeal_0 rfl rfl ?_
  refine x_aload_n h 0 dX5_appeal_1 rfl rfl ?_
  refine x_callVr h (As := []) 0 hx (c_X5_freshTrial hP hI) gX5_appeal_X5_freshTrial rfl ⟨rfl, rfl⟩ (by decide +kernel) rfl (by decide) (by decide) E_144 rfl rfl (Nat.le_of_ble_eq_true rfl) dX5_appeal_2 (fun q M2 P' hp => ?_)
  obtain ⟨rfl, rfl, ha2, hl2⟩ := hp
  have hI2 := InvC_lv hI hl2
  have hG2 := hI2.1.1
  refine x_iload_n h 1 dX5_appeal_5 rfl rfl ?_
  refine x_callV h (As := [.int n]) 1 hx (c_X0_appealClaim (hP.1 1 (by decide)) hG2.2.2.1 hG2.2.2.2.1) gX5_appeal_X0_appealClaim rfl ⟨rfl, rfl⟩ (by decide +kernel) rfl (by decide) (hk_chip (hP.1 1 (by decide))) (E_chip (hP.1 1 (by decide))) rfl rfl (Nat.le_of_ble_eq_true rfl) dX5_appeal_6 (fun a3 M3 P' hp => ?_)
  obtain ⟨rfl, X3, hQ3, hM3⟩ := hp
  have hF3 := FrC_up hM3
  rw [show X3 = M3 (P 1) by rw [hM3, va_up_k]] at hQ3
  have hs3 : M3 144 6 = nI s := by rw [hF3 144 (by have := hP.1 1 (by decide); omega) (by omega), ha2 144 (by have := hP.1 1 (by decide); omega)]; exact hs
  refine x_callV h (As := [.int a3]) 1 hx (c_X5_keepTrial hP hs3 hs4) gX5_appeal_X5_keepTrial rfl ⟨rfl, rfl⟩ (by decide +kernel) rfl (by decide) (by decide) E_144 rfl rfl (Nat.le_of_ble_eq_true rfl) dX5_appeal_9 (fun a4 M4 P4 hp => ?_)
  obtain ⟨k1, k2, k3, k4, k5⟩ := kp_mk hP ha2 hF3 hs hp
  exact hret _ _ _ _ _ dX5_appeal_12 (by 
          refine ⟨k1, ?_, k2, M2 (P 1), hl2, ?_⟩
          · rcases hp with ⟨-, ⟨-, -, e⟩ | ⟨-, -, e⟩⟩ <;> rw [e] <;> (try rw [st2_n _ _ _ (by decide)]) <;> rw [hF3 147 (by have := hP.1 1 (by decide); omega) (by omega), ha2 147 (by have := hP.1 1 (by decide); omega)]
          · rw [k3, k4]; exact hQ3)

set_option maxRecDepth 20000 in
theorem ggX5_hear_X5_freshTrial : GoodIn wsX5_hear wsX5_freshTrial := goodIn_r _ [5, 6, 7, 8, 9, 10, 11, 12, 13, 14, 15, 16, 17, 18, 19, 20, 21, 22, 23, 24, 25, 26, 27, 28, 29, 30, 31, 32, 33, 34, 35, 36, 37, 38, 39, 40, 41, 42, 43, 44, 45, 46, 47, 48, 49, 50, 118, 119, 120, 121, 122, 123, 124, 125, 126, 127, 128, 129, 130, 131, 132, 133, 134, 135, 136, 137, 138, 139, 140, 141, 142, 143, 144, 145, 146, 147, 148] (by decide +kernel) (by decide +kernel)
set_option maxRecDepth 20000 in
theorem gX5_hear_X5_freshTrial : GoodIn wsX5_hear (wsV RX5 45 RX5 yX5_freshTrial wsX5_freshTrial) := goodIn_app (goodIn_of _ (by decide +kernel)) ggX5_hear_X5_freshTrial
set_option maxRecDepth 20000 in
theorem ggX5_hear_X0_hearFirst : GoodIn wsX5_hear wsX0_hearFirst := goodIn_r _ [54, 55, 23, 56, 57, 21, 58, 59, 60, 61, 62, 63, 64, 65, 66, 67, 24, 68, 69, 70, 11, 71, 22, 72, 73, 74, 75, 76, 77, 78, 79, 13, 80, 81, 82, 83, 84, 85, 86, 87, 88, 89, 20, 90, 91, 92, 28, 93, 34, 37, 94, 95, 96, 97, 38, 98, 99, 100, 101, 18, 102, 103, 104, 105, 106, 19, 107, 108, 109, 110, 125, 126, 127, 128, 129, 130, 131, 132, 142, 143, 144, 145, 146, 147, 148, 133, 134, 135, 136, 137, 138, 139, 140, 141] (by decide +kernel) (by decide +kernel)
set_option maxRecDepth 20000 in
theorem gX5_hear_X0_hearFirst : GoodIn wsX5_hear (wsV RX5 95 RX0 yX0_hearFirst wsX0_hearFirst) := goodIn_app (goodIn_of _ (by decide +kernel)) ggX5_hear_X0_hearFirst
set_option maxRecDepth 20000 in
theorem ggX5_hear_X5_keepTrial : GoodIn wsX5_hear wsX5_keepTrial := goodIn_r _ [114, 115, 7, 6, 116, 117, 61, 62, 63, 118, 119, 120, 121, 122, 123, 124] (by decide +kernel) (by decide +kernel)
set_option maxRecDepth 20000 in
theorem gX5_hear_X5_keepTrial : GoodIn wsX5_hear (wsV RX5 53 RX5 yX5_keepTrial wsX5_keepTrial) := goodIn_app (goodIn_of _ (by decide +kernel)) ggX5_hear_X5_keepTrial
theorem dX5_hear_0 : decode cX5_hear 0 = .ok (.aload_n 0, 1) := by decide +kernel
theorem dX5_hear_1 : decode cX5_hear 1 = .ok (.aload_n 0, 1) := by decide +kernel
theorem dX5_hear_2 : decode cX5_hear 2 = .ok (.invokevirtual 45, 3) := by decide +kernel
theorem dX5_hear_5 : decode cX5_hear 5 = .ok (.invokevirtual 95, 3) := by decide +kernel
theorem dX5_hear_8 : decode cX5_hear 8 = .ok (.invokevirtual 53, 3) := by decide +kernel
theorem dX5_hear_11 : decode cX5_hear 11 = .ok (.ireturn, 1) := by decide +kernel
abbrev rmX5_hear : Room := { frames := 4, cells := 0, slots := 0, locals := 94 }

set_option maxRecDepth 100000 in
set_option maxHeartbeats 4000000 in
theorem c_X5_hear {l : Launch} {g : Geo} {M : Nat → Nat → Int32} {P : Nat → Nat} (hP : StP P) {N K B : Nat} (hI : InvC (M (P 0)) N K B) {s : Nat} (hs : M 144 6 = nI s) (hs4 : s ≤ 4) : Met l yX5_hear wsX5_hear rmX5_hear (cPre g [.ref (g.1 144)] M P) (cQi g (fun r M' P' => FrK P M M' ∧ M' 147 = M 147 ∧ KpQ s M P r M' P' ∧ ∃ Y, LvX (M (P 0)) Y N K ∧ hearQ bC eC Y N K r (M' (P 1)))) 0 0 (gA g) := by
  refine met_i (cc := cX5_hear) (maxL := 1) (by decide) rfl ⟨rfl, rfl⟩ (Nat.le_of_ble_eq_true rfl) (fun x hx h hret => ?_)
  replace h : Cxk x g cX5_hear 1 wsX5_hear RX5 rmX5_hear := h
  show X x 0 [(0, .ref (g.1 144))] [] M P
  refine x_aload_n h 0 dX5_hear_0 rfl rfl ?_
  refine x_aload_n h 0 dX5_hear_1 rfl rfl ?_
  refine x_callVr h (As := []) 0 hx (c_X5_freshTrial hP hI) gX5_hear_X5_freshTrial rfl ⟨rfl, rfl⟩ (by decide +kernel) rfl (by decide) (by decide) E_144 rfl rfl (Nat.le_of_ble_eq_true rfl) dX5_hear_2 (fun q M2 P' hp => ?_)
  obtain ⟨rfl, rfl, ha2, hl2⟩ := hp
  have hI2 := InvC_lv hI hl2
  have hG2 := hI2.1.1
  refine x_callV h (As := []) 0 hx (c_X0_hearFirst (hP.1 1 (by decide)) hG2) gX5_hear_X0_hearFirst rfl ⟨rfl, rfl⟩ (by decide +kernel) rfl (by decide) (hk_chip (hP.1 1 (by decide))) (E_chip (hP.1 1 (by decide))) rfl rfl (Nat.le_of_ble_eq_true rfl) dX5_hear_5 (fun a3 M3 P' hp => ?_)
  obtain ⟨rfl, hF3, hQ3⟩ := hp
  have hs3 : M3 144 6 = nI s := by rw [hF3 144 (by have := hP.1 1 (by decide); omega) (by omega), ha2 144 (by have := hP.1 1 (by decide); omega)]; exact hs
  refine x_callV h (As := [.int a3]) 1 hx (c_X5_keepTrial hP hs3 hs4) gX5_hear_X5_keepTrial rfl ⟨rfl, rfl⟩ (by decide +kernel) rfl (by decide) (by decide) E_144 rfl rfl (Nat.le_of_ble_eq_true rfl) dX5_hear_8 (fun a4 M4 P4 hp => ?_)
  obtain ⟨k1, k2, k3, k4, k5⟩ := kp_mk hP ha2 hF3 hs hp
  exact hret _ _ _ _ _ dX5_hear_11 (by 
          refine ⟨k1, ?_, k2, M2 (P 1), hl2, ?_⟩
          · rcases hp with ⟨-, ⟨-, -, e⟩ | ⟨-, -, e⟩⟩ <;> rw [e] <;> (try rw [st2_n _ _ _ (by decide)]) <;> rw [hF3 147 (by have := hP.1 1 (by decide); omega) (by omega), ha2 147 (by have := hP.1 1 (by decide); omega)]
          · rw [k3, k4]; exact hQ3)

set_option maxRecDepth 20000 in
theorem ggX5_pass_X5_freshTrial : GoodIn wsX5_pass wsX5_freshTrial := goodIn_r _ [5, 6, 7, 8, 9, 10, 11, 12, 13, 14, 15, 16, 17, 18, 19, 20, 21, 22, 23, 24, 25, 26, 27, 28, 29, 30, 31, 32, 33, 34, 35, 36, 37, 38, 39, 40, 41, 42, 43, 44, 45, 46, 47, 48, 49, 50, 68, 69, 70, 71, 72, 73, 74, 75, 76, 77, 78, 79, 80, 81, 82, 83, 84, 85, 86, 87, 88, 89, 90, 91, 92, 93, 94, 95, 96, 97, 98] (by decide +kernel) (by decide +kernel)
set_option maxRecDepth 20000 in
theorem gX5_pass_X5_freshTrial : GoodIn wsX5_pass (wsV RX5 45 RX5 yX5_freshTrial wsX5_freshTrial) := goodIn_app (goodIn_of _ (by decide +kernel)) ggX5_pass_X5_freshTrial
set_option maxRecDepth 20000 in
theorem ggX5_pass_X0_letPass : GoodIn wsX5_pass wsX0_letPass := goodIn_r _ [54, 55, 24, 56, 57, 75, 76, 77, 78, 79, 80, 81, 82] (by decide +kernel) (by decide +kernel)
set_option maxRecDepth 20000 in
theorem gX5_pass_X0_letPass : GoodIn wsX5_pass (wsV RX5 99 RX0 yX0_letPass wsX0_letPass) := goodIn_app (goodIn_of _ (by decide +kernel)) ggX5_pass_X0_letPass
set_option maxRecDepth 20000 in
theorem ggX5_pass_X5_keepTrial : GoodIn wsX5_pass wsX5_keepTrial := goodIn_r _ [61, 62, 7, 6, 63, 64, 65, 66, 67, 68, 69, 70, 71, 72, 73, 74] (by decide +kernel) (by decide +kernel)
set_option maxRecDepth 20000 in
theorem gX5_pass_X5_keepTrial : GoodIn wsX5_pass (wsV RX5 53 RX5 yX5_keepTrial wsX5_keepTrial) := goodIn_app (goodIn_of _ (by decide +kernel)) ggX5_pass_X5_keepTrial
theorem dX5_pass_0 : decode cX5_pass 0 = .ok (.aload_n 0, 1) := by decide +kernel
theorem dX5_pass_1 : decode cX5_pass 1 = .ok (.aload_n 0, 1) := by decide +kernel
theorem dX5_pass_2 : decode cX5_pass 2 = .ok (.invokevirtual 45, 3) := by decide +kernel
theorem dX5_pass_5 : decode cX5_pass 5 = .ok (.iload_n 1, 1) := by decide +kernel
theorem dX5_pass_6 : decode cX5_pass 6 = .ok (.invokevirtual 99, 3) := by decide +kernel
theorem dX5_pass_9 : decode cX5_pass 9 = .ok (.invokevirtual 53, 3) := by decide +kernel
theorem dX5_pass_12 : decode cX5_pass 12 = .ok (.ireturn, 1) := by decide +kernel
abbrev rmX5_pass : Room := { frames := 3, cells := 0, slots := 0, locals := 82 }

set_option maxRecDepth 100000 in
set_option maxHeartbeats 4000000 in
theorem c_X5_pass {l : Launch} {g : Geo} {M : Nat → Nat → Int32} {P : Nat → Nat} (hP : StP P) {N K B : Nat} (hI : InvC (M (P 0)) N K B) {s : Nat} (hs : M 144 6 = nI s) (hs4 : s ≤ 4) {a : Int32} : Met l yX5_pass wsX5_pass rmX5_pass (cPre g [.ref (g.1 144), .int a] M P) (cQi g (fun r M' P' => FrK P M M' ∧ M' 147 = M 147 ∧ KpQ s M P r M' P' ∧ ∃ Y, LvX (M (P 0)) Y N K ∧ passQ Y a r (M' (P 1)))) 0 0 (gA g) := by
  refine met_i (cc := cX5_pass) (maxL := 2) (by decide) rfl ⟨rfl, rfl⟩ (Nat.le_of_ble_eq_true rfl) (fun x hx h hret => ?_)
  replace h : Cxk x g cX5_pass 2 wsX5_pass RX5 rmX5_pass := h
  show X x 0 [(0, .ref (g.1 144)), (1, .int a)] [] M P
  refine x_aload_n h 0 dX5_pass_0 rfl rfl ?_
  refine x_aload_n h 0 dX5_pass_1 rfl rfl ?_
  refine x_callVr h (As := []) 0 hx (c_X5_freshTrial hP hI) gX5_pass_X5_freshTrial rfl ⟨rfl, rfl⟩ (by decide +kernel) rfl (by decide) (by decide) E_144 rfl rfl (Nat.le_of_ble_eq_true rfl) dX5_pass_2 (fun q M2 P' hp => ?_)
  obtain ⟨rfl, rfl, ha2, hl2⟩ := hp
  have hI2 := InvC_lv hI hl2
  have hG2 := hI2.1.1
  refine x_iload_n h 1 dX5_pass_5 rfl rfl ?_
  refine x_callV h (As := [.int a]) 1 hx (c_X0_letPass (hP.1 1 (by decide))) gX5_pass_X0_letPass rfl ⟨rfl, rfl⟩ (by decide +kernel) rfl (by decide) (hk_chip (hP.1 1 (by decide))) (E_chip (hP.1 1 (by decide))) rfl rfl (Nat.le_of_ble_eq_true rfl) dX5_pass_6 (fun a3 M3 P' hp => ?_)
  obtain ⟨rfl, X3, hQ3, hM3⟩ := hp
  have hF3 := FrC_up hM3
  rw [show X3 = M3 (P 1) by rw [hM3, va_up_k]] at hQ3
  have hs3 : M3 144 6 = nI s := by rw [hF3 144 (by have := hP.1 1 (by decide); omega) (by omega), ha2 144 (by have := hP.1 1 (by decide); omega)]; exact hs
  refine x_callV h (As := [.int a3]) 1 hx (c_X5_keepTrial hP hs3 hs4) gX5_pass_X5_keepTrial rfl ⟨rfl, rfl⟩ (by decide +kernel) rfl (by decide) (by decide) E_144 rfl rfl (Nat.le_of_ble_eq_true rfl) dX5_pass_9 (fun a4 M4 P4 hp => ?_)
  obtain ⟨k1, k2, k3, k4, k5⟩ := kp_mk hP ha2 hF3 hs hp
  exact hret _ _ _ _ _ dX5_pass_12 (by 
          refine ⟨k1, ?_, k2, M2 (P 1), hl2, ?_⟩
          · rcases hp with ⟨-, ⟨-, -, e⟩ | ⟨-, -, e⟩⟩ <;> rw [e] <;> (try rw [st2_n _ _ _ (by decide)]) <;> rw [hF3 147 (by have := hP.1 1 (by decide); omega) (by omega), ha2 147 (by have := hP.1 1 (by decide); omega)]
          · rw [k3, k4]; exact hQ3)

set_option maxRecDepth 100000 in
set_option maxHeartbeats 4000000 in
theorem c_X3_cellAtG {l : Launch} {g : Geo} {M : Nat → Nat → Int32} {P : Nat → Nat} {L : List Nat} {acc : Acc} {i : Nat} (hR : RtM M L acc) (hL : L.length ≤ 324) (hi : i < 2 ^ 31) : Met l yX3_cellAt wsX3_cellAt rmX3_cellAt (cPre g [.ref (g.1 149), .int (nI i)] M P) (cQi g (fun r M' P' => (P = P' ∧ M = M') ∧ r = atL L i)) 0 0 (gA g) := by
  refine met_i (cc := cX3_cellAt) (maxL := 2) (by decide) rfl ⟨rfl, rfl⟩ (Nat.le_of_ble_eq_true rfl) (fun x hx h hret => ?_)
  replace h : Cxk x g cX3_cellAt 2 wsX3_cellAt RX3 rmX3_cellAt := h
  show X x 0 [(0, .ref (g.1 149)), (1, .int (nI i))] [] M P
  refine x_iload_n h 1 dX3_cellAt_0 rfl rfl ?_
  refine x_if_lt_n h 30 dX3_cellAt_1 (by decide) (by omega) ?_
  refine x_iload_n h 1 dX3_cellAt_4 rfl rfl ?_
  refine x_aload_n h 0 dX3_cellAt_5 rfl rfl ?_
  refine xg_X3_11 h in_X3_cellAt_X3 (by decide +kernel) dX3_cellAt_6 ?_
  refine x_top (nI L.length) (hR.1) ?_
  refine x_icmp_ge_n h 30 dX3_cellAt_9 (by decide) (by omega) (by omega) (fun c_9 => ?_) (fun c_9 => ?_)
  · -- 9 true
    refine x_ldc h ((-1000004)) (by decide +kernel) dX3_cellAt_30 ?_
    exact hret _ _ _ _ _ dX3_cellAt_32 (by refine ⟨⟨rfl, rfl⟩, ?_⟩; unfold atL; rw [if_neg (by omega)])
  · -- 9 false
    refine x_iload_n h 1 dX3_cellAt_12 rfl rfl ?_
    refine x_aload_n h 0 dX3_cellAt_13 rfl rfl ?_
    refine xg_X3_9 h in_X3_cellAt_X3 (by decide +kernel) dX3_cellAt_14 ?_
    refine xn_156 h dX3_cellAt_17 ?_
    refine x_icmp_ge_n h 30 dX3_cellAt_18 (by decide) (by omega) (by decide) (fun c_18 => by omega) (fun c_18 => ?_)
    refine x_aload_n h 0 dX3_cellAt_21 rfl rfl ?_
    refine xg_X3_9 h in_X3_cellAt_X3 (by decide +kernel) dX3_cellAt_22 ?_
    refine x_iload_n h 1 dX3_cellAt_25 rfl rfl ?_
    refine xl_156 h dX3_cellAt_26 (by omega) ?_
    refine x_top (nI (L.getD i 0)) (hR.2.1 i (by omega)) ?_
    refine x_goto h 32 dX3_cellAt_27 (by decide) ?_
    exact hret _ _ _ _ _ dX3_cellAt_32 (by refine ⟨⟨rfl, rfl⟩, ?_⟩; unfold atL; rw [if_pos (by omega)])

set_option maxRecDepth 20000 in
theorem ggX5_netOf_X0_factOfNet : GoodIn wsX5_netOf wsX0_factOfNet := goodIn_r _ [6, 7, 8, 9, 10, 11, 12, 13, 14, 15, 16, 17, 18, 19, 20, 21, 5, 22, 23, 24, 25, 26, 27, 28, 29, 30, 31, 32, 40, 41, 42, 43, 44, 45, 46, 47, 48, 49, 50, 51, 52, 53, 54, 55, 56] (by decide +kernel) (by decide +kernel)
set_option maxRecDepth 20000 in
theorem gX5_netOf_X0_factOfNet : GoodIn wsX5_netOf (wsV RX5 67 RX0 yX0_factOfNet wsX0_factOfNet) := goodIn_app (goodIn_of _ (by decide +kernel)) ggX5_netOf_X0_factOfNet
theorem dX5_netOf_0 : decode cX5_netOf 0 = .ok (.aload_n 0, 1) := by decide +kernel
theorem dX5_netOf_1 : decode cX5_netOf 1 = .ok (.getfield 34, 3) := by decide +kernel
theorem dX5_netOf_4 : decode cX5_netOf 4 = .ok (.iload_n 1, 1) := by decide +kernel
theorem dX5_netOf_5 : decode cX5_netOf 5 = .ok (.iload_n 2, 1) := by decide +kernel
theorem dX5_netOf_6 : decode cX5_netOf 6 = .ok (.invokevirtual 67, 3) := by decide +kernel
theorem dX5_netOf_9 : decode cX5_netOf 9 = .ok (.ireturn, 1) := by decide +kernel
abbrev rmX5_netOf : Room := { frames := 2, cells := 0, slots := 0, locals := 46 }
set_option maxRecDepth 20000 in
theorem in_X5_netOf_X5 : ∀ w ∈ wsX50, w ∈ wsX5_netOf := by decide +kernel

set_option maxRecDepth 100000 in
set_option maxHeartbeats 4000000 in
theorem c_X5_netOf {l : Launch} {g : Geo} {M : Nat → Nat → Int32} {P : Nat → Nat} (hP : StP P) {N K B : Nat} (hI : InvC (M (P 0)) N K B) {n w : Int32} : Met l yX5_netOf wsX5_netOf rmX5_netOf (cPre g [.ref (g.1 144), .int n, .int w] M P) (cQi g (fun r M' P' => (P = P' ∧ M = M') ∧ ((¬ (InR N n ∧ InR 11 w) ∧ r = -1000001) ∨ ∃ k j, k < N ∧ n = nI k ∧ j < 11 ∧ w = nI j ∧ r = fNet eC (M (P 0)) k j))) 0 0 (gA g) := by
  refine met_i (cc := cX5_netOf) (maxL := 3) (by decide) rfl ⟨rfl, rfl⟩ (Nat.le_of_ble_eq_true rfl) (fun x hx h hret => ?_)
  replace h : Cxk x g cX5_netOf 3 wsX5_netOf RX5 rmX5_netOf := h
  show X x 0 [(0, .ref (g.1 144)), (1, .int n), (2, .int w)] [] M P
  refine x_aload_n h 0 dX5_netOf_0 rfl rfl ?_
  refine xg_X5_4 h in_X5_netOf_X5 (by decide +kernel) dX5_netOf_1 ?_
  refine x_iload_n h 1 dX5_netOf_4 rfl rfl ?_
  refine x_iload_n h 2 dX5_netOf_5 rfl rfl ?_
  refine x_callV h (As := [.int n, .int w]) 2 hx (c_X0_factOfNet (hP.1 0 (by decide)) hI.1.1.1 hI.1.1.2.1) gX5_netOf_X0_factOfNet rfl ⟨rfl, rfl⟩ (by decide +kernel) rfl (by decide) (hk_chip (hP.1 0 (by decide))) (E_chip (hP.1 0 (by decide))) rfl rfl (Nat.le_of_ble_eq_true rfl) dX5_netOf_6 (fun rv M' P' hp => ?_)
  obtain ⟨⟨rfl, rfl⟩, hQ⟩ := hp
  exact hret _ _ _ _ _ dX5_netOf_9 (by exact ⟨⟨rfl, rfl⟩, hQ⟩)

set_option maxRecDepth 20000 in
theorem ggX5_claimOf_X0_factOfClaim : GoodIn wsX5_claimOf wsX0_factOfClaim := goodIn_r _ [6, 7, 8, 9, 10, 11, 12, 13, 14, 15, 16, 17, 18, 19, 5, 20, 21, 22, 23, 24, 25, 26, 34, 35, 36, 37, 38, 39, 40, 41, 42, 43, 44, 45, 46, 47, 48] (by decide +kernel) (by decide +kernel)
set_option maxRecDepth 20000 in
theorem gX5_claimOf_X0_factOfClaim : GoodIn wsX5_claimOf (wsV RX5 126 RX0 yX0_factOfClaim wsX0_factOfClaim) := goodIn_app (goodIn_of _ (by decide +kernel)) ggX5_claimOf_X0_factOfClaim
theorem dX5_claimOf_0 : decode cX5_claimOf 0 = .ok (.aload_n 0, 1) := by decide +kernel
theorem dX5_claimOf_1 : decode cX5_claimOf 1 = .ok (.getfield 34, 3) := by decide +kernel
theorem dX5_claimOf_4 : decode cX5_claimOf 4 = .ok (.iload_n 1, 1) := by decide +kernel
theorem dX5_claimOf_5 : decode cX5_claimOf 5 = .ok (.iload_n 2, 1) := by decide +kernel
theorem dX5_claimOf_6 : decode cX5_claimOf 6 = .ok (.invokevirtual 126, 3) := by decide +kernel
theorem dX5_claimOf_9 : decode cX5_claimOf 9 = .ok (.ireturn, 1) := by decide +kernel
abbrev rmX5_claimOf : Room := { frames := 2, cells := 0, slots := 0, locals := 44 }
set_option maxRecDepth 20000 in
theorem in_X5_claimOf_X5 : ∀ w ∈ wsX50, w ∈ wsX5_claimOf := by decide +kernel

set_option maxRecDepth 100000 in
set_option maxHeartbeats 4000000 in
theorem c_X5_claimOf {l : Launch} {g : Geo} {M : Nat → Nat → Int32} {P : Nat → Nat} (hP : StP P) {N K B : Nat} (hI : InvC (M (P 0)) N K B) {n w : Int32} : Met l yX5_claimOf wsX5_claimOf rmX5_claimOf (cPre g [.ref (g.1 144), .int n, .int w] M P) (cQi g (fun r M' P' => (P = P' ∧ M = M') ∧ ((¬ (InR K n ∧ InR 8 w) ∧ r = -1000001) ∨ ∃ i j, i < K ∧ n = nI i ∧ j < 8 ∧ w = nI j ∧ r = fClm (M (P 0)) i j))) 0 0 (gA g) := by
  refine met_i (cc := cX5_claimOf) (maxL := 3) (by decide) rfl ⟨rfl, rfl⟩ (Nat.le_of_ble_eq_true rfl) (fun x hx h hret => ?_)
  replace h : Cxk x g cX5_claimOf 3 wsX5_claimOf RX5 rmX5_claimOf := h
  show X x 0 [(0, .ref (g.1 144)), (1, .int n), (2, .int w)] [] M P
  refine x_aload_n h 0 dX5_claimOf_0 rfl rfl ?_
  refine xg_X5_4 h in_X5_claimOf_X5 (by decide +kernel) dX5_claimOf_1 ?_
  refine x_iload_n h 1 dX5_claimOf_4 rfl rfl ?_
  refine x_iload_n h 2 dX5_claimOf_5 rfl rfl ?_
  refine x_callV h (As := [.int n, .int w]) 2 hx (c_X0_factOfClaim (hP.1 0 (by decide)) hI.1.1.2.2.1 hI.1.1.2.2.2.1) gX5_claimOf_X0_factOfClaim rfl ⟨rfl, rfl⟩ (by decide +kernel) rfl (by decide) (hk_chip (hP.1 0 (by decide))) (E_chip (hP.1 0 (by decide))) rfl rfl (Nat.le_of_ble_eq_true rfl) dX5_claimOf_6 (fun rv M' P' hp => ?_)
  obtain ⟨⟨rfl, rfl⟩, hQ⟩ := hp
  exact hret _ _ _ _ _ dX5_claimOf_9 (by exact ⟨⟨rfl, rfl⟩, hQ⟩)

set_option maxRecDepth 20000 in
theorem ggX5_wronged_X0_wrongedNets : GoodIn wsX5_wronged wsX0_wrongedNets := goodIn_r _ [6, 7, 8, 9, 10, 11, 12, 13, 14, 15, 5, 16, 17, 18, 19, 20, 21, 22, 23, 24, 32, 33, 34, 35, 36, 37, 38, 39, 40, 41, 42, 43, 44, 45, 46, 47, 48, 49, 50, 51, 52, 53, 54, 55] (by decide +kernel) (by decide +kernel)
set_option maxRecDepth 20000 in
theorem gX5_wronged_X0_wrongedNets : GoodIn wsX5_wronged (wsV RX5 132 RX0 yX0_wrongedNets wsX0_wrongedNets) := goodIn_app (goodIn_of _ (by decide +kernel)) ggX5_wronged_X0_wrongedNets
theorem dX5_wronged_0 : decode cX5_wronged 0 = .ok (.aload_n 0, 1) := by decide +kernel
theorem dX5_wronged_1 : decode cX5_wronged 1 = .ok (.getfield 34, 3) := by decide +kernel
theorem dX5_wronged_4 : decode cX5_wronged 4 = .ok (.invokevirtual 132, 3) := by decide +kernel
theorem dX5_wronged_7 : decode cX5_wronged 7 = .ok (.ireturn, 1) := by decide +kernel
abbrev rmX5_wronged : Room := { frames := 2, cells := 0, slots := 0, locals := 45 }
set_option maxRecDepth 20000 in
theorem in_X5_wronged_X5 : ∀ w ∈ wsX50, w ∈ wsX5_wronged := by decide +kernel

set_option maxRecDepth 100000 in
set_option maxHeartbeats 4000000 in
theorem c_X5_wronged {l : Launch} {g : Geo} {M : Nat → Nat → Int32} {P : Nat → Nat} (hP : StP P) {N K B : Nat} (hI : InvC (M (P 0)) N K B) : Met l yX5_wronged wsX5_wronged rmX5_wronged (cPre g [.ref (g.1 144)] M P) (cQi g (fun r M' P' => (P = P' ∧ M = M') ∧ r = wrg (M (P 0)) K)) 0 0 (gA g) := by
  refine met_i (cc := cX5_wronged) (maxL := 1) (by decide) rfl ⟨rfl, rfl⟩ (Nat.le_of_ble_eq_true rfl) (fun x hx h hret => ?_)
  replace h : Cxk x g cX5_wronged 1 wsX5_wronged RX5 rmX5_wronged := h
  show X x 0 [(0, .ref (g.1 144))] [] M P
  refine x_aload_n h 0 dX5_wronged_0 rfl rfl ?_
  refine xg_X5_4 h in_X5_wronged_X5 (by decide +kernel) dX5_wronged_1 ?_
  refine x_callV h (As := []) 0 hx (c_X0_wrongedNets (hP.1 0 (by decide)) hI.1.1.1 hI.1.1.2.1 hI.1.1.2.2.1 hI.1.1.2.2.2.1 (fun i hi => (hI.1.1.2.2.2.2.2.2.2 i hi).1)) gX5_wronged_X0_wrongedNets rfl ⟨rfl, rfl⟩ (by decide +kernel) rfl (by decide) (hk_chip (hP.1 0 (by decide))) (E_chip (hP.1 0 (by decide))) rfl rfl (Nat.le_of_ble_eq_true rfl) dX5_wronged_4 (fun rv M' P' hp => ?_)
  obtain ⟨⟨rfl, rfl⟩, hQ⟩ := hp
  exact hret _ _ _ _ _ dX5_wronged_7 (by exact ⟨⟨rfl, rfl⟩, hQ⟩)

theorem dX5_cellOf_0 : decode cX5_cellOf 0 = .ok (.iload_n 1, 1) := by decide +kernel
theorem dX5_cellOf_1 : decode cX5_cellOf 1 = .ok (.ifCond .lt 10, 3) := by decide +kernel
theorem dX5_cellOf_4 : decode cX5_cellOf 4 = .ok (.iload_n 1, 1) := by decide +kernel
theorem dX5_cellOf_5 : decode cX5_cellOf 5 = .ok (.sipush 162, 3) := by decide +kernel
theorem dX5_cellOf_8 : decode cX5_cellOf 8 = .ok (.if_icmp .lt 6, 3) := by decide +kernel
theorem dX5_cellOf_11 : decode cX5_cellOf 11 = .ok (.ldc 70, 2) := by decide +kernel
theorem dX5_cellOf_13 : decode cX5_cellOf 13 = .ok (.ireturn, 1) := by decide +kernel
theorem dX5_cellOf_14 : decode cX5_cellOf 14 = .ok (.aload_n 0, 1) := by decide +kernel
theorem dX5_cellOf_15 : decode cX5_cellOf 15 = .ok (.getfield 34, 3) := by decide +kernel
theorem dX5_cellOf_18 : decode cX5_cellOf 18 = .ok (.getfield 71, 3) := by decide +kernel
theorem dX5_cellOf_21 : decode cX5_cellOf 21 = .ok (.iload_n 1, 1) := by decide +kernel
theorem dX5_cellOf_22 : decode cX5_cellOf 22 = .ok (.iaload, 1) := by decide +kernel
theorem dX5_cellOf_23 : decode cX5_cellOf 23 = .ok (.istore_n 2, 1) := by decide +kernel
theorem dX5_cellOf_24 : decode cX5_cellOf 24 = .ok (.iload_n 2, 1) := by decide +kernel
theorem dX5_cellOf_25 : decode cX5_cellOf 25 = .ok (.iconst (-1), 1) := by decide +kernel
theorem dX5_cellOf_26 : decode cX5_cellOf 26 = .ok (.if_icmp .ne 8, 3) := by decide +kernel
theorem dX5_cellOf_29 : decode cX5_cellOf 29 = .ok (.ldc 74, 2) := by decide +kernel
theorem dX5_cellOf_31 : decode cX5_cellOf 31 = .ok (.goto 4, 3) := by decide +kernel
theorem dX5_cellOf_34 : decode cX5_cellOf 34 = .ok (.iload_n 2, 1) := by decide +kernel
theorem dX5_cellOf_35 : decode cX5_cellOf 35 = .ok (.ireturn, 1) := by decide +kernel
abbrev rmX5_cellOf : Room := { frames := 0, cells := 0, slots := 0, locals := 0 }
set_option maxRecDepth 20000 in
theorem in_X5_cellOf_X0 : ∀ w ∈ wsX00, w ∈ wsX5_cellOf := by decide +kernel
set_option maxRecDepth 20000 in
theorem in_X5_cellOf_X5 : ∀ w ∈ wsX50, w ∈ wsX5_cellOf := by decide +kernel

set_option maxRecDepth 100000 in
set_option maxHeartbeats 4000000 in
theorem c_X5_cellOf {l : Launch} {g : Geo} {M : Nat → Nat → Int32} {P : Nat → Nat} (hP : StP P) {N K B : Nat} (hI : InvC (M (P 0)) N K B) {a : Int32} : Met l yX5_cellOf wsX5_cellOf rmX5_cellOf (cPre g [.ref (g.1 144), .int a] M P) (cQi g (fun r M' P' => (P = P' ∧ M = M') ∧ ((¬ InR 162 a ∧ r = -1000001) ∨ ∃ j, j < 162 ∧ a = nI j ∧ r = if M (P 0) (7 + j) = -1 then -1000004 else M (P 0) (7 + j)))) 0 0 (gA g) := by
  refine met_i (cc := cX5_cellOf) (maxL := 3) (by decide) rfl ⟨rfl, rfl⟩ (Nat.le_of_ble_eq_true rfl) (fun x hx h hret => ?_)
  replace h : Cxk x g cX5_cellOf 3 wsX5_cellOf RX5 rmX5_cellOf := h
  show X x 0 [(0, .ref (g.1 144)), (1, .int a)] [] M P
  refine x_iload_n h 1 dX5_cellOf_0 rfl rfl ?_
  refine x_if_lt h 11 dX5_cellOf_1 (by decide) (fun c_1 => ?_) (fun c_1 => ?_)
  · -- 1 true
    refine x_ldc h ((-1000001)) (by decide +kernel) dX5_cellOf_11 ?_
    exact hret _ _ _ _ _ dX5_cellOf_13 (by exact ⟨⟨rfl, rfl⟩, Or.inl ⟨by first | exact InR_no1 (by decide) c_1 | exact InR_no2 (by decide) (Int32.not_lt.mp c_8), rfl⟩⟩)
  · -- 1 false
    refine x_iload_n h 1 dX5_cellOf_4 rfl rfl ?_
    refine x_sipush h (nI 162) dX5_cellOf_5 (by decide) ?_
    refine x_icmp_lt h 14 dX5_cellOf_8 (by decide) (fun c_8 => ?_) (fun c_8 => ?_)
    · -- 8 true
      obtain ⟨j, hj, rfl⟩ := InR_of (N := 162) (by decide) c_1 (fun q => absurd c_8 (Int32.not_lt.mpr q))
      refine x_aload_n h 0 dX5_cellOf_14 rfl rfl ?_
      refine xg_X5_4 h in_X5_cellOf_X5 (by decide +kernel) dX5_cellOf_15 ?_
      refine xg_X0_1 h (hP.1 0 (by decide)) in_X5_cellOf_X0 (by decide +kernel) dX5_cellOf_18 ?_
      refine x_iload_n h 1 dX5_cellOf_21 rfl rfl ?_
      refine xl_own h (hP.1 0 (by decide)) dX5_cellOf_22 (by omega) ?_
      refine x_istore_n h [(2, .int (M (P 0) (7 + j))), (0, .ref (g.1 144)), (1, .int (nI j))] dX5_cellOf_23 rfl (by decide) rfl ?_
      refine x_iload_n h 0 dX5_cellOf_24 rfl rfl ?_
      refine x_iconst h ((-1)) dX5_cellOf_25 (by decide) ?_
      refine x_icmp_ne h 34 dX5_cellOf_26 (by decide) (fun c_26 => ?_) (fun c_26 => ?_)
      · -- 26 true
        refine x_iload_n h 0 dX5_cellOf_34 rfl rfl ?_
        exact hret _ _ _ _ _ dX5_cellOf_35 (by exact ⟨⟨rfl, rfl⟩, Or.inr ⟨j, hj, rfl, by first | exact (if_pos c_26).symm | exact (if_neg c_26).symm⟩⟩)
      · -- 26 false
        refine x_ldc h ((-1000004)) (by decide +kernel) dX5_cellOf_29 ?_
        refine x_goto h 35 dX5_cellOf_31 (by decide) ?_
        exact hret _ _ _ _ _ dX5_cellOf_35 (by exact ⟨⟨rfl, rfl⟩, Or.inr ⟨j, hj, rfl, by first | exact (if_pos c_26).symm | exact (if_neg c_26).symm⟩⟩)
    · -- 8 false
      refine x_ldc h ((-1000001)) (by decide +kernel) dX5_cellOf_11 ?_
      exact hret _ _ _ _ _ dX5_cellOf_13 (by exact ⟨⟨rfl, rfl⟩, Or.inl ⟨by first | exact InR_no1 (by decide) c_1 | exact InR_no2 (by decide) (Int32.not_lt.mp c_8), rfl⟩⟩)

set_option maxRecDepth 20000 in
theorem ggX5_wireAt_X0_hasNet : GoodIn wsX5_wireAt wsX0_hasNet := goodIn_r _ [7, 8, 22, 23, 24, 25, 26, 27, 28, 29] (by decide +kernel) (by decide +kernel)
set_option maxRecDepth 20000 in
theorem gX5_wireAt_X0_hasNet : GoodIn wsX5_wireAt (wsV RX5 75 RX0 yX0_hasNet wsX0_hasNet) := goodIn_app (goodIn_of _ (by decide +kernel)) ggX5_wireAt_X0_hasNet
set_option maxRecDepth 20000 in
theorem ggX5_wireAt_X0_cellOfWire : GoodIn wsX5_wireAt wsX0_cellOfWire := goodIn_r _ [12, 13, 14, 22, 23, 24, 25, 26, 27, 28, 29] (by decide +kernel) (by decide +kernel)
set_option maxRecDepth 20000 in
theorem gX5_wireAt_X0_cellOfWire : GoodIn wsX5_wireAt (wsV RX5 79 RX0 yX0_cellOfWire wsX0_cellOfWire) := goodIn_app (goodIn_of _ (by decide +kernel)) ggX5_wireAt_X0_cellOfWire
theorem dX5_wireAt_0 : decode cX5_wireAt 0 = .ok (.aload_n 0, 1) := by decide +kernel
theorem dX5_wireAt_1 : decode cX5_wireAt 1 = .ok (.getfield 34, 3) := by decide +kernel
theorem dX5_wireAt_4 : decode cX5_wireAt 4 = .ok (.iload_n 1, 1) := by decide +kernel
theorem dX5_wireAt_5 : decode cX5_wireAt 5 = .ok (.invokevirtual 75, 3) := by decide +kernel
theorem dX5_wireAt_8 : decode cX5_wireAt 8 = .ok (.ifCond .eq 7, 3) := by decide +kernel
theorem dX5_wireAt_11 : decode cX5_wireAt 11 = .ok (.iload_n 2, 1) := by decide +kernel
theorem dX5_wireAt_12 : decode cX5_wireAt 12 = .ok (.ifCond .ge 6, 3) := by decide +kernel
theorem dX5_wireAt_15 : decode cX5_wireAt 15 = .ok (.ldc 70, 2) := by decide +kernel
theorem dX5_wireAt_17 : decode cX5_wireAt 17 = .ok (.ireturn, 1) := by decide +kernel
theorem dX5_wireAt_18 : decode cX5_wireAt 18 = .ok (.aload_n 0, 1) := by decide +kernel
theorem dX5_wireAt_19 : decode cX5_wireAt 19 = .ok (.getfield 34, 3) := by decide +kernel
theorem dX5_wireAt_22 : decode cX5_wireAt 22 = .ok (.iload_n 1, 1) := by decide +kernel
theorem dX5_wireAt_23 : decode cX5_wireAt 23 = .ok (.iload_n 2, 1) := by decide +kernel
theorem dX5_wireAt_24 : decode cX5_wireAt 24 = .ok (.invokevirtual 79, 3) := by decide +kernel
theorem dX5_wireAt_27 : decode cX5_wireAt 27 = .ok (.ireturn, 1) := by decide +kernel
abbrev rmX5_wireAt : Room := { frames := 1, cells := 0, slots := 0, locals := 24 }
set_option maxRecDepth 20000 in
theorem in_X5_wireAt_X5 : ∀ w ∈ wsX50, w ∈ wsX5_wireAt := by decide +kernel

set_option maxRecDepth 100000 in
set_option maxHeartbeats 4000000 in
theorem c_X5_wireAt {l : Launch} {g : Geo} {M : Nat → Nat → Int32} {P : Nat → Nat} (hP : StP P) {N K B : Nat} (hI : InvC (M (P 0)) N K B) {n a : Int32} : Met l yX5_wireAt wsX5_wireAt rmX5_wireAt (cPre g [.ref (g.1 144), .int n, .int a] M P) (cQi g (fun r M' P' => (P = P' ∧ M = M') ∧ ((¬ (InR N n ∧ ¬ a < 0) ∧ r = -1000001) ∨ ∃ k j, k < N ∧ n = nI k ∧ j < 2 ^ 31 ∧ a = nI j ∧ r = (match fnd (fun a => decide (M (P 0) (7 + a) = nI k ∧ cnt (fun b => decide (M (P 0) (7 + b) = nI k)) a = j)) 162 with | some a => nI a | none => -1000004)))) 0 0 (gA g) := by
  refine met_i (cc := cX5_wireAt) (maxL := 3) (by decide) rfl ⟨rfl, rfl⟩ (Nat.le_of_ble_eq_true rfl) (fun x hx h hret => ?_)
  replace h : Cxk x g cX5_wireAt 3 wsX5_wireAt RX5 rmX5_wireAt := h
  show X x 0 [(0, .ref (g.1 144)), (1, .int n), (2, .int a)] [] M P
  refine x_aload_n h 0 dX5_wireAt_0 rfl rfl ?_
  refine xg_X5_4 h in_X5_wireAt_X5 (by decide +kernel) dX5_wireAt_1 ?_
  refine x_iload_n h 1 dX5_wireAt_4 rfl rfl ?_
  refine x_callV h (As := [.int n]) 1 hx (c_X0_hasNet (hP.1 0 (by decide)) hI.1.1.1 hI.1.1.2.1) gX5_wireAt_X0_hasNet rfl ⟨rfl, rfl⟩ (by decide +kernel) rfl (by decide) (hk_chip (hP.1 0 (by decide))) (E_chip (hP.1 0 (by decide))) rfl rfl (Nat.le_of_ble_eq_true rfl) dX5_wireAt_5 (fun rv M' P' hp => ?_)
  obtain ⟨⟨rfl, rfl⟩, hp⟩ := hp
  rcases hp with ⟨⟨k5, hk5, rfl⟩, rfl⟩ | ⟨nk5, rfl⟩
  · -- call 5
    refine x_if_eq h 15 dX5_wireAt_8 (by decide) (fun c => absurd c (by decide)) (fun _ => ?_)
    refine x_iload_n h 2 dX5_wireAt_11 rfl rfl ?_
    refine x_if_ge h 18 dX5_wireAt_12 (by decide) (fun c_12 => ?_) (fun c_12 => ?_)
    · -- 12 true
      obtain ⟨j, hj, rfl⟩ := nI_of (x := a) (Int32.not_lt.mpr c_12)
      refine x_aload_n h 0 dX5_wireAt_18 rfl rfl ?_
      refine xg_X5_4 h in_X5_wireAt_X5 (by decide +kernel) dX5_wireAt_19 ?_
      refine x_iload_n h 1 dX5_wireAt_22 rfl rfl ?_
      refine x_iload_n h 2 dX5_wireAt_23 rfl rfl ?_
      refine x_callV h (As := [.int (nI k5), .int (nI j)]) 2 hx (c_X0_cellOfWire (hP.1 0 (by decide)) hj) gX5_wireAt_X0_cellOfWire rfl ⟨rfl, rfl⟩ (by decide +kernel) rfl (by decide) (hk_chip (hP.1 0 (by decide))) (E_chip (hP.1 0 (by decide))) rfl rfl (Nat.le_of_ble_eq_true rfl) dX5_wireAt_24 (fun rv M' P' hp => ?_)
      obtain ⟨⟨rfl, rfl⟩, rfl⟩ := hp
      exact hret _ _ _ _ _ dX5_wireAt_27 (by exact ⟨⟨rfl, rfl⟩, Or.inr ⟨k5, j, hk5, rfl, hj, rfl, rfl⟩⟩)
    · -- 12 false
      refine x_ldc h ((-1000001)) (by decide +kernel) dX5_wireAt_15 ?_
      exact hret _ _ _ _ _ dX5_wireAt_17 (by exact ⟨⟨rfl, rfl⟩, Or.inl ⟨fun q => (by first | exact nk5 q.1 | exact absurd (Int32.not_lt.mp q.2) c_12), rfl⟩⟩)
  · -- call 5
    refine x_if_eq h 15 dX5_wireAt_8 (by decide) (fun _ => ?_) (fun c => absurd (by decide) c)
    refine x_ldc h ((-1000001)) (by decide +kernel) dX5_wireAt_15 ?_
    exact hret _ _ _ _ _ dX5_wireAt_17 (by exact ⟨⟨rfl, rfl⟩, Or.inl ⟨fun q => (by first | exact nk5 q.1 | exact absurd (Int32.not_lt.mp q.2) c_12), rfl⟩⟩)

set_option maxRecDepth 20000 in
theorem ggX5_docketAt_X0_appealAt : GoodIn wsX5_docketAt wsX0_appealAt := goodIn_r _ [8, 9, 10, 11, 12, 13, 14, 7, 15, 16, 17, 18, 19, 20, 21, 22, 30, 31, 32, 33, 34, 35, 36, 37, 38, 39, 40, 41, 42, 43, 44] (by decide +kernel) (by decide +kernel)
set_option maxRecDepth 20000 in
theorem gX5_docketAt_X0_appealAt : GoodIn wsX5_docketAt (wsV RX5 129 RX0 yX0_appealAt wsX0_appealAt) := goodIn_app (goodIn_of _ (by decide +kernel)) ggX5_docketAt_X0_appealAt
theorem dX5_docketAt_0 : decode cX5_docketAt 0 = .ok (.iload_n 1, 1) := by decide +kernel
theorem dX5_docketAt_1 : decode cX5_docketAt 1 = .ok (.ifCond .ge 6, 3) := by decide +kernel
theorem dX5_docketAt_4 : decode cX5_docketAt 4 = .ok (.ldc 70, 2) := by decide +kernel
theorem dX5_docketAt_6 : decode cX5_docketAt 6 = .ok (.ireturn, 1) := by decide +kernel
theorem dX5_docketAt_7 : decode cX5_docketAt 7 = .ok (.aload_n 0, 1) := by decide +kernel
theorem dX5_docketAt_8 : decode cX5_docketAt 8 = .ok (.getfield 34, 3) := by decide +kernel
theorem dX5_docketAt_11 : decode cX5_docketAt 11 = .ok (.iload_n 1, 1) := by decide +kernel
theorem dX5_docketAt_12 : decode cX5_docketAt 12 = .ok (.invokevirtual 129, 3) := by decide +kernel
theorem dX5_docketAt_15 : decode cX5_docketAt 15 = .ok (.istore_n 2, 1) := by decide +kernel
theorem dX5_docketAt_16 : decode cX5_docketAt 16 = .ok (.iload_n 2, 1) := by decide +kernel
theorem dX5_docketAt_17 : decode cX5_docketAt 17 = .ok (.iconst (-1), 1) := by decide +kernel
theorem dX5_docketAt_18 : decode cX5_docketAt 18 = .ok (.if_icmp .ne 8, 3) := by decide +kernel
theorem dX5_docketAt_21 : decode cX5_docketAt 21 = .ok (.ldc 74, 2) := by decide +kernel
theorem dX5_docketAt_23 : decode cX5_docketAt 23 = .ok (.goto 4, 3) := by decide +kernel
theorem dX5_docketAt_26 : decode cX5_docketAt 26 = .ok (.iload_n 2, 1) := by decide +kernel
theorem dX5_docketAt_27 : decode cX5_docketAt 27 = .ok (.ireturn, 1) := by decide +kernel
abbrev rmX5_docketAt : Room := { frames := 3, cells := 0, slots := 0, locals := 69 }
set_option maxRecDepth 20000 in
theorem in_X5_docketAt_X5 : ∀ w ∈ wsX50, w ∈ wsX5_docketAt := by decide +kernel

set_option maxRecDepth 100000 in
set_option maxHeartbeats 4000000 in
theorem c_X5_docketAt {l : Launch} {g : Geo} {M : Nat → Nat → Int32} {P : Nat → Nat} (hP : StP P) {N K B : Nat} (hI : InvC (M (P 0)) N K B) {a : Int32} : Met l yX5_docketAt wsX5_docketAt rmX5_docketAt (cPre g [.ref (g.1 144), .int a] M P) (cQi g (fun r M' P' => (P = P' ∧ M = M') ∧ ((a < 0 ∧ r = -1000001) ∨ (¬ a < 0 ∧ r = (match hd1 (M (P 0)) K a with | some i => nI i | none => -1000004))))) 0 0 (gA g) := by
  refine met_i (cc := cX5_docketAt) (maxL := 3) (by decide) rfl ⟨rfl, rfl⟩ (Nat.le_of_ble_eq_true rfl) (fun x hx h hret => ?_)
  replace h : Cxk x g cX5_docketAt 3 wsX5_docketAt RX5 rmX5_docketAt := h
  show X x 0 [(0, .ref (g.1 144)), (1, .int a)] [] M P
  refine x_iload_n h 1 dX5_docketAt_0 rfl rfl ?_
  refine x_if_ge h 7 dX5_docketAt_1 (by decide) (fun c_1 => ?_) (fun c_1 => ?_)
  · -- 1 true
    refine x_aload_n h 0 dX5_docketAt_7 rfl rfl ?_
    refine xg_X5_4 h in_X5_docketAt_X5 (by decide +kernel) dX5_docketAt_8 ?_
    refine x_iload_n h 1 dX5_docketAt_11 rfl rfl ?_
    refine x_callV h (As := [.int a]) 1 hx (c_X0_appealAt (hP.1 0 (by decide)) hI.1.1.2.2.1 hI.1.1.2.2.2.1) gX5_docketAt_X0_appealAt rfl ⟨rfl, rfl⟩ (by decide +kernel) rfl (by decide) (hk_chip (hP.1 0 (by decide))) (E_chip (hP.1 0 (by decide))) rfl rfl (Nat.le_of_ble_eq_true rfl) dX5_docketAt_12 (fun rv M' P' hp => ?_)
    obtain ⟨⟨rfl, rfl⟩, rfl⟩ := hp
    cases hh : hd1 (M (P 0)) K a with
    | none =>
      refine x_top (-1) rfl ?_
      refine x_istore_n h [(2, .int (-1)), (0, .ref (g.1 144)), (1, .int a)] dX5_docketAt_15 rfl (by decide) rfl ?_
      refine x_iload_n h 0 dX5_docketAt_16 rfl rfl ?_
      refine x_iconst h ((-1)) dX5_docketAt_17 (by decide) ?_
      refine x_icmp_ne h 26 dX5_docketAt_18 (by decide) (fun c => absurd c (by decide)) (fun _ => ?_)
      refine x_ldc h ((-1000004)) (by decide +kernel) dX5_docketAt_21 ?_
      refine x_goto h 27 dX5_docketAt_23 (by decide) ?_
      exact hret _ _ _ _ _ dX5_docketAt_27 (by exact ⟨⟨rfl, rfl⟩, Or.inr ⟨Int32.not_lt.mpr c_1, by rw [hh]⟩⟩)
    | some i =>
      have hi := hd1_lt hh
      have hK12 := hI.1.1.2.2.2.1
      refine x_top (nI i) rfl ?_
      refine x_istore_n h [(2, .int (nI i)), (0, .ref (g.1 144)), (1, .int a)] dX5_docketAt_15 rfl (by decide) rfl ?_
      refine x_iload_n h 0 dX5_docketAt_16 rfl rfl ?_
      refine x_iconst h ((-1)) dX5_docketAt_17 (by decide) ?_
      refine x_icmp_ne h 26 dX5_docketAt_18 (by decide) (fun c_18 => ?_) (fun c_18 => by exact absurd c_18.symm (m1_ne (by omega)))
      refine x_iload_n h 0 dX5_docketAt_26 rfl rfl ?_
      exact hret _ _ _ _ _ dX5_docketAt_27 (by exact ⟨⟨rfl, rfl⟩, Or.inr ⟨Int32.not_lt.mpr c_1, by rw [hh]⟩⟩)
  · -- 1 false
    refine x_ldc h ((-1000001)) (by decide +kernel) dX5_docketAt_4 ?_
    exact hret _ _ _ _ _ dX5_docketAt_6 (by exact ⟨⟨rfl, rfl⟩, Or.inl ⟨Int32.not_le.mp c_1, rfl⟩⟩)

set_option maxRecDepth 20000 in
theorem ggX5_count_X0_countOf : GoodIn wsX5_count wsX0_countOf := goodIn_r _ [9, 10, 11, 12, 13, 14, 15, 16, 17, 8, 18, 19, 20, 21, 22, 23, 24, 25, 26, 27, 28, 29, 30, 31, 32, 33, 34, 35, 36, 37, 38, 39, 40, 41, 42, 43, 44, 45, 46, 47, 48, 49, 50, 51, 52, 65, 66, 67, 68, 69, 70, 71, 72, 73, 74, 75, 76, 77, 78, 79, 80, 81, 82, 83, 84, 85, 86, 87, 88] (by decide +kernel) (by decide +kernel)
set_option maxRecDepth 20000 in
theorem gX5_count_X0_countOf : GoodIn wsX5_count (wsV RX5 138 RX0 yX0_countOf wsX0_countOf) := goodIn_app (goodIn_of _ (by decide +kernel)) ggX5_count_X0_countOf
theorem dX5_count_0 : decode cX5_count 0 = .ok (.iload_n 1, 1) := by decide +kernel
theorem dX5_count_1 : decode cX5_count 1 = .ok (.bipush 10, 2) := by decide +kernel
theorem dX5_count_3 : decode cX5_count 3 = .ok (.if_icmp .ne 8, 3) := by decide +kernel
theorem dX5_count_6 : decode cX5_count 6 = .ok (.aload_n 0, 1) := by decide +kernel
theorem dX5_count_7 : decode cX5_count 7 = .ok (.getfield 41, 3) := by decide +kernel
theorem dX5_count_10 : decode cX5_count 10 = .ok (.ireturn, 1) := by decide +kernel
theorem dX5_count_11 : decode cX5_count 11 = .ok (.iload_n 1, 1) := by decide +kernel
theorem dX5_count_12 : decode cX5_count 12 = .ok (.bipush 11, 2) := by decide +kernel
theorem dX5_count_14 : decode cX5_count 14 = .ok (.if_icmp .ne 11, 3) := by decide +kernel
theorem dX5_count_17 : decode cX5_count 17 = .ok (.aload_n 0, 1) := by decide +kernel
theorem dX5_count_18 : decode cX5_count 18 = .ok (.getfield 19, 3) := by decide +kernel
theorem dX5_count_21 : decode cX5_count 21 = .ok (.getfield 135, 3) := by decide +kernel
theorem dX5_count_24 : decode cX5_count 24 = .ok (.ireturn, 1) := by decide +kernel
theorem dX5_count_25 : decode cX5_count 25 = .ok (.aload_n 0, 1) := by decide +kernel
theorem dX5_count_26 : decode cX5_count 26 = .ok (.getfield 34, 3) := by decide +kernel
theorem dX5_count_29 : decode cX5_count 29 = .ok (.iload_n 1, 1) := by decide +kernel
theorem dX5_count_30 : decode cX5_count 30 = .ok (.invokevirtual 138, 3) := by decide +kernel
theorem dX5_count_33 : decode cX5_count 33 = .ok (.ireturn, 1) := by decide +kernel
abbrev rmX5_count : Room := { frames := 3, cells := 0, slots := 0, locals := 66 }
set_option maxRecDepth 20000 in
theorem in_X5_count_X4 : ∀ w ∈ wsX40, w ∈ wsX5_count := by decide +kernel
set_option maxRecDepth 20000 in
theorem in_X5_count_X5 : ∀ w ∈ wsX50, w ∈ wsX5_count := by decide +kernel

set_option maxRecDepth 100000 in
set_option maxHeartbeats 4000000 in
theorem c_X5_count {l : Launch} {g : Geo} {M : Nat → Nat → Int32} {P : Nat → Nat} (hP : StP P) {N K B : Nat} (hI : InvC (M (P 0)) N K B) {s : Nat} (hs : M 144 6 = nI s) (hs4 : s ≤ 4) {ln : Nat} (hln : M 147 1 = nI ln) {w : Int32} : Met l yX5_count wsX5_count rmX5_count (cPre g [.ref (g.1 144), .int w] M P) (cQi g (fun r M' P' => (P = P' ∧ M = M') ∧ ((w = nI 10 ∧ r = nI s) ∨ (w = nI 11 ∧ r = nI ln) ∨ (¬ w = nI 10 ∧ ¬ w = nI 11 ∧ ((∃ j, j < 24 ∧ w = nI j ∧ r = fCnt eC (M (P 0)) N K j) ∨ (¬ InR 24 w ∧ r = -1000001)))))) 0 0 (gA g) := by
  refine met_i (cc := cX5_count) (maxL := 2) (by decide) rfl ⟨rfl, rfl⟩ (Nat.le_of_ble_eq_true rfl) (fun x hx h hret => ?_)
  replace h : Cxk x g cX5_count 2 wsX5_count RX5 rmX5_count := h
  show X x 0 [(0, .ref (g.1 144)), (1, .int w)] [] M P
  refine x_iload_n h 1 dX5_count_0 rfl rfl ?_
  refine x_bipush h (nI 10) dX5_count_1 (by decide) ?_
  refine x_icmp_ne h 11 dX5_count_3 (by decide) (fun c_3 => ?_) (fun c_3 => ?_)
  · -- 3 true
    refine x_iload_n h 1 dX5_count_11 rfl rfl ?_
    refine x_bipush h (nI 11) dX5_count_12 (by decide) ?_
    refine x_icmp_ne h 25 dX5_count_14 (by decide) (fun c_14 => ?_) (fun c_14 => ?_)
    · -- 14 true
      refine x_aload_n h 0 dX5_count_25 rfl rfl ?_
      refine xg_X5_4 h in_X5_count_X5 (by decide +kernel) dX5_count_26 ?_
      refine x_iload_n h 1 dX5_count_29 rfl rfl ?_
      refine x_callV h (As := [.int w]) 1 hx (c_X0_countOf (hP.1 0 (by decide)) hI.1.1.1 hI.1.1.2.1 hI.1.1.2.2.1 hI.1.1.2.2.2.1) gX5_count_X0_countOf rfl ⟨rfl, rfl⟩ (by decide +kernel) rfl (by decide) (hk_chip (hP.1 0 (by decide))) (E_chip (hP.1 0 (by decide))) rfl rfl (Nat.le_of_ble_eq_true rfl) dX5_count_30 (fun rv M' P' hp => ?_)
      obtain ⟨⟨rfl, rfl⟩, hQ⟩ := hp
      exact hret _ _ _ _ _ dX5_count_33 (by exact ⟨⟨rfl, rfl⟩, Or.inr (Or.inr ⟨c_3, c_14, hQ⟩)⟩)
    · -- 14 false
      refine x_aload_n h 0 dX5_count_17 rfl rfl ?_
      refine xg_X5_1 h in_X5_count_X5 (by decide +kernel) dX5_count_18 ?_
      refine xg_X4_1 h in_X5_count_X4 (by decide +kernel) dX5_count_21 ?_
      refine x_top (nI ln) (hln) ?_
      exact hret _ _ _ _ _ dX5_count_24 (by exact ⟨⟨rfl, rfl⟩, Or.inr (Or.inl ⟨c_14, rfl⟩)⟩)
  · -- 3 false
    refine x_aload_n h 0 dX5_count_6 rfl rfl ?_
    refine xg_X5_6 h in_X5_count_X5 (by decide +kernel) dX5_count_7 ?_
    refine x_top (nI s) (hs) ?_
    exact hret _ _ _ _ _ dX5_count_10 (by exact ⟨⟨rfl, rfl⟩, Or.inl ⟨c_3, rfl⟩⟩)

set_option maxRecDepth 20000 in
theorem ggX5_type_X4_append : GoodIn wsX5_type wsX4_append := goodIn_r _ [6, 7, 8, 9, 10, 18, 19, 20, 21, 22] (by decide +kernel) (by decide +kernel)
set_option maxRecDepth 20000 in
theorem gX5_type_X4_append : GoodIn wsX5_type (wsV RX5 142 RX4 yX4_append wsX4_append) := goodIn_app (goodIn_of _ (by decide +kernel)) ggX5_type_X4_append
theorem dX5_type_0 : decode cX5_type 0 = .ok (.aload_n 0, 1) := by decide +kernel
theorem dX5_type_1 : decode cX5_type 1 = .ok (.getfield 19, 3) := by decide +kernel
theorem dX5_type_4 : decode cX5_type 4 = .ok (.iload_n 1, 1) := by decide +kernel
theorem dX5_type_5 : decode cX5_type 5 = .ok (.invokevirtual 142, 3) := by decide +kernel
theorem dX5_type_8 : decode cX5_type 8 = .ok (.ireturn, 1) := by decide +kernel
abbrev rmX5_type : Room := { frames := 1, cells := 0, slots := 0, locals := 21 }
set_option maxRecDepth 20000 in
theorem in_X5_type_X5 : ∀ w ∈ wsX50, w ∈ wsX5_type := by decide +kernel

set_option maxRecDepth 100000 in
set_option maxHeartbeats 4000000 in
theorem c_X5_type {l : Launch} {g : Geo} {M : Nat → Nat → Int32} {P : Nat → Nat} {tx : Nat → Nat} {ln : Nat} (hT : TxM M tx ln) {a : Int32} : Met l yX5_type wsX5_type rmX5_type (cPre g [.ref (g.1 144), .int a] M P) (cQi g (fun r M' P' => P = P' ∧ ((¬ (nI 32 ≤ a ∧ a ≤ nI 126) ∧ r = -1000001 ∧ M = M') ∨ ((nI 32 ≤ a ∧ a ≤ nI 126) ∧ ((60 ≤ ln ∧ r = -1000003 ∧ M = M') ∨ (ln < 60 ∧ r = nI (ln + 1) ∧ M' = st2 (st2 M 148 ln a) 147 1 (nI (ln + 1)))))))) 0 0 (gA g) := by
  refine met_i (cc := cX5_type) (maxL := 2) (by decide) rfl ⟨rfl, rfl⟩ (Nat.le_of_ble_eq_true rfl) (fun x hx h hret => ?_)
  replace h : Cxk x g cX5_type 2 wsX5_type RX5 rmX5_type := h
  show X x 0 [(0, .ref (g.1 144)), (1, .int a)] [] M P
  refine x_aload_n h 0 dX5_type_0 rfl rfl ?_
  refine xg_X5_1 h in_X5_type_X5 (by decide +kernel) dX5_type_1 ?_
  refine x_iload_n h 1 dX5_type_4 rfl rfl ?_
  refine x_callV h (As := [.int a]) 1 hx (c_X4_append hT) gX5_type_X4_append rfl ⟨rfl, rfl⟩ (by decide +kernel) rfl (by decide) (by decide) E_147 rfl rfl (Nat.le_of_ble_eq_true rfl) dX5_type_5 (fun rv M5 P5 hp => ?_)
  exact hret _ _ _ _ _ dX5_type_8 (by exact hp)

set_option maxRecDepth 20000 in
theorem ggX5_findRoute_X0_hasNet : GoodIn wsX5_findRoute wsX0_hasNet := goodIn_r _ [12, 13, 94, 95, 96, 97, 98, 99, 100, 101] (by decide +kernel) (by decide +kernel)
set_option maxRecDepth 20000 in
theorem gX5_findRoute_X0_hasNet : GoodIn wsX5_findRoute (wsV RX5 75 RX0 yX0_hasNet wsX0_hasNet) := goodIn_app (goodIn_of _ (by decide +kernel)) ggX5_findRoute_X0_hasNet
set_option maxRecDepth 20000 in
theorem ggX5_findRoute_X3_find : GoodIn wsX5_findRoute wsX3_find := goodIn_r _ [18, 19, 20, 21, 22, 23, 24, 25, 26, 27, 28, 29, 30, 31, 32, 9, 10, 11, 12, 13, 33, 34, 35, 36, 37, 38, 39, 40, 41, 42, 43, 44, 17, 45, 46, 47, 48, 49, 50, 51, 52, 53, 54, 55, 56, 57, 58, 59, 60, 61, 62, 63, 64, 65, 66, 67, 68, 69, 70, 71, 72, 73, 74, 75, 76, 77, 78, 79, 80, 81, 82, 83, 84, 85, 86, 111, 112, 113, 114, 115, 116, 117, 118, 119, 120, 121, 122, 123, 124, 125, 94, 95, 96, 97, 98, 99, 100, 101, 102, 103, 104, 105, 106, 107, 108, 109, 110] (by decide +kernel) (by decide +kernel)
set_option maxRecDepth 20000 in
theorem gX5_findRoute_X3_find : GoodIn wsX5_findRoute (wsV RX5 177 RX3 yX3_find wsX3_find) := goodIn_app (goodIn_of _ (by decide +kernel)) ggX5_findRoute_X3_find
theorem dX5_findRoute_0 : decode cX5_findRoute 0 = .ok (.aload_n 0, 1) := by decide +kernel
theorem dX5_findRoute_1 : decode cX5_findRoute 1 = .ok (.getfield 34, 3) := by decide +kernel
theorem dX5_findRoute_4 : decode cX5_findRoute 4 = .ok (.iload_n 1, 1) := by decide +kernel
theorem dX5_findRoute_5 : decode cX5_findRoute 5 = .ok (.invokevirtual 75, 3) := by decide +kernel
theorem dX5_findRoute_8 : decode cX5_findRoute 8 = .ok (.ifCond .eq 12, 3) := by decide +kernel
theorem dX5_findRoute_11 : decode cX5_findRoute 11 = .ok (.iload_n 2, 1) := by decide +kernel
theorem dX5_findRoute_12 : decode cX5_findRoute 12 = .ok (.ifCond .lt 8, 3) := by decide +kernel
theorem dX5_findRoute_15 : decode cX5_findRoute 15 = .ok (.iload_n 2, 1) := by decide +kernel
theorem dX5_findRoute_16 : decode cX5_findRoute 16 = .ok (.iconst 1, 1) := by decide +kernel
theorem dX5_findRoute_17 : decode cX5_findRoute 17 = .ok (.if_icmp .le 6, 3) := by decide +kernel
theorem dX5_findRoute_20 : decode cX5_findRoute 20 = .ok (.ldc 70, 2) := by decide +kernel
theorem dX5_findRoute_22 : decode cX5_findRoute 22 = .ok (.ireturn, 1) := by decide +kernel
theorem dX5_findRoute_23 : decode cX5_findRoute 23 = .ok (.aload_n 0, 1) := by decide +kernel
theorem dX5_findRoute_24 : decode cX5_findRoute 24 = .ok (.getfield 34, 3) := by decide +kernel
theorem dX5_findRoute_27 : decode cX5_findRoute 27 = .ok (.getfield 167, 3) := by decide +kernel
theorem dX5_findRoute_30 : decode cX5_findRoute 30 = .ok (.iload_n 1, 1) := by decide +kernel
theorem dX5_findRoute_31 : decode cX5_findRoute 31 = .ok (.aaload, 1) := by decide +kernel
theorem dX5_findRoute_32 : decode cX5_findRoute 32 = .ok (.getfield 171, 3) := by decide +kernel
theorem dX5_findRoute_35 : decode cX5_findRoute 35 = .ok (.ifCond .eq 6, 3) := by decide +kernel
theorem dX5_findRoute_38 : decode cX5_findRoute 38 = .ok (.ldc 141, 2) := by decide +kernel
theorem dX5_findRoute_40 : decode cX5_findRoute 40 = .ok (.ireturn, 1) := by decide +kernel
theorem dX5_findRoute_41 : decode cX5_findRoute 41 = .ok (.aload_n 0, 1) := by decide +kernel
theorem dX5_findRoute_42 : decode cX5_findRoute 42 = .ok (.getfield 10, 3) := by decide +kernel
theorem dX5_findRoute_45 : decode cX5_findRoute 45 = .ok (.aload_n 0, 1) := by decide +kernel
theorem dX5_findRoute_46 : decode cX5_findRoute 46 = .ok (.getfield 34, 3) := by decide +kernel
theorem dX5_findRoute_49 : decode cX5_findRoute 49 = .ok (.iload_n 1, 1) := by decide +kernel
theorem dX5_findRoute_50 : decode cX5_findRoute 50 = .ok (.iload_n 2, 1) := by decide +kernel
theorem dX5_findRoute_51 : decode cX5_findRoute 51 = .ok (.iconst 1, 1) := by decide +kernel
theorem dX5_findRoute_52 : decode cX5_findRoute 52 = .ok (.if_icmp .ne 7, 3) := by decide +kernel
theorem dX5_findRoute_55 : decode cX5_findRoute 55 = .ok (.iconst 1, 1) := by decide +kernel
theorem dX5_findRoute_56 : decode cX5_findRoute 56 = .ok (.goto 4, 3) := by decide +kernel
theorem dX5_findRoute_59 : decode cX5_findRoute 59 = .ok (.iconst 0, 1) := by decide +kernel
theorem dX5_findRoute_60 : decode cX5_findRoute 60 = .ok (.invokevirtual 177, 3) := by decide +kernel
theorem dX5_findRoute_63 : decode cX5_findRoute 63 = .ok (.ifCond .eq 7, 3) := by decide +kernel
theorem dX5_findRoute_66 : decode cX5_findRoute 66 = .ok (.iconst 0, 1) := by decide +kernel
theorem dX5_findRoute_67 : decode cX5_findRoute 67 = .ok (.goto 5, 3) := by decide +kernel
theorem dX5_findRoute_70 : decode cX5_findRoute 70 = .ok (.ldc 74, 2) := by decide +kernel
theorem dX5_findRoute_72 : decode cX5_findRoute 72 = .ok (.ireturn, 1) := by decide +kernel
abbrev rmX5_findRoute : Room := { frames := 4, cells := 0, slots := 0, locals := 97 }
set_option maxRecDepth 20000 in
theorem in_X5_findRoute_X0 : ∀ w ∈ wsX00, w ∈ wsX5_findRoute := by decide +kernel
set_option maxRecDepth 20000 in
theorem in_X5_findRoute_X2 : ∀ w ∈ wsX20, w ∈ wsX5_findRoute := by decide +kernel
set_option maxRecDepth 20000 in
theorem in_X5_findRoute_X5 : ∀ w ∈ wsX50, w ∈ wsX5_findRoute := by decide +kernel

set_option maxRecDepth 100000 in
set_option maxHeartbeats 4000000 in
theorem c_X5_findRoute {l : Launch} {g : Geo} {M : Nat → Nat → Int32} {P : Nat → Nat} (hP : StP P) {N K B : Nat} (hI : InvC (M (P 0)) N K B) (hNb : Nbr M) {n d : Int32} : Met l yX5_findRoute wsX5_findRoute rmX5_findRoute (cPre g [.ref (g.1 144), .int n, .int d] M P) (cQi g (fun r M' P' => P = P' ∧ FrF M M' ∧ fndQ M (M (P 0)) N n d r M')) 0 0 (gA g) := by
  refine met_i (cc := cX5_findRoute) (maxL := 3) (by decide) rfl ⟨rfl, rfl⟩ (Nat.le_of_ble_eq_true rfl) (fun x hx h hret => ?_)
  replace h : Cxk x g cX5_findRoute 3 wsX5_findRoute RX5 rmX5_findRoute := h
  show X x 0 [(0, .ref (g.1 144)), (1, .int n), (2, .int d)] [] M P
  have hN6 := hI.1.1.2.1
  refine x_aload_n h 0 dX5_findRoute_0 rfl rfl ?_
  refine xg_X5_4 h in_X5_findRoute_X5 (by decide +kernel) dX5_findRoute_1 ?_
  refine x_iload_n h 1 dX5_findRoute_4 rfl rfl ?_
  refine x_callV h (As := [.int n]) 1 hx (c_X0_hasNet (hP.1 0 (by decide)) hI.1.1.1 hI.1.1.2.1) gX5_findRoute_X0_hasNet rfl ⟨rfl, rfl⟩ (by decide +kernel) rfl (by decide) (hk_chip (hP.1 0 (by decide))) (E_chip (hP.1 0 (by decide))) rfl rfl (Nat.le_of_ble_eq_true rfl) dX5_findRoute_5 (fun rv M' P' hp => ?_)
  obtain ⟨⟨rfl, rfl⟩, hp⟩ := hp
  rcases hp with ⟨⟨k5, hk5, rfl⟩, rfl⟩ | ⟨nk5, rfl⟩
  · -- call 5
    refine x_if_eq h 20 dX5_findRoute_8 (by decide) (fun c => absurd c (by decide)) (fun _ => ?_)
    refine x_iload_n h 2 dX5_findRoute_11 rfl rfl ?_
    refine x_if_lt h 20 dX5_findRoute_12 (by decide) (fun c_12 => ?_) (fun c_12 => ?_)
    · -- 12 true
      refine x_ldc h ((-1000001)) (by decide +kernel) dX5_findRoute_20 ?_
      exact hret _ _ _ _ _ dX5_findRoute_22 (by exact ⟨rfl, fun k _ => rfl, Or.inl ⟨fun q => (by first | exact nk5 q.1 | exact InR_no1 (by decide) c_12 q.2 | exact c_17 (by obtain ⟨z, hz, rfl⟩ := q.2; exact nI_le (by omega) (by decide))), rfl⟩⟩)
    · -- 12 false
      refine x_iload_n h 2 dX5_findRoute_15 rfl rfl ?_
      refine x_iconst h (nI 1) dX5_findRoute_16 (by decide) ?_
      refine x_icmp_le h 23 dX5_findRoute_17 (by decide) (fun c_17 => ?_) (fun c_17 => ?_)
      · -- 17 true
        obtain ⟨b, hb, rfl⟩ := InR_of (N := 2) (x := d) (by decide) c_12 (fun q => by obtain ⟨z, hz, rfl⟩ := nI_of (x := d) c_12; have := (nI_leI (by decide) hz).mp q; have := (nI_leI hz (by decide)).mp c_17; omega)
        refine x_aload_n h 0 dX5_findRoute_23 rfl rfl ?_
        refine xg_X5_4 h in_X5_findRoute_X5 (by decide +kernel) dX5_findRoute_24 ?_
        refine xg_X0_3 h (hP.1 0 (by decide)) in_X5_findRoute_X0 (by decide +kernel) dX5_findRoute_27 ?_
        refine x_iload_n h 1 dX5_findRoute_30 rfl rfl ?_
        refine xa_nets h (hP.1 0 (by decide)) dX5_findRoute_31 (by omega) ?_
        refine xg_X2_5 h (hP.1 0 (by decide)) (by omega) in_X5_findRoute_X2 (by decide +kernel) dX5_findRoute_32 ?_
        refine x_if_eq h 41 dX5_findRoute_35 (by decide) (fun c_35 => ?_) (fun c_35 => ?_)
        · -- 35 true
          refine x_aload_n h 0 dX5_findRoute_41 rfl rfl ?_
          refine xg_X5_0 h in_X5_findRoute_X5 (by decide +kernel) dX5_findRoute_42 ?_
          refine x_aload_n h 0 dX5_findRoute_45 rfl rfl ?_
          refine xg_X5_4 h in_X5_findRoute_X5 (by decide +kernel) dX5_findRoute_46 ?_
          refine x_iload_n h 1 dX5_findRoute_49 rfl rfl ?_
          refine x_iload_n h 2 dX5_findRoute_50 rfl rfl ?_
          refine x_iconst h (nI 1) dX5_findRoute_51 (by decide) ?_
          refine x_icmp_ne_n h 59 dX5_findRoute_52 (by decide) (by omega) (by decide) (fun c_52 => ?_) (fun c_52 => ?_)
          · -- 52 true
            refine x_iconst h (nI 0) dX5_findRoute_59 (by decide) ?_
            refine x_callV h (As := [.ref (g.1 (24 * (P 0))), .int (nI k5), .int (nI 0)]) 3 hx (c_X3_findG (hP.1 0 (by decide)) hI.1.1 hNb hk5 false) gX5_findRoute_X3_find rfl ⟨rfl, rfl⟩ (by decide +kernel) rfl (by decide) (by decide) E_149 rfl rfl (Nat.le_of_ble_eq_true rfl) dX5_findRoute_60 (fun rv M60 P' hp => ?_)
            obtain ⟨rfl, hF60, hp⟩ := hp
            have hdb : decide (b = 1) = false := decide_eq_false c_52
            rcases hp with ⟨hn60, rfl⟩ | ⟨z, l1, l2, hs60, rfl, hR60, hz60⟩
            · -- no route
              refine x_if_eq h 70 dX5_findRoute_63 (by decide) (fun _ => ?_) (fun c => absurd (by decide) c)
              refine x_ldc h ((-1000004)) (by decide +kernel) dX5_findRoute_70 ?_
              exact hret _ _ _ _ _ dX5_findRoute_72 (by exact ⟨rfl, hF60, Or.inr ⟨k5, b, hk5, hb, rfl, rfl, Or.inr ⟨c_35, Or.inl ⟨by rw [hdb]; exact hn60, rfl⟩⟩⟩⟩)
            · -- a route
              have hok := rtX_ok hI.1.1 hk5 hs60
              refine x_if_eq h 70 dX5_findRoute_63 (by decide) (fun c => absurd c (by decide)) (fun _ => ?_)
              refine x_iconst h (nI 0) dX5_findRoute_66 (by decide) ?_
              refine x_goto h 72 dX5_findRoute_67 (by decide) ?_
              exact hret _ _ _ _ _ dX5_findRoute_72 (by exact ⟨rfl, hF60, Or.inr ⟨k5, b, hk5, hb, rfl, rfl, Or.inr ⟨c_35, Or.inr ⟨z, l1, l2, by rw [hdb]; exact hs60, by rw [hdb]; exact hok, rfl, by rw [hdb]; exact hR60, hz60⟩⟩⟩⟩)
          · -- 52 false
            refine x_iconst h (nI 1) dX5_findRoute_55 (by decide) ?_
            refine x_goto h 60 dX5_findRoute_56 (by decide) ?_
            refine x_callV h (As := [.ref (g.1 (24 * (P 0))), .int (nI k5), .int (nI 1)]) 3 hx (c_X3_findG (hP.1 0 (by decide)) hI.1.1 hNb hk5 true) gX5_findRoute_X3_find rfl ⟨rfl, rfl⟩ (by decide +kernel) rfl (by decide) (by decide) E_149 rfl rfl (Nat.le_of_ble_eq_true rfl) dX5_findRoute_60 (fun rv M60 P' hp => ?_)
            obtain ⟨rfl, hF60, hp⟩ := hp
            have hdb : decide (b = 1) = true := decide_eq_true c_52
            rcases hp with ⟨hn60, rfl⟩ | ⟨z, l1, l2, hs60, rfl, hR60, hz60⟩
            · -- no route
              refine x_if_eq h 70 dX5_findRoute_63 (by decide) (fun _ => ?_) (fun c => absurd (by decide) c)
              refine x_ldc h ((-1000004)) (by decide +kernel) dX5_findRoute_70 ?_
              exact hret _ _ _ _ _ dX5_findRoute_72 (by exact ⟨rfl, hF60, Or.inr ⟨k5, b, hk5, hb, rfl, rfl, Or.inr ⟨c_35, Or.inl ⟨by rw [hdb]; exact hn60, rfl⟩⟩⟩⟩)
            · -- a route
              have hok := rtX_ok hI.1.1 hk5 hs60
              refine x_if_eq h 70 dX5_findRoute_63 (by decide) (fun c => absurd c (by decide)) (fun _ => ?_)
              refine x_iconst h (nI 0) dX5_findRoute_66 (by decide) ?_
              refine x_goto h 72 dX5_findRoute_67 (by decide) ?_
              exact hret _ _ _ _ _ dX5_findRoute_72 (by exact ⟨rfl, hF60, Or.inr ⟨k5, b, hk5, hb, rfl, rfl, Or.inr ⟨c_35, Or.inr ⟨z, l1, l2, by rw [hdb]; exact hs60, by rw [hdb]; exact hok, rfl, by rw [hdb]; exact hR60, hz60⟩⟩⟩⟩)
        · -- 35 false
          refine x_ldc h ((-1000002)) (by decide +kernel) dX5_findRoute_38 ?_
          exact hret _ _ _ _ _ dX5_findRoute_40 (by exact ⟨rfl, fun k _ => rfl, Or.inr ⟨k5, b, hk5, hb, rfl, rfl, Or.inl ⟨c_35, rfl⟩⟩⟩)
      · -- 17 false
        refine x_ldc h ((-1000001)) (by decide +kernel) dX5_findRoute_20 ?_
        exact hret _ _ _ _ _ dX5_findRoute_22 (by exact ⟨rfl, fun k _ => rfl, Or.inl ⟨fun q => (by first | exact nk5 q.1 | exact InR_no1 (by decide) c_12 q.2 | exact c_17 (by obtain ⟨z, hz, rfl⟩ := q.2; exact nI_le (by omega) (by decide))), rfl⟩⟩)
  · -- call 5
    refine x_if_eq h 20 dX5_findRoute_8 (by decide) (fun _ => ?_) (fun c => absurd (by decide) c)
    refine x_ldc h ((-1000001)) (by decide +kernel) dX5_findRoute_20 ?_
    exact hret _ _ _ _ _ dX5_findRoute_22 (by exact ⟨rfl, fun k _ => rfl, Or.inl ⟨fun q => (by first | exact nk5 q.1 | exact InR_no1 (by decide) c_12 q.2 | exact c_17 (by obtain ⟨z, hz, rfl⟩ := q.2; exact nI_le (by omega) (by decide))), rfl⟩⟩)

set_option maxRecDepth 20000 in
theorem ggX5_cost_X5_findRoute : GoodIn wsX5_cost wsX5_findRoute := goodIn_r _ [7, 8, 9, 10, 11, 12, 1, 13, 14, 15, 16, 17, 18, 19, 20, 21, 22, 23, 24, 25, 26, 27, 28, 29, 30, 31, 32, 33, 34, 35, 36, 37, 38, 39, 40, 41, 42, 43, 44, 45, 46, 47, 48, 49, 50, 51, 52, 53, 54, 55, 56, 57, 58, 59, 60, 61, 62, 63, 64, 65, 66, 67, 68, 69, 70, 71, 72, 73, 74, 75, 76, 77, 78, 79, 80, 81, 82, 83, 84, 85, 86, 87, 88, 89, 90, 91, 92, 93, 94, 95, 96, 97, 98, 99, 115, 116, 117, 118, 119, 120, 121, 122, 123, 124, 125, 126, 127, 128, 129, 130, 131, 100, 101, 102, 103, 104, 105, 106, 107, 108, 109, 110, 111, 112, 113, 114] (by decide +kernel) (by decide +kernel)
set_option maxRecDepth 20000 in
theorem gX5_cost_X5_findRoute : GoodIn wsX5_cost (wsV RX5 102 RX5 yX5_findRoute wsX5_findRoute) := goodIn_app (goodIn_of _ (by decide +kernel)) ggX5_cost_X5_findRoute
theorem dX5_cost_0 : decode cX5_cost 0 = .ok (.aload_n 0, 1) := by decide +kernel
theorem dX5_cost_1 : decode cX5_cost 1 = .ok (.iload_n 1, 1) := by decide +kernel
theorem dX5_cost_2 : decode cX5_cost 2 = .ok (.iload_n 2, 1) := by decide +kernel
theorem dX5_cost_3 : decode cX5_cost 3 = .ok (.invokevirtual 102, 3) := by decide +kernel
theorem dX5_cost_6 : decode cX5_cost 6 = .ok (.istore_n 3, 1) := by decide +kernel
theorem dX5_cost_7 : decode cX5_cost 7 = .ok (.iload_n 3, 1) := by decide +kernel
theorem dX5_cost_8 : decode cX5_cost 8 = .ok (.ifCond .ge 7, 3) := by decide +kernel
theorem dX5_cost_11 : decode cX5_cost 11 = .ok (.iload_n 3, 1) := by decide +kernel
theorem dX5_cost_12 : decode cX5_cost 12 = .ok (.goto 10, 3) := by decide +kernel
theorem dX5_cost_15 : decode cX5_cost 15 = .ok (.aload_n 0, 1) := by decide +kernel
theorem dX5_cost_16 : decode cX5_cost 16 = .ok (.getfield 10, 3) := by decide +kernel
theorem dX5_cost_19 : decode cX5_cost 19 = .ok (.getfield 105, 3) := by decide +kernel
theorem dX5_cost_22 : decode cX5_cost 22 = .ok (.ireturn, 1) := by decide +kernel
abbrev rmX5_cost : Room := { frames := 5, cells := 0, slots := 0, locals := 119 }
set_option maxRecDepth 20000 in
theorem in_X5_cost_X3 : ∀ w ∈ wsX30, w ∈ wsX5_cost := by decide +kernel
set_option maxRecDepth 20000 in
theorem in_X5_cost_X5 : ∀ w ∈ wsX50, w ∈ wsX5_cost := by decide +kernel

set_option maxRecDepth 100000 in
set_option maxHeartbeats 4000000 in
theorem c_X5_cost {l : Launch} {g : Geo} {M : Nat → Nat → Int32} {P : Nat → Nat} (hP : StP P) {N K B : Nat} (hI : InvC (M (P 0)) N K B) (hNb : Nbr M) {n d : Int32} : Met l yX5_cost wsX5_cost rmX5_cost (cPre g [.ref (g.1 144), .int n, .int d] M P) (cQi g (fun r M' P' => P = P' ∧ FrF M M' ∧ rtQ eC (M (P 0)) N n d (fun z _ => nI z) r)) 0 0 (gA g) := by
  refine met_i (cc := cX5_cost) (maxL := 4) (by decide) rfl ⟨rfl, rfl⟩ (Nat.le_of_ble_eq_true rfl) (fun x hx h hret => ?_)
  replace h : Cxk x g cX5_cost 4 wsX5_cost RX5 rmX5_cost := h
  show X x 0 [(0, .ref (g.1 144)), (1, .int n), (2, .int d)] [] M P
  refine x_aload_n h 0 dX5_cost_0 rfl rfl ?_
  refine x_iload_n h 1 dX5_cost_1 rfl rfl ?_
  refine x_iload_n h 2 dX5_cost_2 rfl rfl ?_
  refine x_callV h (As := [.int n, .int d]) 2 hx (c_X5_findRoute hP hI hNb) gX5_cost_X5_findRoute rfl ⟨rfl, rfl⟩ (by decide +kernel) rfl (by decide) (by decide) E_144 rfl rfl (Nat.le_of_ble_eq_true rfl) dX5_cost_3 (fun a3 M3 P' hp => ?_)
  obtain ⟨rfl, hF, hQ⟩ := hp
  refine x_istore_n h [(3, .int a3), (0, .ref (g.1 144)), (1, .int n), (2, .int d)] dX5_cost_6 rfl (by decide) rfl ?_
  refine x_iload_n h 0 dX5_cost_7 rfl rfl ?_
  refine x_if_ge h 15 dX5_cost_8 (by decide) (fun c_8 => ?_) (fun c_8 => ?_)
  · -- 8 true
    refine x_aload_n h 1 dX5_cost_15 rfl rfl ?_
    refine xg_X5_0 h in_X5_cost_X5 (by decide +kernel) dX5_cost_16 ?_
    refine xg_X3_12 h in_X5_cost_X3 (by decide +kernel) dX5_cost_19 ?_
    exact hret _ _ _ _ _ dX5_cost_22 (by exact ⟨rfl, hF, fnd_rt hQ (fun e => absurd c_8 (Int32.not_le.mpr e)) (fun k b z l1 l2 _ _ _ _ _ _ e => e)⟩)
  · -- 8 false
    refine x_iload_n h 0 dX5_cost_11 rfl rfl ?_
    refine x_goto h 22 dX5_cost_12 (by decide) ?_
    exact hret _ _ _ _ _ dX5_cost_22 (by exact ⟨rfl, hF, fnd_rt hQ (fun _ => rfl) (fun k b z l1 l2 _ _ _ e _ _ _ => by rw [e] at c_8; exact absurd (by decide) c_8)⟩)

set_option maxRecDepth 20000 in
theorem ggX5_price_X5_findRoute : GoodIn wsX5_price wsX5_findRoute := goodIn_r _ [7, 8, 9, 10, 11, 12, 1, 13, 14, 15, 16, 17, 18, 19, 20, 21, 22, 23, 24, 25, 26, 27, 28, 29, 30, 31, 32, 33, 34, 35, 36, 37, 38, 39, 40, 41, 42, 43, 44, 45, 46, 47, 48, 49, 50, 51, 52, 53, 54, 55, 56, 57, 58, 59, 60, 61, 62, 63, 64, 65, 66, 67, 68, 69, 70, 71, 72, 73, 74, 75, 76, 77, 78, 79, 80, 81, 82, 83, 84, 85, 86, 87, 88, 89, 90, 91, 92, 93, 94, 95, 96, 97, 98, 99, 115, 116, 117, 118, 119, 120, 121, 122, 123, 124, 125, 126, 127, 128, 129, 130, 131, 100, 101, 102, 103, 104, 105, 106, 107, 108, 109, 110, 111, 112, 113, 114] (by decide +kernel) (by decide +kernel)
set_option maxRecDepth 20000 in
theorem gX5_price_X5_findRoute : GoodIn wsX5_price (wsV RX5 102 RX5 yX5_findRoute wsX5_findRoute) := goodIn_app (goodIn_of _ (by decide +kernel)) ggX5_price_X5_findRoute
theorem dX5_price_0 : decode cX5_price 0 = .ok (.aload_n 0, 1) := by decide +kernel
theorem dX5_price_1 : decode cX5_price 1 = .ok (.iload_n 1, 1) := by decide +kernel
theorem dX5_price_2 : decode cX5_price 2 = .ok (.iconst 1, 1) := by decide +kernel
theorem dX5_price_3 : decode cX5_price 3 = .ok (.invokevirtual 102, 3) := by decide +kernel
theorem dX5_price_6 : decode cX5_price 6 = .ok (.istore_n 2, 1) := by decide +kernel
theorem dX5_price_7 : decode cX5_price 7 = .ok (.iload_n 2, 1) := by decide +kernel
theorem dX5_price_8 : decode cX5_price 8 = .ok (.ifCond .ge 7, 3) := by decide +kernel
theorem dX5_price_11 : decode cX5_price 11 = .ok (.iload_n 2, 1) := by decide +kernel
theorem dX5_price_12 : decode cX5_price 12 = .ok (.goto 10, 3) := by decide +kernel
theorem dX5_price_15 : decode cX5_price 15 = .ok (.aload_n 0, 1) := by decide +kernel
theorem dX5_price_16 : decode cX5_price 16 = .ok (.getfield 10, 3) := by decide +kernel
theorem dX5_price_19 : decode cX5_price 19 = .ok (.getfield 108, 3) := by decide +kernel
theorem dX5_price_22 : decode cX5_price 22 = .ok (.ireturn, 1) := by decide +kernel
abbrev rmX5_price : Room := { frames := 5, cells := 0, slots := 0, locals := 119 }
set_option maxRecDepth 20000 in
theorem in_X5_price_X3 : ∀ w ∈ wsX30, w ∈ wsX5_price := by decide +kernel
set_option maxRecDepth 20000 in
theorem in_X5_price_X5 : ∀ w ∈ wsX50, w ∈ wsX5_price := by decide +kernel

set_option maxRecDepth 100000 in
set_option maxHeartbeats 4000000 in
theorem c_X5_price {l : Launch} {g : Geo} {M : Nat → Nat → Int32} {P : Nat → Nat} (hP : StP P) {N K B : Nat} (hI : InvC (M (P 0)) N K B) (hNb : Nbr M) {n : Int32} : Met l yX5_price wsX5_price rmX5_price (cPre g [.ref (g.1 144), .int n] M P) (cQi g (fun r M' P' => P = P' ∧ FrF M M' ∧ rtQ eC (M (P 0)) N n (nI 1) (fun _ L => nI (priE eC (M (P 0)) N L)) r)) 0 0 (gA g) := by
  refine met_i (cc := cX5_price) (maxL := 3) (by decide) rfl ⟨rfl, rfl⟩ (Nat.le_of_ble_eq_true rfl) (fun x hx h hret => ?_)
  replace h : Cxk x g cX5_price 3 wsX5_price RX5 rmX5_price := h
  show X x 0 [(0, .ref (g.1 144)), (1, .int n)] [] M P
  refine x_aload_n h 0 dX5_price_0 rfl rfl ?_
  refine x_iload_n h 1 dX5_price_1 rfl rfl ?_
  refine x_iconst h (nI 1) dX5_price_2 (by decide) ?_
  refine x_callV h (As := [.int n, .int (nI 1)]) 2 hx (c_X5_findRoute hP hI hNb) gX5_price_X5_findRoute rfl ⟨rfl, rfl⟩ (by decide +kernel) rfl (by decide) (by decide) E_144 rfl rfl (Nat.le_of_ble_eq_true rfl) dX5_price_3 (fun a3 M3 P' hp => ?_)
  obtain ⟨rfl, hF, hQ⟩ := hp
  refine x_istore_n h [(2, .int a3), (0, .ref (g.1 144)), (1, .int n)] dX5_price_6 rfl (by decide) rfl ?_
  refine x_iload_n h 0 dX5_price_7 rfl rfl ?_
  refine x_if_ge h 15 dX5_price_8 (by decide) (fun c_8 => ?_) (fun c_8 => ?_)
  · -- 8 true
    refine x_aload_n h 1 dX5_price_15 rfl rfl ?_
    refine xg_X5_0 h in_X5_price_X5 (by decide +kernel) dX5_price_16 ?_
    refine xg_X3_13 h in_X5_price_X3 (by decide +kernel) dX5_price_19 ?_
    exact hret _ _ _ _ _ dX5_price_22 (by exact ⟨rfl, hF, fnd_rt hQ (fun e => absurd c_8 (Int32.not_le.mpr e)) (fun k b z l1 l2 hk hb hd _ hok hR _ => by obtain rfl : b = 1 := ((nI_eq (by decide) (by omega)).mp hd).symm; exact hR.2.2.2.1.trans (accR_ok (n := k) hI.1.1.2.1 hk hok).2.1)⟩)
  · -- 8 false
    refine x_iload_n h 0 dX5_price_11 rfl rfl ?_
    refine x_goto h 22 dX5_price_12 (by decide) ?_
    exact hret _ _ _ _ _ dX5_price_22 (by exact ⟨rfl, hF, fnd_rt hQ (fun _ => rfl) (fun k b z l1 l2 _ _ _ e _ _ _ => by rw [e] at c_8; exact absurd (by decide) c_8)⟩)

set_option maxRecDepth 20000 in
theorem ggX5_victims_X5_findRoute : GoodIn wsX5_victims wsX5_findRoute := goodIn_r _ [7, 8, 9, 10, 11, 12, 1, 13, 14, 15, 16, 17, 18, 19, 20, 21, 22, 23, 24, 25, 26, 27, 28, 29, 30, 31, 32, 33, 34, 35, 36, 37, 38, 39, 40, 41, 42, 43, 44, 45, 46, 47, 48, 49, 50, 51, 52, 53, 54, 55, 56, 57, 58, 59, 60, 61, 62, 63, 64, 65, 66, 67, 68, 69, 70, 71, 72, 73, 74, 75, 76, 77, 78, 79, 80, 81, 82, 83, 84, 85, 86, 87, 88, 89, 90, 91, 92, 93, 94, 95, 96, 97, 98, 99, 115, 116, 117, 118, 119, 120, 121, 122, 123, 124, 125, 126, 127, 128, 129, 130, 131, 100, 101, 102, 103, 104, 105, 106, 107, 108, 109, 110, 111, 112, 113, 114] (by decide +kernel) (by decide +kernel)
set_option maxRecDepth 20000 in
theorem gX5_victims_X5_findRoute : GoodIn wsX5_victims (wsV RX5 102 RX5 yX5_findRoute wsX5_findRoute) := goodIn_app (goodIn_of _ (by decide +kernel)) ggX5_victims_X5_findRoute
theorem dX5_victims_0 : decode cX5_victims 0 = .ok (.aload_n 0, 1) := by decide +kernel
theorem dX5_victims_1 : decode cX5_victims 1 = .ok (.iload_n 1, 1) := by decide +kernel
theorem dX5_victims_2 : decode cX5_victims 2 = .ok (.iconst 1, 1) := by decide +kernel
theorem dX5_victims_3 : decode cX5_victims 3 = .ok (.invokevirtual 102, 3) := by decide +kernel
theorem dX5_victims_6 : decode cX5_victims 6 = .ok (.istore_n 2, 1) := by decide +kernel
theorem dX5_victims_7 : decode cX5_victims 7 = .ok (.iload_n 2, 1) := by decide +kernel
theorem dX5_victims_8 : decode cX5_victims 8 = .ok (.ifCond .ge 7, 3) := by decide +kernel
theorem dX5_victims_11 : decode cX5_victims 11 = .ok (.iload_n 2, 1) := by decide +kernel
theorem dX5_victims_12 : decode cX5_victims 12 = .ok (.goto 10, 3) := by decide +kernel
theorem dX5_victims_15 : decode cX5_victims 15 = .ok (.aload_n 0, 1) := by decide +kernel
theorem dX5_victims_16 : decode cX5_victims 16 = .ok (.getfield 10, 3) := by decide +kernel
theorem dX5_victims_19 : decode cX5_victims 19 = .ok (.getfield 111, 3) := by decide +kernel
theorem dX5_victims_22 : decode cX5_victims 22 = .ok (.ireturn, 1) := by decide +kernel
abbrev rmX5_victims : Room := { frames := 5, cells := 0, slots := 0, locals := 119 }
set_option maxRecDepth 20000 in
theorem in_X5_victims_X3 : ∀ w ∈ wsX30, w ∈ wsX5_victims := by decide +kernel
set_option maxRecDepth 20000 in
theorem in_X5_victims_X5 : ∀ w ∈ wsX50, w ∈ wsX5_victims := by decide +kernel

set_option maxRecDepth 100000 in
set_option maxHeartbeats 4000000 in
theorem c_X5_victims {l : Launch} {g : Geo} {M : Nat → Nat → Int32} {P : Nat → Nat} (hP : StP P) {N K B : Nat} (hI : InvC (M (P 0)) N K B) (hNb : Nbr M) {n : Int32} : Met l yX5_victims wsX5_victims rmX5_victims (cPre g [.ref (g.1 144), .int n] M P) (cQi g (fun r M' P' => P = P' ∧ FrF M M' ∧ rtQ eC (M (P 0)) N n (nI 1) (fun _ L => nI (bset (vicE eC (M (P 0)) L) N)) r)) 0 0 (gA g) := by
  refine met_i (cc := cX5_victims) (maxL := 3) (by decide) rfl ⟨rfl, rfl⟩ (Nat.le_of_ble_eq_true rfl) (fun x hx h hret => ?_)
  replace h : Cxk x g cX5_victims 3 wsX5_victims RX5 rmX5_victims := h
  show X x 0 [(0, .ref (g.1 144)), (1, .int n)] [] M P
  refine x_aload_n h 0 dX5_victims_0 rfl rfl ?_
  refine x_iload_n h 1 dX5_victims_1 rfl rfl ?_
  refine x_iconst h (nI 1) dX5_victims_2 (by decide) ?_
  refine x_callV h (As := [.int n, .int (nI 1)]) 2 hx (c_X5_findRoute hP hI hNb) gX5_victims_X5_findRoute rfl ⟨rfl, rfl⟩ (by decide +kernel) rfl (by decide) (by decide) E_144 rfl rfl (Nat.le_of_ble_eq_true rfl) dX5_victims_3 (fun a3 M3 P' hp => ?_)
  obtain ⟨rfl, hF, hQ⟩ := hp
  refine x_istore_n h [(2, .int a3), (0, .ref (g.1 144)), (1, .int n)] dX5_victims_6 rfl (by decide) rfl ?_
  refine x_iload_n h 0 dX5_victims_7 rfl rfl ?_
  refine x_if_ge h 15 dX5_victims_8 (by decide) (fun c_8 => ?_) (fun c_8 => ?_)
  · -- 8 true
    refine x_aload_n h 1 dX5_victims_15 rfl rfl ?_
    refine xg_X5_0 h in_X5_victims_X5 (by decide +kernel) dX5_victims_16 ?_
    refine xg_X3_14 h in_X5_victims_X3 (by decide +kernel) dX5_victims_19 ?_
    exact hret _ _ _ _ _ dX5_victims_22 (by exact ⟨rfl, hF, fnd_rt hQ (fun e => absurd c_8 (Int32.not_le.mpr e)) (fun k b z l1 l2 hk hb hd _ hok hR _ => by obtain rfl : b = 1 := ((nI_eq (by decide) (by omega)).mp hd).symm; exact hR.2.2.1.trans (accR_ok (n := k) hI.1.1.2.1 hk hok).1)⟩)
  · -- 8 false
    refine x_iload_n h 0 dX5_victims_11 rfl rfl ?_
    refine x_goto h 22 dX5_victims_12 (by decide) ?_
    exact hret _ _ _ _ _ dX5_victims_22 (by exact ⟨rfl, hF, fnd_rt hQ (fun _ => rfl) (fun k b z l1 l2 _ _ _ e _ _ _ => by rw [e] at c_8; exact absurd (by decide) c_8)⟩)

set_option maxRecDepth 20000 in
theorem ggX5_routeAt_X5_findRoute : GoodIn wsX5_routeAt wsX5_findRoute := goodIn_r _ [7, 8, 1, 9, 10, 11, 2, 12, 13, 14, 15, 16, 17, 18, 19, 20, 21, 22, 23, 24, 25, 26, 27, 28, 29, 30, 31, 32, 33, 34, 35, 36, 37, 38, 39, 40, 41, 42, 43, 44, 45, 46, 47, 48, 49, 50, 51, 52, 53, 54, 55, 56, 57, 58, 59, 60, 61, 62, 63, 64, 65, 66, 67, 68, 69, 70, 71, 72, 73, 74, 75, 76, 77, 78, 79, 80, 81, 82, 83, 84, 85, 86, 87, 88, 89, 90, 91, 97, 98, 99, 100, 101, 102, 103, 104, 105, 106, 107, 108, 109, 110, 111, 112, 113, 114, 115, 116, 117, 118, 119, 120, 121, 122, 123, 124, 125, 126, 127, 128, 129, 130, 131, 132, 133, 134, 135] (by decide +kernel) (by decide +kernel)
set_option maxRecDepth 20000 in
theorem gX5_routeAt_X5_findRoute : GoodIn wsX5_routeAt (wsV RX5 102 RX5 yX5_findRoute wsX5_findRoute) := goodIn_app (goodIn_of _ (by decide +kernel)) ggX5_routeAt_X5_findRoute
set_option maxRecDepth 20000 in
theorem ggX5_routeAt_X3_cellAt : GoodIn wsX5_routeAt wsX3_cellAt := goodIn_r _ [95, 24, 56, 96, 121, 122, 123, 124, 125, 126, 127, 128, 129, 130, 131, 132, 133, 134, 135] (by decide +kernel) (by decide +kernel)
set_option maxRecDepth 20000 in
theorem gX5_routeAt_X3_cellAt : GoodIn wsX5_routeAt (wsV RX5 114 RX3 yX3_cellAt wsX3_cellAt) := goodIn_app (goodIn_of _ (by decide +kernel)) ggX5_routeAt_X3_cellAt
theorem dX5_routeAt_0 : decode cX5_routeAt 0 = .ok (.iload_n 3, 1) := by decide +kernel
theorem dX5_routeAt_1 : decode cX5_routeAt 1 = .ok (.ifCond .ge 6, 3) := by decide +kernel
theorem dX5_routeAt_4 : decode cX5_routeAt 4 = .ok (.ldc 70, 2) := by decide +kernel
theorem dX5_routeAt_6 : decode cX5_routeAt 6 = .ok (.ireturn, 1) := by decide +kernel
theorem dX5_routeAt_7 : decode cX5_routeAt 7 = .ok (.aload_n 0, 1) := by decide +kernel
theorem dX5_routeAt_8 : decode cX5_routeAt 8 = .ok (.iload_n 1, 1) := by decide +kernel
theorem dX5_routeAt_9 : decode cX5_routeAt 9 = .ok (.iload_n 2, 1) := by decide +kernel
theorem dX5_routeAt_10 : decode cX5_routeAt 10 = .ok (.invokevirtual 102, 3) := by decide +kernel
theorem dX5_routeAt_13 : decode cX5_routeAt 13 = .ok (.istore 4, 2) := by decide +kernel
theorem dX5_routeAt_15 : decode cX5_routeAt 15 = .ok (.iload 4, 2) := by decide +kernel
theorem dX5_routeAt_17 : decode cX5_routeAt 17 = .ok (.ifCond .ge 8, 3) := by decide +kernel
theorem dX5_routeAt_20 : decode cX5_routeAt 20 = .ok (.iload 4, 2) := by decide +kernel
theorem dX5_routeAt_22 : decode cX5_routeAt 22 = .ok (.goto 11, 3) := by decide +kernel
theorem dX5_routeAt_25 : decode cX5_routeAt 25 = .ok (.aload_n 0, 1) := by decide +kernel
theorem dX5_routeAt_26 : decode cX5_routeAt 26 = .ok (.getfield 10, 3) := by decide +kernel
theorem dX5_routeAt_29 : decode cX5_routeAt 29 = .ok (.iload_n 3, 1) := by decide +kernel
theorem dX5_routeAt_30 : decode cX5_routeAt 30 = .ok (.invokevirtual 114, 3) := by decide +kernel
theorem dX5_routeAt_33 : decode cX5_routeAt 33 = .ok (.ireturn, 1) := by decide +kernel
abbrev rmX5_routeAt : Room := { frames := 5, cells := 0, slots := 0, locals := 119 }
set_option maxRecDepth 20000 in
theorem in_X5_routeAt_X5 : ∀ w ∈ wsX50, w ∈ wsX5_routeAt := by decide +kernel

set_option maxRecDepth 100000 in
set_option maxHeartbeats 4000000 in
theorem c_X5_routeAt {l : Launch} {g : Geo} {M : Nat → Nat → Int32} {P : Nat → Nat} (hP : StP P) {N K B : Nat} (hI : InvC (M (P 0)) N K B) (hNb : Nbr M) {n d a : Int32} : Met l yX5_routeAt wsX5_routeAt rmX5_routeAt (cPre g [.ref (g.1 144), .int n, .int d, .int a] M P) (cQi g (fun r M' P' => P = P' ∧ FrF M M' ∧ ((a < 0 ∧ r = -1000001) ∨ ∃ j, j < 2 ^ 31 ∧ a = nI j ∧ rtQ eC (M (P 0)) N n d (fun _ L => atL L j) r))) 0 0 (gA g) := by
  refine met_i (cc := cX5_routeAt) (maxL := 5) (by decide) rfl ⟨rfl, rfl⟩ (Nat.le_of_ble_eq_true rfl) (fun x hx h hret => ?_)
  replace h : Cxk x g cX5_routeAt 5 wsX5_routeAt RX5 rmX5_routeAt := h
  show X x 0 [(0, .ref (g.1 144)), (1, .int n), (2, .int d), (3, .int a)] [] M P
  refine x_iload_n h 3 dX5_routeAt_0 rfl rfl ?_
  refine x_if_ge h 7 dX5_routeAt_1 (by decide) (fun c_1 => ?_) (fun c_1 => ?_)
  · -- 1 true
    obtain ⟨j, hj, rfl⟩ := nI_of (x := a) (Int32.not_lt.mpr c_1)
    refine x_aload_n h 0 dX5_routeAt_7 rfl rfl ?_
    refine x_iload_n h 1 dX5_routeAt_8 rfl rfl ?_
    refine x_iload_n h 2 dX5_routeAt_9 rfl rfl ?_
    refine x_callV h (As := [.int n, .int d]) 2 hx (c_X5_findRoute hP hI hNb) gX5_routeAt_X5_findRoute rfl ⟨rfl, rfl⟩ (by decide +kernel) rfl (by decide) (by decide) E_144 rfl rfl (Nat.le_of_ble_eq_true rfl) dX5_routeAt_10 (fun a10 M10 P' hp => ?_)
    obtain ⟨rfl, hF, hQ⟩ := hp
    refine x_istore h [(4, .int a10), (0, .ref (g.1 144)), (1, .int n), (2, .int d), (3, .int (nI j))] dX5_routeAt_13 (by decide) rfl ?_
    refine x_iload h 0 dX5_routeAt_15 rfl ?_
    refine x_if_ge h 25 dX5_routeAt_17 (by decide) (fun c_17 => ?_) (fun c_17 => ?_)
    · -- 17 true
      obtain ⟨k, b, z, l1, l2, hk, hb, hd, hok, hR, hz⟩ := fnd_ok hQ (Int32.not_lt.mpr c_17)
      refine x_aload_n h 1 dX5_routeAt_25 rfl rfl ?_
      refine xg_X5_0 h in_X5_routeAt_X5 (by decide +kernel) dX5_routeAt_26 ?_
      refine x_iload_n h 4 dX5_routeAt_29 rfl rfl ?_
      refine x_callV h (As := [.int (nI j)]) 1 hx (c_X3_cellAtG hR (rt_len hok) hj) gX5_routeAt_X3_cellAt rfl ⟨rfl, rfl⟩ (by decide +kernel) rfl (by decide) (by decide) E_149 rfl rfl (Nat.le_of_ble_eq_true rfl) dX5_routeAt_30 (fun rv M' P' hp => ?_)
      obtain ⟨⟨rfl, rfl⟩, rfl⟩ := hp
      exact hret _ _ _ _ _ dX5_routeAt_33 (by exact ⟨rfl, hF, Or.inr ⟨j, hj, rfl, fnd_rt hQ (fun e => absurd (Int32.not_lt.mp (Int32.not_lt.mpr c_17)) (Int32.not_le.mpr e)) (fun k2 b2 z2 m1 m2 _ _ _ _ q5 q6 _ => by have := rt_uq hR q6 (rt_len hok) (rt_len q5) (fun a ha => (hok.2.2.2.2 a ha).1) (fun a ha => (q5.2.2.2.2 a ha).1); rw [this])⟩⟩)
    · -- 17 false
      refine x_iload h 0 dX5_routeAt_20 rfl ?_
      refine x_goto h 33 dX5_routeAt_22 (by decide) ?_
      exact hret _ _ _ _ _ dX5_routeAt_33 (by exact ⟨rfl, hF, Or.inr ⟨j, hj, rfl, fnd_rt hQ (fun _ => rfl) (fun k b z l1 l2 _ _ _ e _ _ _ => by rw [e] at c_17; exact absurd (by decide) c_17)⟩⟩)
  · -- 1 false
    refine x_ldc h ((-1000001)) (by decide +kernel) dX5_routeAt_4 ?_
    exact hret _ _ _ _ _ dX5_routeAt_6 (by exact ⟨rfl, fun k _ => rfl, Or.inl ⟨Int32.not_le.mp c_1, rfl⟩⟩)
