set_option maxRecDepth 20000 in
theorem ggX6_play_X6_copy : GoodIn wsX6_play wsX6_copy := goodIn_r _ [8, 9, 10, 198, 199, 200, 201, 202, 203, 204, 205, 206, 207, 208, 209, 210, 211, 212, 213, 214, 215, 216] (by decide +kernel) (by decide +kernel)
set_option maxRecDepth 20000 in
theorem gX6_play_X6_copy : GoodIn wsX6_play (wsV RX6 62 RX6 yX6_copy wsX6_copy) := goodIn_app (goodIn_of _ (by decide +kernel)) ggX6_play_X6_copy
set_option maxRecDepth 20000 in
theorem ggX6_play_X6_tries_k0 : GoodIn wsX6_play (wsX6_tries.take 40) := goodIn_r _ [14, 15, 3, 1, 16, 17, 18, 19, 20, 7, 21, 22, 23, 24, 25, 26, 27, 28, 29, 30, 31, 32, 33, 34, 35, 36, 37, 10, 38, 39, 40, 41, 42, 43, 44, 45, 46, 2, 47, 48] (by decide +kernel) (by decide +kernel)
set_option maxRecDepth 20000 in
theorem ggX6_play_X6_tries_k1 : GoodIn wsX6_play ((wsX6_tries.drop 40).take 40) := goodIn_r _ [49, 50, 51, 52, 53, 54, 55, 56, 57, 58, 59, 60, 61, 62, 63, 64, 65, 66, 67, 68, 69, 70, 71, 72, 73, 74, 75, 76, 77, 78, 79, 80, 81, 82, 83, 84, 85, 86, 87, 88] (by decide +kernel) (by decide +kernel)
set_option maxRecDepth 20000 in
theorem ggX6_play_X6_tries_k2 : GoodIn wsX6_play (((wsX6_tries.drop 40).drop 40).take 40) := goodIn_r _ [89, 90, 91, 92, 93, 94, 95, 96, 97, 98, 99, 100, 101, 102, 103, 104, 105, 106, 107, 108, 109, 110, 111, 112, 113, 114, 115, 116, 117, 118, 119, 120, 121, 122, 123, 124, 125, 126, 127, 128] (by decide +kernel) (by decide +kernel)
set_option maxRecDepth 20000 in
theorem ggX6_play_X6_tries_k3 : GoodIn wsX6_play ((((wsX6_tries.drop 40).drop 40).drop 40).take 40) := goodIn_r _ [129, 130, 131, 132, 133, 134, 135, 136, 137, 138, 139, 140, 141, 142, 143, 144, 145, 146, 147, 148, 149, 150, 151, 152, 153, 154, 155, 156, 157, 158, 159, 160, 161, 162, 163, 164, 165, 166, 167, 168] (by decide +kernel) (by decide +kernel)
set_option maxRecDepth 20000 in
theorem ggX6_play_X6_tries_k4 : GoodIn wsX6_play ((((wsX6_tries.drop 40).drop 40).drop 40).drop 40) := goodIn_r _ [169, 170, 171, 172, 173, 174, 175, 176, 177, 178, 179, 180, 181, 182, 183, 184, 185, 186, 198, 199, 200, 201, 202, 203, 204, 205, 206, 207, 208, 209, 210, 211, 212, 213, 214, 215, 216] (by decide +kernel) (by decide +kernel)
theorem ggX6_play_X6_tries : GoodIn wsX6_play wsX6_tries := (goodIn_k 40 ggX6_play_X6_tries_k0 (goodIn_k 40 ggX6_play_X6_tries_k1 (goodIn_k 40 ggX6_play_X6_tries_k2 (goodIn_k 40 ggX6_play_X6_tries_k3 ggX6_play_X6_tries_k4))))
set_option maxRecDepth 20000 in
theorem gX6_play_X6_tries : GoodIn wsX6_play (wsV RX6 240 RX6 yX6_tries wsX6_tries) := goodIn_app (goodIn_of _ (by decide +kernel)) ggX6_play_X6_tries
set_option maxRecDepth 20000 in
theorem ggX6_play_X6_back : GoodIn wsX6_play wsX6_back := goodIn_r _ [190, 10, 9, 198, 199, 200, 201, 202, 203, 204, 205, 206, 207, 208, 209, 210, 211, 212, 213, 214, 215, 216] (by decide +kernel) (by decide +kernel)
set_option maxRecDepth 20000 in
theorem gX6_play_X6_back : GoodIn wsX6_play (wsV RX6 243 RX6 yX6_back wsX6_back) := goodIn_app (goodIn_of _ (by decide +kernel)) ggX6_play_X6_back
set_option maxRecDepth 20000 in
theorem ggX6_play_X6_recorded : GoodIn wsX6_play wsX6_recorded := goodIn_r _ [194, 195, 196, 9, 197, 198, 199, 200, 201, 202, 203, 204, 205, 206, 207, 208, 209, 210, 211, 212, 213, 214, 215, 216] (by decide +kernel) (by decide +kernel)
set_option maxRecDepth 20000 in
theorem gX6_play_X6_recorded : GoodIn wsX6_play (wsV RX6 65 RX6 yX6_recorded wsX6_recorded) := goodIn_app (goodIn_of _ (by decide +kernel)) ggX6_play_X6_recorded
theorem dX6_play_0 : decode cX6_play 0 = .ok (.aload_n 0, 1) := by decide +kernel
theorem dX6_play_1 : decode cX6_play 1 = .ok (.invokevirtual 62, 3) := by decide +kernel
theorem dX6_play_4 : decode cX6_play 4 = .ok (.aload_n 0, 1) := by decide +kernel
theorem dX6_play_5 : decode cX6_play 5 = .ok (.invokevirtual 240, 3) := by decide +kernel
theorem dX6_play_8 : decode cX6_play 8 = .ok (.aload_n 0, 1) := by decide +kernel
theorem dX6_play_9 : decode cX6_play 9 = .ok (.getfield 228, 3) := by decide +kernel
theorem dX6_play_12 : decode cX6_play 12 = .ok (.ifCond .eq 10, 3) := by decide +kernel
theorem dX6_play_15 : decode cX6_play 15 = .ok (.aload_n 0, 1) := by decide +kernel
theorem dX6_play_16 : decode cX6_play 16 = .ok (.invokevirtual 243, 3) := by decide +kernel
theorem dX6_play_19 : decode cX6_play 19 = .ok (.ldc 53, 2) := by decide +kernel
theorem dX6_play_21 : decode cX6_play 21 = .ok (.ireturn, 1) := by decide +kernel
theorem dX6_play_22 : decode cX6_play 22 = .ok (.aload_n 0, 1) := by decide +kernel
theorem dX6_play_23 : decode cX6_play 23 = .ok (.aload_n 0, 1) := by decide +kernel
theorem dX6_play_24 : decode cX6_play 24 = .ok (.getfield 231, 3) := by decide +kernel
theorem dX6_play_27 : decode cX6_play 27 = .ok (.invokevirtual 65, 3) := by decide +kernel
theorem dX6_play_30 : decode cX6_play 30 = .ok (.ireturn, 1) := by decide +kernel
abbrev rmX6_play : Room := { frames := 8, cells := 0, slots := 0, locals := 192 }
set_option maxRecDepth 20000 in
theorem in_X6_play_X6 : ∀ w ∈ wsX60, w ∈ wsX6_play := by decide +kernel

set_option maxRecDepth 100000 in
set_option maxHeartbeats 4000000 in
theorem c_X6_play {l : Launch} {g : Geo} {M : Nat → Nat → Int32} {P : Nat → Nat} {N K B : Nat} (hI : InvX eM (M 159) N K B) {tx : Nat → Nat} {ln : Nat} (hT : TxN M tx ln) {many at_ : Nat} (hm : M 158 5 = nI many) (hm4 : many ≤ 4) (hat : M 158 6 = nI at_) (hat4 : at_ < 4) : Met l yX6_play wsX6_play rmX6_play (cPre g [.ref (g.1 158)] M P) (cQi g (fun r M' P' => P = P' ∧ FrM M M' ∧ KpM many at_ (M 159) M r M' ∧ ∃ X', PlyQ bM finM eM tx ln (M 159) N K r X' ∧ (¬ r < 0 → M' 159 = X') ∧ (r < 0 → ∀ j, j < 379 → M' 159 j = M 159 j))) 0 0 (gA g) := by
  refine met_i (cc := cX6_play) (maxL := 1) (by decide) rfl ⟨rfl, rfl⟩ (Nat.le_of_ble_eq_true rfl) (fun x hx h hret => ?_)
  replace h : Cxk x g cX6_play 1 wsX6_play RX6 rmX6_play := h
  show X x 0 [(0, .ref (g.1 158))] [] M P
  refine x_aload_n h 0 dX6_play_0 rfl rfl ?_
  refine x_callVv h (As := []) 0 hx (c_X6_copy) gX6_play_X6_copy rfl ⟨rfl, rfl⟩ (by decide +kernel) rfl (by decide) (by decide) E_158 rfl rfl (Nat.le_of_ble_eq_true rfl) dX6_play_1 (fun Mc P' hp => ?_)
  obtain ⟨rfl, hMc⟩ := hp
  have hC : Ch M Mc := by rw [hMc]; exact Ch_copy M
  have hc9 : Mc 159 = M 159 := by rw [hMc, va_up_n _ _ (by decide)]
  have hIc := hI; rw [← hc9] at hIc
  have hTc : TxN Mc tx ln := TxN_cg (hC.2.2 7 (by omega)) (hC.2.1 163 (by omega)) hT
  refine x_aload_n h 0 dX6_play_4 rfl rfl ?_
  refine x_callVv h (As := []) 0 hx (c_X6_tries hIc hTc) gX6_play_X6_tries rfl ⟨rfl, rfl⟩ (by decide +kernel) rfl (by decide) (by decide) E_158 rfl rfl (Nat.le_of_ble_eq_true rfl) dX6_play_5 (fun M3 P' hp => ?_)
  obtain ⟨rfl, hFX, i, p, rr, hRE, h16, h18, h17⟩ := hp
  rw [hc9] at hRE
  have hC3 := Ch_X hC hFX
  refine x_aload_n h 0 dX6_play_8 rfl rfl ?_
  refine xg_X6_16 h in_X6_play_X6 (by decide +kernel) dX6_play_9 ?_
  refine x_top (rr) (h16) ?_
  refine x_if_eq h 22 dX6_play_12 (by decide) (fun c_12 => ?_) (fun c_12 => ?_)
  · -- 12 true
    refine x_aload_n h 0 dX6_play_22 rfl rfl ?_
    refine x_aload_n h 0 dX6_play_23 rfl rfl ?_
    refine xg_X6_18 h in_X6_play_X6 (by decide +kernel) dX6_play_24 ?_
    refine x_top (nI i) (h18 c_12) ?_
    have hCh := hC3
    have hi31 := RunE_i hT hRE
    refine x_callV h (As := [.int (nI i)]) 1 hx (c_X6_recorded ((hCh.2.2 5 (by decide)).trans hm) hm4 ((hCh.2.2 6 (by decide)).trans hat) hat4) gX6_play_X6_recorded rfl ⟨rfl, rfl⟩ (by decide +kernel) rfl (by decide) (by decide) E_158 rfl rfl (Nat.le_of_ble_eq_true rfl) dX6_play_27 (fun rv Mr P' hp => ?_)
    obtain ⟨rfl, rfl, hrec⟩ := hp
    obtain ⟨f1, f2, f3⟩ := rec_mk hCh hm hat hrec
    exact hret _ _ _ _ _ dX6_play_30 (by exact ⟨rfl, f1, f2, _, ⟨i, p, rr, hRE, Or.inl ⟨c_12, rfl⟩⟩, fun _ => f3, fun q => absurd q (nI_pos (by omega))⟩)
  · -- 12 false
    refine x_aload_n h 0 dX6_play_15 rfl rfl ?_
    refine x_callVv h (As := []) 0 hx (c_X6_back) gX6_play_X6_back rfl ⟨rfl, rfl⟩ (by decide +kernel) rfl (by decide) (by decide) E_158 rfl rfl (Nat.le_of_ble_eq_true rfl) dX6_play_16 (fun M4 P' hp => ?_)
    obtain ⟨rfl, hM4⟩ := hp
    have hb9 : ∀ j, j < 379 → M4 159 j = M 159 j := fun j hj => by rw [hM4, va_up_k]; exact (if_pos hj).trans (hC3.1 j hj)
    have h48 : M4 158 = M3 158 := by rw [hM4, va_up_n _ _ (by decide)]
    have hC4 : Ch M M4 := by rw [hM4]; exact Ch_v _ hC3
    refine x_ldc h ((-1000002)) (by decide +kernel) dX6_play_19 ?_
    exact hret _ _ _ _ _ dX6_play_21 (by refine ⟨rfl, ⟨fun k hk => hC4.2.1 k (Or.inl hk), hC4.2.1 163 (by omega), hC4.2.2 7 (by omega)⟩, Or.inl ⟨by decide, hC4.2.1 162 (by omega), (hC4.2.2 5 (by omega)).trans hm, (hC4.2.2 6 (by omega)).trans hat⟩, _, ⟨i, p, rr, hRE, Or.inr ⟨c_12, rfl⟩⟩, fun q => absurd (by decide) q, fun _ => hb9⟩)
