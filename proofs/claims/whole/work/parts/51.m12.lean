
def Ch9 (M M1 : Nat → Nat → Int32) : Prop := (∀ k, k < 158 ∨ k = 162 ∨ k = 163 → M1 k = M k) ∧ ∀ j, j = 5 ∨ j = 6 ∨ j = 7 → M1 158 j = M 158 j
theorem Ch_rf9 (M : Nat → Nat → Int32) : Ch9 M M := ⟨fun _ _ => rfl, fun _ _ => rfl⟩

theorem RunS_i {bt : (Nat → Int32) → Nat → Nat → Bool} {fin : (Nat → Int32) → Nat → Nat → Nat → List Nat → Nat → Int32} {e : Enc} {tx : Nat → Nat} {ln : Nat} {X0 : Nat → Int32} {N K0 : Nat} : ∀ {i p : Nat} {X : Nat → Int32} {K : Nat}, RunS bt fin e tx ln X0 N K0 i p X K → i ≤ p
  | 0, p, X, K, h => Nat.zero_le _
  | i + 1, p', X', K', h => by
    obtain ⟨p, X, K, m, h1, -, -, rfl, -⟩ := h
    have := RunS_i h1
    omega
theorem RunS_p {bt : (Nat → Int32) → Nat → Nat → Bool} {fin : (Nat → Int32) → Nat → Nat → Nat → List Nat → Nat → Int32} {e : Enc} {tx : Nat → Nat} {ln : Nat} {X0 : Nat → Int32} {N K0 : Nat} {i p : Nat} {X : Nat → Int32} {K : Nat} (h : RunS bt fin e tx ln X0 N K0 i p X K) : p ≤ ln := by
  cases i with
  | zero => rw [h.1]; exact Nat.zero_le _
  | succ i =>
    obtain ⟨p0, X, K, m, h1, h2, h3, rfl, -⟩ := h
    have := endO_some h3
    omega
theorem RunE_i {M : Nat → Nat → Int32} {bt : (Nat → Int32) → Nat → Nat → Bool} {fin : (Nat → Int32) → Nat → Nat → Nat → List Nat → Nat → Int32} {e : Enc} {tx : Nat → Nat} {ln : Nat} {X0 X' : Nat → Int32} {N K0 i p : Nat} {rr : Int32} (hT : TxN M tx ln) (h : RunE bt fin e tx ln X0 N K0 i p rr X') : i ≤ 60 := by
  obtain ⟨X, K, h, -⟩ := h
  have := RunS_i h
  have := RunS_p h
  have := hT.2.1
  omega

set_option maxRecDepth 20000 in
theorem ggX6_fault_X6_in : GoodIn wsX6_fault wsX6_in := goodIn_r _ [8] (by decide +kernel) (by decide +kernel)
set_option maxRecDepth 20000 in
theorem gX6_fault_X6_in : GoodIn wsX6_fault (va_wsS RX6 38 yX6_in wsX6_in) := goodIn_app (goodIn_of _ (by decide +kernel)) ggX6_fault_X6_in
set_option maxRecDepth 20000 in
theorem ggX6_fault_X6_copy : GoodIn wsX6_fault wsX6_copy := goodIn_r _ [12, 13, 14, 191, 192, 193, 194, 195, 196, 197, 198, 199, 200, 201, 202, 203, 204, 205, 206, 207, 208, 209] (by decide +kernel) (by decide +kernel)
set_option maxRecDepth 20000 in
theorem gX6_fault_X6_copy : GoodIn wsX6_fault (wsV RX6 62 RX6 yX6_copy wsX6_copy) := goodIn_app (goodIn_of _ (by decide +kernel)) ggX6_fault_X6_copy
set_option maxRecDepth 20000 in
theorem ggX6_fault_X6_tries_k0 : GoodIn wsX6_fault (wsX6_tries.take 40) := goodIn_r _ [18, 19, 20, 2, 21, 4, 22, 23, 24, 7, 25, 26, 27, 28, 29, 30, 31, 32, 33, 34, 5, 6, 8, 35, 36, 37, 38, 14, 39, 40, 41, 42, 43, 44, 45, 46, 1, 47, 48, 49] (by decide +kernel) (by decide +kernel)
set_option maxRecDepth 20000 in
theorem ggX6_fault_X6_tries_k1 : GoodIn wsX6_fault ((wsX6_tries.drop 40).take 40) := goodIn_r _ [50, 51, 52, 53, 54, 55, 56, 57, 58, 59, 60, 61, 62, 63, 64, 65, 66, 67, 68, 69, 70, 71, 72, 73, 74, 75, 76, 77, 78, 79, 80, 81, 82, 83, 84, 85, 86, 87, 88, 89] (by decide +kernel) (by decide +kernel)
set_option maxRecDepth 20000 in
theorem ggX6_fault_X6_tries_k2 : GoodIn wsX6_fault (((wsX6_tries.drop 40).drop 40).take 40) := goodIn_r _ [90, 91, 92, 93, 94, 95, 96, 97, 98, 99, 100, 101, 102, 103, 104, 105, 106, 107, 108, 109, 110, 111, 112, 113, 114, 115, 116, 117, 118, 119, 120, 121, 122, 123, 124, 125, 126, 127, 128, 129] (by decide +kernel) (by decide +kernel)
set_option maxRecDepth 20000 in
theorem ggX6_fault_X6_tries_k3 : GoodIn wsX6_fault ((((wsX6_tries.drop 40).drop 40).drop 40).take 40) := goodIn_r _ [130, 131, 132, 133, 134, 135, 136, 137, 138, 139, 140, 141, 142, 143, 144, 145, 146, 147, 148, 149, 150, 151, 152, 153, 154, 155, 156, 157, 158, 159, 160, 161, 162, 163, 164, 165, 166, 167, 168, 169] (by decide +kernel) (by decide +kernel)
set_option maxRecDepth 20000 in
theorem ggX6_fault_X6_tries_k4 : GoodIn wsX6_fault ((((wsX6_tries.drop 40).drop 40).drop 40).drop 40) := goodIn_r _ [3, 170, 171, 172, 173, 174, 175, 176, 177, 178, 179, 180, 181, 182, 183, 184, 185, 186, 191, 192, 193, 194, 195, 196, 197, 198, 199, 200, 201, 202, 203, 204, 205, 206, 207, 208, 209] (by decide +kernel) (by decide +kernel)
theorem ggX6_fault_X6_tries : GoodIn wsX6_fault wsX6_tries := (goodIn_k 40 ggX6_fault_X6_tries_k0 (goodIn_k 40 ggX6_fault_X6_tries_k1 (goodIn_k 40 ggX6_fault_X6_tries_k2 (goodIn_k 40 ggX6_fault_X6_tries_k3 ggX6_fault_X6_tries_k4))))
set_option maxRecDepth 20000 in
theorem gX6_fault_X6_tries : GoodIn wsX6_fault (wsV RX6 240 RX6 yX6_tries wsX6_tries) := goodIn_app (goodIn_of _ (by decide +kernel)) ggX6_fault_X6_tries
set_option maxRecDepth 20000 in
theorem ggX6_fault_X6_back : GoodIn wsX6_fault wsX6_back := goodIn_r _ [190, 14, 13, 191, 192, 193, 194, 195, 196, 197, 198, 199, 200, 201, 202, 203, 204, 205, 206, 207, 208, 209] (by decide +kernel) (by decide +kernel)
set_option maxRecDepth 20000 in
theorem gX6_fault_X6_back : GoodIn wsX6_fault (wsV RX6 243 RX6 yX6_back wsX6_back) := goodIn_app (goodIn_of _ (by decide +kernel)) ggX6_fault_X6_back
theorem dX6_fault_0 : decode cX6_fault 0 = .ok (.iload_n 1, 1) := by decide +kernel
theorem dX6_fault_1 : decode cX6_fault 1 = .ok (.iconst 0, 1) := by decide +kernel
theorem dX6_fault_2 : decode cX6_fault 2 = .ok (.iconst 1, 1) := by decide +kernel
theorem dX6_fault_3 : decode cX6_fault 3 = .ok (.invokestatic 38, 3) := by decide +kernel
theorem dX6_fault_6 : decode cX6_fault 6 = .ok (.ifCond .ne 6, 3) := by decide +kernel
theorem dX6_fault_9 : decode cX6_fault 9 = .ok (.ldc 61, 2) := by decide +kernel
theorem dX6_fault_11 : decode cX6_fault 11 = .ok (.ireturn, 1) := by decide +kernel
theorem dX6_fault_12 : decode cX6_fault 12 = .ok (.aload_n 0, 1) := by decide +kernel
theorem dX6_fault_13 : decode cX6_fault 13 = .ok (.invokevirtual 62, 3) := by decide +kernel
theorem dX6_fault_16 : decode cX6_fault 16 = .ok (.aload_n 0, 1) := by decide +kernel
theorem dX6_fault_17 : decode cX6_fault 17 = .ok (.invokevirtual 240, 3) := by decide +kernel
theorem dX6_fault_20 : decode cX6_fault 20 = .ok (.aload_n 0, 1) := by decide +kernel
theorem dX6_fault_21 : decode cX6_fault 21 = .ok (.invokevirtual 243, 3) := by decide +kernel
theorem dX6_fault_24 : decode cX6_fault 24 = .ok (.aload_n 0, 1) := by decide +kernel
theorem dX6_fault_25 : decode cX6_fault 25 = .ok (.getfield 228, 3) := by decide +kernel
theorem dX6_fault_28 : decode cX6_fault 28 = .ok (.ifCond .ne 8, 3) := by decide +kernel
theorem dX6_fault_31 : decode cX6_fault 31 = .ok (.ldc 85, 2) := by decide +kernel
theorem dX6_fault_33 : decode cX6_fault 33 = .ok (.goto 18, 3) := by decide +kernel
theorem dX6_fault_36 : decode cX6_fault 36 = .ok (.iload_n 1, 1) := by decide +kernel
theorem dX6_fault_37 : decode cX6_fault 37 = .ok (.ifCond .ne 10, 3) := by decide +kernel
theorem dX6_fault_40 : decode cX6_fault 40 = .ok (.aload_n 0, 1) := by decide +kernel
theorem dX6_fault_41 : decode cX6_fault 41 = .ok (.getfield 234, 3) := by decide +kernel
theorem dX6_fault_44 : decode cX6_fault 44 = .ok (.goto 7, 3) := by decide +kernel
theorem dX6_fault_47 : decode cX6_fault 47 = .ok (.aload_n 0, 1) := by decide +kernel
theorem dX6_fault_48 : decode cX6_fault 48 = .ok (.getfield 228, 3) := by decide +kernel
theorem dX6_fault_51 : decode cX6_fault 51 = .ok (.ireturn, 1) := by decide +kernel
abbrev rmX6_fault : Room := { frames := 8, cells := 0, slots := 0, locals := 192 }
set_option maxRecDepth 20000 in
theorem in_X6_fault_X6 : ∀ w ∈ wsX60, w ∈ wsX6_fault := by decide +kernel

set_option maxRecDepth 100000 in
set_option maxHeartbeats 4000000 in
theorem c_X6_fault {l : Launch} {g : Geo} {M : Nat → Nat → Int32} {P : Nat → Nat} {N K B : Nat} (hI : InvX eM (M 159) N K B) {tx : Nat → Nat} {ln : Nat} (hT : TxN M tx ln) {w : Int32} : Met l yX6_fault wsX6_fault rmX6_fault (cPre g [.ref (g.1 158), .int w] M P) (cQi g (fun r M' P' => P = P' ∧ Ch9 M M' ∧ (∀ j, j < 379 → M' 159 j = M 159 j) ∧ FltQ bM finM eM tx ln (M 159) N K w r)) 0 0 (gA g) := by
  refine met_i (cc := cX6_fault) (maxL := 2) (by decide) rfl ⟨rfl, rfl⟩ (Nat.le_of_ble_eq_true rfl) (fun x hx h hret => ?_)
  replace h : Cxk x g cX6_fault 2 wsX6_fault RX6 rmX6_fault := h
  show X x 0 [(0, .ref (g.1 158)), (1, .int w)] [] M P
  refine x_iload_n h 1 dX6_fault_0 rfl rfl ?_
  refine x_iconst h (nI 0) dX6_fault_1 (by decide) ?_
  refine x_iconst h (nI 1) dX6_fault_2 (by decide) ?_
  refine x_callS h (As := [.int w, .int (nI 0), .int (nI 1)]) 3 hx (c_X6_in) gX6_fault_X6_in rfl ⟨rfl, rfl⟩ (by decide +kernel) rfl (by decide) (Nat.le_of_ble_eq_true rfl) dX6_fault_3 (fun rv M' P' hp => ?_)
  obtain ⟨⟨rfl, rfl⟩, hp⟩ := hp
  rcases hp with ⟨iy3, rfl⟩ | ⟨in3, rfl⟩
  · -- in
    obtain ⟨k3, hk3, rfl⟩ := (InR_in2 (N := 1) (by omega)).mp iy3
    refine x_if_ne h 12 dX6_fault_6 (by decide) (fun _ => ?_) (fun c => absurd c (by decide))
    refine x_aload_n h 0 dX6_fault_12 rfl rfl ?_
    refine x_callVv h (As := []) 0 hx (c_X6_copy) gX6_fault_X6_copy rfl ⟨rfl, rfl⟩ (by decide +kernel) rfl (by decide) (by decide) E_158 rfl rfl (Nat.le_of_ble_eq_true rfl) dX6_fault_13 (fun Mc P' hp => ?_)
    obtain ⟨rfl, hMc⟩ := hp
    have hC : Ch M Mc := by rw [hMc]; exact Ch_copy M
    have hc9 : Mc 159 = M 159 := by rw [hMc, va_up_n _ _ (by decide)]
    have hIc := hI; rw [← hc9] at hIc
    have hTc : TxN Mc tx ln := TxN_cg (hC.2.2 7 (by omega)) (hC.2.1 163 (by omega)) hT
    refine x_aload_n h 0 dX6_fault_16 rfl rfl ?_
    refine x_callVv h (As := []) 0 hx (c_X6_tries hIc hTc) gX6_fault_X6_tries rfl ⟨rfl, rfl⟩ (by decide +kernel) rfl (by decide) (by decide) E_158 rfl rfl (Nat.le_of_ble_eq_true rfl) dX6_fault_17 (fun M3 P' hp => ?_)
    obtain ⟨rfl, hFX, i, p, rr, hRE, h16, h18, h17⟩ := hp
    rw [hc9] at hRE
    have hC3 := Ch_X hC hFX
    refine x_aload_n h 0 dX6_fault_20 rfl rfl ?_
    refine x_callVv h (As := []) 0 hx (c_X6_back) gX6_fault_X6_back rfl ⟨rfl, rfl⟩ (by decide +kernel) rfl (by decide) (by decide) E_158 rfl rfl (Nat.le_of_ble_eq_true rfl) dX6_fault_21 (fun M4 P' hp => ?_)
    obtain ⟨rfl, hM4⟩ := hp
    have hb9 : ∀ j, j < 379 → M4 159 j = M 159 j := fun j hj => by rw [hM4, va_up_k]; exact (if_pos hj).trans (hC3.1 j hj)
    have h48 : M4 158 = M3 158 := by rw [hM4, va_up_n _ _ (by decide)]
    have hC4 : Ch M M4 := by rw [hM4]; exact Ch_v _ hC3
    refine x_aload_n h 0 dX6_fault_24 rfl rfl ?_
    refine xg_X6_16 h in_X6_fault_X6 (by decide +kernel) dX6_fault_25 ?_
    refine x_top (rr) (by rw [h48]; exact h16) ?_
    refine x_if_ne h 36 dX6_fault_28 (by decide) (fun c_28 => ?_) (fun c_28 => ?_)
    · -- 28 true
      refine x_iload_n h 1 dX6_fault_36 rfl rfl ?_
      refine x_if_ne_n h 47 dX6_fault_37 (by decide) (by omega) (fun c_37 => ?_) (fun c_37 => ?_)
      · -- 37 true
        refine x_aload_n h 0 dX6_fault_47 rfl rfl ?_
        refine xg_X6_16 h in_X6_fault_X6 (by decide +kernel) dX6_fault_48 ?_
        refine x_top (rr) (by rw [h48]; exact h16) ?_
        exact hret _ _ _ _ _ dX6_fault_51 (by exact ⟨rfl, hC4.2, hb9, Or.inr ⟨k3, by omega, rfl, i, p, rr, _, hRE, Or.inr (Or.inr ⟨c_28, by omega, rfl⟩)⟩⟩)
      · -- 37 false
        refine x_aload_n h 0 dX6_fault_40 rfl rfl ?_
        refine xg_X6_17 h in_X6_fault_X6 (by decide +kernel) dX6_fault_41 ?_
        refine x_top (nI p) (by rw [h48]; exact h17 c_28) ?_
        refine x_goto h 51 dX6_fault_44 (by decide) ?_
        exact hret _ _ _ _ _ dX6_fault_51 (by exact ⟨rfl, hC4.2, hb9, Or.inr ⟨k3, by omega, rfl, i, p, rr, _, hRE, Or.inr (Or.inl ⟨c_28, by omega, rfl⟩)⟩⟩)
    · -- 28 false
      refine x_ldc h ((-1000004)) (by decide +kernel) dX6_fault_31 ?_
      refine x_goto h 51 dX6_fault_33 (by decide) ?_
      exact hret _ _ _ _ _ dX6_fault_51 (by exact ⟨rfl, hC4.2, hb9, Or.inr ⟨k3, by omega, rfl, i, p, rr, _, hRE, Or.inl ⟨c_28, rfl⟩⟩⟩)
  · -- out
    have nk3 := fun q => in3 ((InR_in2 (N := 1) (by omega)).mpr q)
    refine x_if_ne h 12 dX6_fault_6 (by decide) (fun c => absurd c (by decide)) (fun _ => ?_)
    refine x_ldc h ((-1000001)) (by decide +kernel) dX6_fault_9 ?_
    exact hret _ _ _ _ _ dX6_fault_11 (by exact ⟨rfl, Ch_rf9 M, fun _ _ => rfl, Or.inl ⟨nk3, rfl⟩⟩)
