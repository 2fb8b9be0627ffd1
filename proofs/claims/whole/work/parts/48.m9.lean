
theorem lz_free {X : Nat → Int32} {N K B k a : Nat} {L : List Nat} (hI : InvX eM X N K B) (hk : k < N) (ha : a ∈ L) (hal : a < 162) (ho : twX eM X N k true a ≠ none) : lzE eM X N L N a = nI 0 ∨ lzE eM X N L N a = nI (1 + k) ∨ lzE eM X N L N a = nI (11 + k) := by
  have hN := hI.1.2.1
  unfold lzE
  split
  · exact Or.inl rfl
  · rename_i hno
    by_cases h1 : X (7 + a) = eM.1
    · exact Or.inl h1
    · by_cases h2 : X (7 + a) = eM.2.2 k
      · exact Or.inr (Or.inr h2)
      · by_cases h3 : ∃ w, w < N ∧ X (7 + a) = eM.2.1 w
        · obtain ⟨w, w1, w2⟩ := h3
          exact absurd ⟨w, w1, w1, w2, decide_eq_true ⟨a, ha, w2⟩⟩ hno
        · exact absurd (twE_n h1 h2 (Or.inr (fun w hw q => h3 ⟨w, hw, q⟩))) ho

set_option maxRecDepth 20000 in
theorem ggX6_hear_X6_copy : GoodIn wsX6_hear wsX6_copy := goodIn_r _ [5, 6, 7, 61, 62, 63, 64, 65, 66, 67, 68, 69, 70, 71, 72, 73, 74, 75, 76, 77, 78, 79] (by decide +kernel) (by decide +kernel)
set_option maxRecDepth 20000 in
theorem gX6_hear_X6_copy : GoodIn wsX6_hear (wsV RX6 62 RX6 yX6_copy wsX6_copy) := goodIn_app (goodIn_of _ (by decide +kernel)) ggX6_hear_X6_copy
set_option maxRecDepth 20000 in
theorem ggX6_hear_X6_hears : GoodIn wsX6_hear wsX6_hears := goodIn_r _ [11, 12, 7, 13, 14, 15, 4, 16, 17, 18, 19, 20, 21, 22, 23, 24, 25, 26, 27, 28, 29, 30, 31, 32, 33, 34, 35, 36, 37, 38, 39, 40, 41, 42, 43, 44, 45, 46, 47, 48, 49, 50, 51, 52, 53, 61, 62, 63, 64, 65, 66, 67, 68, 69, 70, 71, 72, 73, 74, 75, 76, 77, 78, 79] (by decide +kernel) (by decide +kernel)
set_option maxRecDepth 20000 in
theorem gX6_hear_X6_hears : GoodIn wsX6_hear (wsV RX6 195 RX6 yX6_hears wsX6_hears) := goodIn_app (goodIn_of _ (by decide +kernel)) ggX6_hear_X6_hears
set_option maxRecDepth 20000 in
theorem ggX6_hear_X6_recorded : GoodIn wsX6_hear wsX6_recorded := goodIn_r _ [57, 58, 59, 6, 60, 61, 62, 63, 64, 65, 66, 67, 68, 69, 70, 71, 72, 73, 74, 75, 76, 77, 78, 79] (by decide +kernel) (by decide +kernel)
set_option maxRecDepth 20000 in
theorem gX6_hear_X6_recorded : GoodIn wsX6_hear (wsV RX6 65 RX6 yX6_recorded wsX6_recorded) := goodIn_app (goodIn_of _ (by decide +kernel)) ggX6_hear_X6_recorded
theorem dX6_hear_0 : decode cX6_hear 0 = .ok (.aload_n 0, 1) := by decide +kernel
theorem dX6_hear_1 : decode cX6_hear 1 = .ok (.invokevirtual 62, 3) := by decide +kernel
theorem dX6_hear_4 : decode cX6_hear 4 = .ok (.aload_n 0, 1) := by decide +kernel
theorem dX6_hear_5 : decode cX6_hear 5 = .ok (.aload_n 0, 1) := by decide +kernel
theorem dX6_hear_6 : decode cX6_hear 6 = .ok (.invokevirtual 195, 3) := by decide +kernel
theorem dX6_hear_9 : decode cX6_hear 9 = .ok (.invokevirtual 65, 3) := by decide +kernel
theorem dX6_hear_12 : decode cX6_hear 12 = .ok (.ireturn, 1) := by decide +kernel
abbrev rmX6_hear : Room := { frames := 4, cells := 0, slots := 0, locals := 92 }

set_option maxRecDepth 100000 in
set_option maxHeartbeats 4000000 in
theorem c_X6_hear {l : Launch} {g : Geo} {M : Nat → Nat → Int32} {P : Nat → Nat} {N K B : Nat} (hI : InvX eM (M 159) N K B) {many at_ : Nat} (hm : M 158 5 = nI many) (hm4 : many ≤ 4) (hat : M 158 6 = nI at_) (hat4 : at_ < 4) : Met l yX6_hear wsX6_hear rmX6_hear (cPre g [.ref (g.1 158)] M P) (cQi g (fun r M' P' => P = P' ∧ FrM M M' ∧ KpM many at_ (M 159) M r M' ∧ hearQ bM eM (M 159) N K r (M' 159))) 0 0 (gA g) := by
  refine met_i (cc := cX6_hear) (maxL := 1) (by decide) rfl ⟨rfl, rfl⟩ (Nat.le_of_ble_eq_true rfl) (fun x hx h hret => ?_)
  replace h : Cxk x g cX6_hear 1 wsX6_hear RX6 rmX6_hear := h
  show X x 0 [(0, .ref (g.1 158))] [] M P
  refine x_aload_n h 0 dX6_hear_0 rfl rfl ?_
  refine x_callVv h (As := []) 0 hx (c_X6_copy) gX6_hear_X6_copy rfl ⟨rfl, rfl⟩ (by decide +kernel) rfl (by decide) (by decide) E_158 rfl rfl (Nat.le_of_ble_eq_true rfl) dX6_hear_1 (fun Mc P' hp => ?_)
  obtain ⟨rfl, hMc⟩ := hp
  have hC : Ch M Mc := by rw [hMc]; exact Ch_copy M
  have hc9 : Mc 159 = M 159 := by rw [hMc, va_up_n _ _ (by decide)]
  have hIc := hI; rw [← hc9] at hIc
  refine x_aload_n h 0 dX6_hear_4 rfl rfl ?_
  refine x_aload_n h 0 dX6_hear_5 rfl rfl ?_
  refine x_callV h (As := []) 0 hx (c_X6_hears hIc) gX6_hear_X6_hears rfl ⟨rfl, rfl⟩ (by decide +kernel) rfl (by decide) (by decide) E_158 rfl rfl (Nat.le_of_ble_eq_true rfl) dX6_hear_6 (fun a6 M6 P' hp => ?_)
  obtain ⟨rfl, X6, hQ6, hM6⟩ := hp
  obtain ⟨W1, hW1⟩ : ∃ q : Nat → Nat → Int32, q = M6 := ⟨_, rfl⟩
  refine x_mem W1 hW1.symm ?_
  have hCh : Ch M W1 := by rw [hW1, hM6]; (repeat (first | apply Ch_s | apply Ch_v)); exact hC
  refine x_callV h (As := [.int a6]) 1 hx (c_X6_recorded ((hCh.2.2 5 (by decide)).trans hm) hm4 ((hCh.2.2 6 (by decide)).trans hat) hat4) gX6_hear_X6_recorded rfl ⟨rfl, rfl⟩ (by decide +kernel) rfl (by decide) (by decide) E_158 rfl rfl (Nat.le_of_ble_eq_true rfl) dX6_hear_9 (fun rv Mr P' hp => ?_)
  obtain ⟨rfl, rfl, hrec⟩ := hp
  obtain ⟨f1, f2, f3⟩ := rec_mk hCh hm hat hrec
  exact hret _ _ _ _ _ dX6_hear_12 (by refine ⟨rfl, f1, f2, ?_⟩; rw [f3, hW1, hM6, va_up_k, ← hc9]; exact hQ6)

set_option maxRecDepth 100000 in
set_option maxHeartbeats 4000000 in
theorem c_X6_dueG {l : Launch} {g : Geo} {M : Nat → Nat → Int32} {P : Nat → Nat} {L : List Nat} (hR : RtN M L) (hL : L.length ≤ 324) (hLa : ∀ a, a ∈ L → a < 162) {pr sb : Nat} {k : Nat} (hk6 : k < 6) (hpr : M 159 1 = nI pr) (hsb : M 159 (169 + 9 * k + 3) = nI sb) : Met l yX6_due wsX6_due rmX6_due (cPre g [.ref (g.1 158), .int (nI k)] M P) (cQi g (fun r M' P' => (P = P' ∧ M = M') ∧ r = nI (thrE eM (M 159) L k * (pr + sb)))) 0 0 (gA g) := by
  refine met_i (cc := cX6_due) (maxL := 2) (by decide) rfl ⟨rfl, rfl⟩ (Nat.le_of_ble_eq_true rfl) (fun x hx h hret => ?_)
  replace h : Cxk x g cX6_due 2 wsX6_due RX6 rmX6_due := h
  show X x 0 [(0, .ref (g.1 158)), (1, .int (nI k))] [] M P
  refine x_aload_n h 0 dX6_due_0 rfl rfl ?_
  refine x_iload_n h 1 dX6_due_1 rfl rfl ?_
  refine x_callV h (As := [.int (nI k)]) 1 hx (c_X6_through hR hL hLa (by omega)) gX6_due_X6_through rfl ⟨rfl, rfl⟩ (by decide +kernel) rfl (by decide) (by decide) E_158 rfl rfl (Nat.le_of_ble_eq_true rfl) dX6_due_2 (fun rv M' P' hp => ?_)
  obtain ⟨⟨rfl, rfl⟩, rfl⟩ := hp
  refine x_aload_n h 0 dX6_due_5 rfl rfl ?_
  refine xg_X6_0 h in_X6_due_X6 (by decide +kernel) dX6_due_6 ?_
  refine x_iconst h (nI 1) dX6_due_9 (by decide) ?_
  refine xl_159 h dX6_due_10 (by decide) ?_
  refine x_top (nI pr) (hpr) ?_
  refine x_aload_n h 0 dX6_due_11 rfl rfl ?_
  refine x_iload_n h 1 dX6_due_12 rfl rfl ?_
  refine x_iconst h (nI 3) dX6_due_13 (by decide) ?_
  refine x_callV h (As := [.int (nI k), .int (nI 3)]) 2 hx (c_X6_of (by omega) (by decide)) gX6_due_X6_of rfl ⟨rfl, rfl⟩ (by decide +kernel) rfl (by decide) (by decide) E_158 rfl rfl (Nat.le_of_ble_eq_true rfl) dX6_due_14 (fun rv M' P' hp => ?_)
  obtain ⟨⟨rfl, rfl⟩, rfl⟩ := hp
  refine x_top (nI sb) (hsb) ?_
  refine x_iadd_n h dX6_due_17 ?_
  refine x_imul_n h dX6_due_18 ?_
  exact hret _ _ _ _ _ dX6_due_19 (by exact ⟨⟨rfl, rfl⟩, rfl⟩)

set_option maxRecDepth 20000 in
theorem ggX6_digsFor_X6_isNet : GoodIn wsX6_digsFor wsX6_isNet := goodIn_r _ [9, 3, 10, 11, 8, 12, 102, 103, 104, 105, 106, 107, 108, 109, 110, 111, 112, 113, 114, 115, 116, 117, 118, 119, 120] (by decide +kernel) (by decide +kernel)
set_option maxRecDepth 20000 in
theorem gX6_digsFor_X6_isNet : GoodIn wsX6_digsFor (wsV RX6 77 RX6 yX6_isNet wsX6_isNet) := goodIn_app (goodIn_of _ (by decide +kernel)) ggX6_digsFor_X6_isNet
set_option maxRecDepth 20000 in
theorem ggX6_digsFor_X6_isJoined : GoodIn wsX6_digsFor wsX6_isJoined := goodIn_r _ [16, 17, 18, 19, 8, 20, 3, 102, 103, 104, 105, 106, 107, 108, 109, 110, 111, 112, 113, 114, 115, 116, 117, 118, 119, 120] (by decide +kernel) (by decide +kernel)
set_option maxRecDepth 20000 in
theorem gX6_digsFor_X6_isJoined : GoodIn wsX6_digsFor (wsV RX6 131 RX6 yX6_isJoined wsX6_isJoined) := goodIn_app (goodIn_of _ (by decide +kernel)) ggX6_digsFor_X6_isJoined
set_option maxRecDepth 20000 in
theorem ggX6_digsFor_X6_routes : GoodIn wsX6_digsFor wsX6_routes := goodIn_r _ [24, 25, 26, 27, 28, 29, 30, 31, 8, 32, 17, 18, 19, 20, 3, 33, 34, 35, 36, 37, 38, 39, 40, 41, 42, 43, 44, 45, 46, 47, 48, 49, 50, 10, 11, 12, 51, 52, 53, 54, 102, 103, 104, 105, 106, 107, 108, 109, 110, 111, 112, 113, 114, 115, 116, 117, 118, 119, 120] (by decide +kernel) (by decide +kernel)
set_option maxRecDepth 20000 in
theorem gX6_digsFor_X6_routes : GoodIn wsX6_digsFor (wsV RX6 134 RX6 yX6_routes wsX6_routes) := goodIn_app (goodIn_of _ (by decide +kernel)) ggX6_digsFor_X6_routes
set_option maxRecDepth 20000 in
theorem ggX6_digsFor_X6_duesOf : GoodIn wsX6_digsFor wsX6_duesOf := goodIn_r _ [58, 3, 59, 60, 61, 8, 62, 63, 64, 65, 66, 26, 39, 17, 18, 19, 20, 102, 103, 104, 105, 106, 107, 108, 109, 110, 111, 112, 113, 114, 115, 116, 117, 118, 119, 120] (by decide +kernel) (by decide +kernel)
set_option maxRecDepth 20000 in
theorem gX6_digsFor_X6_duesOf : GoodIn wsX6_digsFor (wsV RX6 144 RX6 yX6_duesOf wsX6_duesOf) := goodIn_app (goodIn_of _ (by decide +kernel)) ggX6_digsFor_X6_duesOf
set_option maxRecDepth 20000 in
theorem ggX6_digsFor_X6_of : GoodIn wsX6_digsFor wsX6_of := goodIn_r _ [20, 3, 102, 103, 104, 105, 106, 107, 108, 109, 110, 111, 112, 113, 114, 115, 116, 117, 118, 119, 120] (by decide +kernel) (by decide +kernel)
set_option maxRecDepth 20000 in
theorem gX6_digsFor_X6_of : GoodIn wsX6_digsFor (wsV RX6 42 RX6 yX6_of wsX6_of) := goodIn_app (goodIn_of _ (by decide +kernel)) ggX6_digsFor_X6_of
set_option maxRecDepth 20000 in
theorem ggX6_digsFor_X6_victimsOf : GoodIn wsX6_digsFor wsX6_victimsOf := goodIn_r _ [70, 3, 63, 64, 65, 8, 66, 26, 39, 102, 103, 104, 105, 106, 107, 108, 109, 110, 111, 112, 113, 114, 115, 116, 117, 118, 119, 120] (by decide +kernel) (by decide +kernel)
set_option maxRecDepth 20000 in
theorem gX6_digsFor_X6_victimsOf : GoodIn wsX6_digsFor (wsV RX6 147 RX6 yX6_victimsOf wsX6_victimsOf) := goodIn_app (goodIn_of _ (by decide +kernel)) ggX6_digsFor_X6_victimsOf
set_option maxRecDepth 20000 in
theorem ggX6_digsFor_X6_bits : GoodIn wsX6_digsFor wsX6_bits := goodIn_r _ [73] (by decide +kernel) (by decide +kernel)
set_option maxRecDepth 20000 in
theorem gX6_digsFor_X6_bits : GoodIn wsX6_digsFor (va_wsS RX6 150 yX6_bits wsX6_bits) := goodIn_app (goodIn_of _ (by decide +kernel)) ggX6_digsFor_X6_bits
set_option maxRecDepth 20000 in
theorem ggX6_digsFor_X6_due : GoodIn wsX6_digsFor wsX6_due := goodIn_r _ [62, 3, 63, 64, 65, 8, 66, 26, 39, 17, 18, 19, 20, 102, 103, 104, 105, 106, 107, 108, 109, 110, 111, 112, 113, 114, 115, 116, 117, 118, 119, 120] (by decide +kernel) (by decide +kernel)
set_option maxRecDepth 20000 in
theorem gX6_digsFor_X6_due : GoodIn wsX6_digsFor (wsV RX6 128 RX6 yX6_due wsX6_due) := goodIn_app (goodIn_of _ (by decide +kernel)) ggX6_digsFor_X6_due
set_option maxRecDepth 20000 in
theorem ggX6_digsFor_X6_pays : GoodIn wsX6_digsFor wsX6_pays := goodIn_r _ [77, 78, 79, 80, 8, 81, 3, 102, 103, 104, 105, 106, 107, 108, 109, 110, 111, 112, 113, 114, 115, 116, 117, 118, 119, 120] (by decide +kernel) (by decide +kernel)
set_option maxRecDepth 20000 in
theorem gX6_digsFor_X6_pays : GoodIn wsX6_digsFor (wsV RX6 153 RX6 yX6_pays wsX6_pays) := goodIn_app (goodIn_of _ (by decide +kernel)) ggX6_digsFor_X6_pays
set_option maxRecDepth 20000 in
theorem ggX6_digsFor_X6_claims : GoodIn wsX6_digsFor wsX6_claims := goodIn_r _ [85, 3, 86, 87, 88, 8, 89, 90, 91, 92, 93, 102, 103, 104, 105, 106, 107, 108, 109, 110, 111, 112, 113, 114, 115, 116, 117, 118, 119, 120] (by decide +kernel) (by decide +kernel)
set_option maxRecDepth 20000 in
theorem gX6_digsFor_X6_claims : GoodIn wsX6_digsFor (wsV RX6 156 RX6 yX6_claims wsX6_claims) := goodIn_app (goodIn_of _ (by decide +kernel)) ggX6_digsFor_X6_claims
set_option maxRecDepth 20000 in
theorem ggX6_digsFor_X6_adds : GoodIn wsX6_digsFor wsX6_adds := goodIn_r _ [81, 3, 102, 103, 104, 105, 106, 107, 108, 109, 110, 111, 112, 113, 114, 115, 116, 117, 118, 119, 120] (by decide +kernel) (by decide +kernel)
set_option maxRecDepth 20000 in
theorem gX6_digsFor_X6_adds : GoodIn wsX6_digsFor (wsV RX6 81 RX6 yX6_adds wsX6_adds) := goodIn_app (goodIn_of _ (by decide +kernel)) ggX6_digsFor_X6_adds
set_option maxRecDepth 20000 in
theorem ggX6_digsFor_X6_loses : GoodIn wsX6_digsFor wsX6_loses := goodIn_r _ [97, 3, 102, 103, 104, 105, 106, 107, 108, 109, 110, 111, 112, 113, 114, 115, 116, 117, 118, 119, 120] (by decide +kernel) (by decide +kernel)
set_option maxRecDepth 20000 in
theorem gX6_digsFor_X6_loses : GoodIn wsX6_digsFor (wsV RX6 159 RX6 yX6_loses wsX6_loses) := goodIn_app (goodIn_of _ (by decide +kernel)) ggX6_digsFor_X6_loses
set_option maxRecDepth 20000 in
theorem ggX6_digsFor_X6_wires : GoodIn wsX6_digsFor wsX6_wires := goodIn_r _ [101, 26, 3, 39, 102, 103, 104, 105, 106, 107, 108, 109, 110, 111, 112, 113, 114, 115, 116, 117, 118, 119, 120] (by decide +kernel) (by decide +kernel)
set_option maxRecDepth 20000 in
theorem gX6_digsFor_X6_wires : GoodIn wsX6_digsFor (wsV RX6 138 RX6 yX6_wires wsX6_wires) := goodIn_app (goodIn_of _ (by decide +kernel)) ggX6_digsFor_X6_wires
theorem dX6_digsFor_0 : decode cX6_digsFor 0 = .ok (.aload_n 0, 1) := by decide +kernel
theorem dX6_digsFor_1 : decode cX6_digsFor 1 = .ok (.iload_n 1, 1) := by decide +kernel
theorem dX6_digsFor_2 : decode cX6_digsFor 2 = .ok (.invokevirtual 77, 3) := by decide +kernel
theorem dX6_digsFor_5 : decode cX6_digsFor 5 = .ok (.ifCond .ne 6, 3) := by decide +kernel
theorem dX6_digsFor_8 : decode cX6_digsFor 8 = .ok (.ldc 61, 2) := by decide +kernel
theorem dX6_digsFor_10 : decode cX6_digsFor 10 = .ok (.ireturn, 1) := by decide +kernel
theorem dX6_digsFor_11 : decode cX6_digsFor 11 = .ok (.aload_n 0, 1) := by decide +kernel
theorem dX6_digsFor_12 : decode cX6_digsFor 12 = .ok (.iload_n 1, 1) := by decide +kernel
theorem dX6_digsFor_13 : decode cX6_digsFor 13 = .ok (.invokevirtual 131, 3) := by decide +kernel
theorem dX6_digsFor_16 : decode cX6_digsFor 16 = .ok (.ifCond .ne 25, 3) := by decide +kernel
theorem dX6_digsFor_19 : decode cX6_digsFor 19 = .ok (.aload_n 0, 1) := by decide +kernel
theorem dX6_digsFor_20 : decode cX6_digsFor 20 = .ok (.iload_n 1, 1) := by decide +kernel
theorem dX6_digsFor_21 : decode cX6_digsFor 21 = .ok (.iconst 1, 1) := by decide +kernel
theorem dX6_digsFor_22 : decode cX6_digsFor 22 = .ok (.invokevirtual 134, 3) := by decide +kernel
theorem dX6_digsFor_25 : decode cX6_digsFor 25 = .ok (.ifCond .eq 16, 3) := by decide +kernel
theorem dX6_digsFor_28 : decode cX6_digsFor 28 = .ok (.aload_n 0, 1) := by decide +kernel
theorem dX6_digsFor_29 : decode cX6_digsFor 29 = .ok (.invokevirtual 144, 3) := by decide +kernel
theorem dX6_digsFor_32 : decode cX6_digsFor 32 = .ok (.aload_n 0, 1) := by decide +kernel
theorem dX6_digsFor_33 : decode cX6_digsFor 33 = .ok (.iload_n 1, 1) := by decide +kernel
theorem dX6_digsFor_34 : decode cX6_digsFor 34 = .ok (.iconst 4, 1) := by decide +kernel
theorem dX6_digsFor_35 : decode cX6_digsFor 35 = .ok (.invokevirtual 42, 3) := by decide +kernel
theorem dX6_digsFor_38 : decode cX6_digsFor 38 = .ok (.if_icmp .le 6, 3) := by decide +kernel
theorem dX6_digsFor_41 : decode cX6_digsFor 41 = .ok (.ldc 53, 2) := by decide +kernel
theorem dX6_digsFor_43 : decode cX6_digsFor 43 = .ok (.ireturn, 1) := by decide +kernel
theorem dX6_digsFor_44 : decode cX6_digsFor 44 = .ok (.aload_n 0, 1) := by decide +kernel
theorem dX6_digsFor_45 : decode cX6_digsFor 45 = .ok (.invokevirtual 147, 3) := by decide +kernel
theorem dX6_digsFor_48 : decode cX6_digsFor 48 = .ok (.istore_n 2, 1) := by decide +kernel
theorem dX6_digsFor_49 : decode cX6_digsFor 49 = .ok (.aload_n 0, 1) := by decide +kernel
theorem dX6_digsFor_50 : decode cX6_digsFor 50 = .ok (.getfield 7, 3) := by decide +kernel
theorem dX6_digsFor_53 : decode cX6_digsFor 53 = .ok (.bipush 6, 2) := by decide +kernel
theorem dX6_digsFor_55 : decode cX6_digsFor 55 = .ok (.iaload, 1) := by decide +kernel
theorem dX6_digsFor_56 : decode cX6_digsFor 56 = .ok (.iload_n 2, 1) := by decide +kernel
theorem dX6_digsFor_57 : decode cX6_digsFor 57 = .ok (.invokestatic 150, 3) := by decide +kernel
theorem dX6_digsFor_60 : decode cX6_digsFor 60 = .ok (.iadd, 1) := by decide +kernel
theorem dX6_digsFor_61 : decode cX6_digsFor 61 = .ok (.bipush 12, 2) := by decide +kernel
theorem dX6_digsFor_63 : decode cX6_digsFor 63 = .ok (.if_icmp .le 6, 3) := by decide +kernel
theorem dX6_digsFor_66 : decode cX6_digsFor 66 = .ok (.ldc 76, 2) := by decide +kernel
theorem dX6_digsFor_68 : decode cX6_digsFor 68 = .ok (.ireturn, 1) := by decide +kernel
theorem dX6_digsFor_69 : decode cX6_digsFor 69 = .ok (.aload_n 0, 1) := by decide +kernel
theorem dX6_digsFor_70 : decode cX6_digsFor 70 = .ok (.invokevirtual 144, 3) := by decide +kernel
theorem dX6_digsFor_73 : decode cX6_digsFor 73 = .ok (.istore_n 3, 1) := by decide +kernel
theorem dX6_digsFor_74 : decode cX6_digsFor 74 = .ok (.aload_n 0, 1) := by decide +kernel
theorem dX6_digsFor_75 : decode cX6_digsFor 75 = .ok (.getfield 7, 3) := by decide +kernel
theorem dX6_digsFor_78 : decode cX6_digsFor 78 = .ok (.iconst 4, 1) := by decide +kernel
theorem dX6_digsFor_79 : decode cX6_digsFor 79 = .ok (.dup2, 1) := by decide +kernel
theorem dX6_digsFor_80 : decode cX6_digsFor 80 = .ok (.iaload, 1) := by decide +kernel
theorem dX6_digsFor_81 : decode cX6_digsFor 81 = .ok (.iconst 1, 1) := by decide +kernel
theorem dX6_digsFor_82 : decode cX6_digsFor 82 = .ok (.iadd, 1) := by decide +kernel
theorem dX6_digsFor_83 : decode cX6_digsFor 83 = .ok (.iastore, 1) := by decide +kernel
theorem dX6_digsFor_84 : decode cX6_digsFor 84 = .ok (.iconst 0, 1) := by decide +kernel
theorem dX6_digsFor_85 : decode cX6_digsFor 85 = .ok (.istore 4, 2) := by decide +kernel
theorem dX6_digsFor_87 : decode cX6_digsFor 87 = .ok (.iload 4, 2) := by decide +kernel
theorem dX6_digsFor_89 : decode cX6_digsFor 89 = .ok (.aload_n 0, 1) := by decide +kernel
theorem dX6_digsFor_90 : decode cX6_digsFor 90 = .ok (.getfield 7, 3) := by decide +kernel
theorem dX6_digsFor_93 : decode cX6_digsFor 93 = .ok (.iconst 5, 1) := by decide +kernel
theorem dX6_digsFor_94 : decode cX6_digsFor 94 = .ok (.iaload, 1) := by decide +kernel
theorem dX6_digsFor_95 : decode cX6_digsFor 95 = .ok (.if_icmp .ge 60, 3) := by decide +kernel
theorem dX6_digsFor_98 : decode cX6_digsFor 98 = .ok (.iload_n 2, 1) := by decide +kernel
theorem dX6_digsFor_99 : decode cX6_digsFor 99 = .ok (.iload 4, 2) := by decide +kernel
theorem dX6_digsFor_101 : decode cX6_digsFor 101 = .ok (.ishr, 1) := by decide +kernel
theorem dX6_digsFor_102 : decode cX6_digsFor 102 = .ok (.iconst 1, 1) := by decide +kernel
theorem dX6_digsFor_103 : decode cX6_digsFor 103 = .ok (.iand, 1) := by decide +kernel
theorem dX6_digsFor_104 : decode cX6_digsFor 104 = .ok (.iconst 1, 1) := by decide +kernel
theorem dX6_digsFor_105 : decode cX6_digsFor 105 = .ok (.if_icmp .ne 44, 3) := by decide +kernel
theorem dX6_digsFor_108 : decode cX6_digsFor 108 = .ok (.aload_n 0, 1) := by decide +kernel
theorem dX6_digsFor_109 : decode cX6_digsFor 109 = .ok (.iload 4, 2) := by decide +kernel
theorem dX6_digsFor_111 : decode cX6_digsFor 111 = .ok (.invokevirtual 128, 3) := by decide +kernel
theorem dX6_digsFor_114 : decode cX6_digsFor 114 = .ok (.istore 5, 2) := by decide +kernel
theorem dX6_digsFor_116 : decode cX6_digsFor 116 = .ok (.aload_n 0, 1) := by decide +kernel
theorem dX6_digsFor_117 : decode cX6_digsFor 117 = .ok (.iload_n 1, 1) := by decide +kernel
theorem dX6_digsFor_118 : decode cX6_digsFor 118 = .ok (.iload 4, 2) := by decide +kernel
theorem dX6_digsFor_120 : decode cX6_digsFor 120 = .ok (.iload 5, 2) := by decide +kernel
theorem dX6_digsFor_122 : decode cX6_digsFor 122 = .ok (.invokevirtual 153, 3) := by decide +kernel
theorem dX6_digsFor_125 : decode cX6_digsFor 125 = .ok (.aload_n 0, 1) := by decide +kernel
theorem dX6_digsFor_126 : decode cX6_digsFor 126 = .ok (.iload_n 1, 1) := by decide +kernel
theorem dX6_digsFor_127 : decode cX6_digsFor 127 = .ok (.iload 4, 2) := by decide +kernel
theorem dX6_digsFor_129 : decode cX6_digsFor 129 = .ok (.iload 5, 2) := by decide +kernel
theorem dX6_digsFor_131 : decode cX6_digsFor 131 = .ok (.invokevirtual 156, 3) := by decide +kernel
theorem dX6_digsFor_134 : decode cX6_digsFor 134 = .ok (.aload_n 0, 1) := by decide +kernel
theorem dX6_digsFor_135 : decode cX6_digsFor 135 = .ok (.iload 4, 2) := by decide +kernel
theorem dX6_digsFor_137 : decode cX6_digsFor 137 = .ok (.bipush 6, 2) := by decide +kernel
theorem dX6_digsFor_139 : decode cX6_digsFor 139 = .ok (.iconst 1, 1) := by decide +kernel
theorem dX6_digsFor_140 : decode cX6_digsFor 140 = .ok (.invokevirtual 81, 3) := by decide +kernel
theorem dX6_digsFor_143 : decode cX6_digsFor 143 = .ok (.aload_n 0, 1) := by decide +kernel
theorem dX6_digsFor_144 : decode cX6_digsFor 144 = .ok (.iload 4, 2) := by decide +kernel
theorem dX6_digsFor_146 : decode cX6_digsFor 146 = .ok (.invokevirtual 159, 3) := by decide +kernel
theorem dX6_digsFor_149 : decode cX6_digsFor 149 = .ok (.iinc 4 1, 3) := by decide +kernel
theorem dX6_digsFor_152 : decode cX6_digsFor 152 = .ok (.goto (-65), 3) := by decide +kernel
theorem dX6_digsFor_155 : decode cX6_digsFor 155 = .ok (.aload_n 0, 1) := by decide +kernel
theorem dX6_digsFor_156 : decode cX6_digsFor 156 = .ok (.iload_n 1, 1) := by decide +kernel
theorem dX6_digsFor_157 : decode cX6_digsFor 157 = .ok (.invokevirtual 138, 3) := by decide +kernel
theorem dX6_digsFor_160 : decode cX6_digsFor 160 = .ok (.iload_n 3, 1) := by decide +kernel
theorem dX6_digsFor_161 : decode cX6_digsFor 161 = .ok (.ireturn, 1) := by decide +kernel
abbrev rmX6_digsFor : Room := { frames := 5, cells := 0, slots := 0, locals := 123 }
set_option maxRecDepth 20000 in
theorem in_X6_digsFor_X6 : ∀ w ∈ wsX60, w ∈ wsX6_digsFor := by decide +kernel

set_option maxRecDepth 100000 in
set_option maxHeartbeats 16000000 in
theorem c_X6_digsFor {l : Launch} {g : Geo} {M : Nat → Nat → Int32} {P : Nat → Nat} {N K B : Nat} (hI : InvX eM (M 159) N K B) {n : Int32} : Met l yX6_digsFor wsX6_digsFor rmX6_digsFor (cPre g [.ref (g.1 158), .int n] M P) (cQi g (fun r M' P' => P = P' ∧ FrL M M' ∧ digQ finM eM (M 159) N K n r (M' 159))) 0 0 (gA g) := by
  refine met_i (cc := cX6_digsFor) (maxL := 6) (by decide) rfl ⟨rfl, rfl⟩ (Nat.le_of_ble_eq_true rfl) (fun x hx h hret => ?_)
  replace h : Cxk x g cX6_digsFor 6 wsX6_digsFor RX6 rmX6_digsFor := h
  show X x 0 [(0, .ref (g.1 158)), (1, .int n)] [] M P
  have hN := hI.1.1
  have hN6 := hI.1.2.1
  have hK := hI.1.2.2.1
  have hK12 := hI.1.2.2.2.1
  refine x_aload_n h 0 dX6_digsFor_0 rfl rfl ?_
  refine x_iload_n h 1 dX6_digsFor_1 rfl rfl ?_
  refine x_callV h (As := [.int n]) 1 hx (c_X6_isNet hI) gX6_digsFor_X6_isNet rfl ⟨rfl, rfl⟩ (by decide +kernel) rfl (by decide) (by decide) E_158 rfl rfl (Nat.le_of_ble_eq_true rfl) dX6_digsFor_2 (fun rv M' P' hp => ?_)
  obtain ⟨⟨rfl, rfl⟩, hp⟩ := hp
  rcases hp with ⟨⟨k2, hk2, rfl⟩, rfl⟩ | ⟨nk2, rfl⟩
  · -- call 2
    refine x_if_ne h 11 dX6_digsFor_5 (by decide) (fun _ => ?_) (fun c => absurd c (by decide))
    refine x_aload_n h 0 dX6_digsFor_11 rfl rfl ?_
    refine x_iload_n h 1 dX6_digsFor_12 rfl rfl ?_
    refine x_callV h (As := [.int (nI k2)]) 1 hx (c_X6_isJoined (by omega)) gX6_digsFor_X6_isJoined rfl ⟨rfl, rfl⟩ (by decide +kernel) rfl (by decide) (by decide) E_158 rfl rfl (Nat.le_of_ble_eq_true rfl) dX6_digsFor_13 (fun rv M' P' hp => ?_)
    obtain ⟨⟨rfl, rfl⟩, hp⟩ := hp
    rcases hp with ⟨j13, rfl⟩ | ⟨nj13, rfl⟩
    · -- call 13
      refine x_if_ne h 41 dX6_digsFor_16 (by decide) (fun _ => ?_) (fun c => absurd c (by decide))
      refine x_ldc h ((-1000002)) (by decide +kernel) dX6_digsFor_41 ?_
      exact hret _ _ _ _ _ dX6_digsFor_43 (by first | exact ⟨rfl, FrL_rf M, Or.inr ⟨k2, hk2, rfl, Or.inl ⟨Or.inl (fun q => by rw [j13] at q; exact absurd q (by decide)), rfl, rfl⟩⟩⟩ | exact ⟨rfl, FrL_O hFO, Or.inr ⟨k2, hk2, rfl, Or.inl ⟨Or.inr hrn, rfl, hFO.1 159 (by omega)⟩⟩⟩ | exact ⟨rfl, FrL_O hFO, Or.inr ⟨k2, hk2, rfl, Or.inr ⟨((hI.j5 hk2).elim id (fun q => absurd q nj13)), z, l1, l2, hrs, Or.inl ⟨Int32.not_le.mp c_38, rfl, e159⟩⟩⟩⟩)
    · -- call 13
      refine x_if_ne h 41 dX6_digsFor_16 (by decide) (fun c => absurd c (by decide)) (fun _ => ?_)
      refine x_aload_n h 0 dX6_digsFor_19 rfl rfl ?_
      refine x_iload_n h 1 dX6_digsFor_20 rfl rfl ?_
      refine x_iconst h (nI 1) dX6_digsFor_21 (by decide) ?_
      refine x_callV h (As := [.int (nI k2), .int (nI 1)]) 2 hx (c_X6_routes hI hk2 (dg := true)) gX6_digsFor_X6_routes rfl ⟨rfl, rfl⟩ (by decide +kernel) rfl (by decide) (by decide) E_158 rfl rfl (Nat.le_of_ble_eq_true rfl) dX6_digsFor_22 (fun rv MR22 P' hp => ?_)
      obtain ⟨rfl, hFO, hp⟩ := hp
      rcases hp with ⟨hrn, rfl⟩ | ⟨z, l1, l2, hrs, rfl, hRt, hzt⟩
      · -- no route
        refine x_if_eq h 41 dX6_digsFor_25 (by decide) (fun _ => ?_) (fun c => absurd (by decide) c)
        refine x_ldc h ((-1000002)) (by decide +kernel) dX6_digsFor_41 ?_
        exact hret _ _ _ _ _ dX6_digsFor_43 (by first | exact ⟨rfl, FrL_rf M, Or.inr ⟨k2, hk2, rfl, Or.inl ⟨Or.inl (fun q => by rw [j13] at q; exact absurd q (by decide)), rfl, rfl⟩⟩⟩ | exact ⟨rfl, FrL_O hFO, Or.inr ⟨k2, hk2, rfl, Or.inl ⟨Or.inr hrn, rfl, hFO.1 159 (by omega)⟩⟩⟩ | exact ⟨rfl, FrL_O hFO, Or.inr ⟨k2, hk2, rfl, Or.inr ⟨((hI.j5 hk2).elim id (fun q => absurd q nj13)), z, l1, l2, hrs, Or.inl ⟨Int32.not_le.mp c_38, rfl, e159⟩⟩⟩⟩)
      · -- a route
        have e159 : MR22 159 = M 159 := hFO.1 159 (by omega)
        refine x_if_eq h 41 dX6_digsFor_25 (by decide) (fun c => absurd c (by decide)) (fun _ => ?_)
        have hin := rt_in hI hk2 hrs
        have hI2 := hI
        rw [← e159] at hI2
        refine x_aload_n h 0 dX6_digsFor_28 rfl rfl ?_
        refine x_callV h (As := []) 0 hx (c_X6_duesOf hI2 hRt hin.1 hin.2) gX6_digsFor_X6_duesOf rfl ⟨rfl, rfl⟩ (by decide +kernel) rfl (by decide) (by decide) E_158 rfl rfl (Nat.le_of_ble_eq_true rfl) dX6_digsFor_29 (fun rv M' P' hp => ?_)
        obtain ⟨⟨rfl, rfl⟩, rfl⟩ := hp
        refine x_top (nI (priE eM (M 159) N (l1 ++ l2))) (by rw [e159]) ?_
        refine x_aload_n h 0 dX6_digsFor_32 rfl rfl ?_
        refine x_iload_n h 1 dX6_digsFor_33 rfl rfl ?_
        refine x_iconst h (nI 4) dX6_digsFor_34 (by decide) ?_
        refine x_callV h (As := [.int (nI k2), .int (nI 4)]) 2 hx (c_X6_of (by omega) (by decide)) gX6_digsFor_X6_of rfl ⟨rfl, rfl⟩ (by decide +kernel) rfl (by decide) (by decide) E_158 rfl rfl (Nat.le_of_ble_eq_true rfl) dX6_digsFor_35 (fun rv M' P' hp => ?_)
        obtain ⟨⟨rfl, rfl⟩, rfl⟩ := hp
        refine x_top ((M 159 (169 + 9 * k2 + 4))) (by rw [e159]) ?_
        refine x_icmp_le h 44 dX6_digsFor_38 (by decide) (fun c_38 => ?_) (fun c_38 => ?_)
        · -- 38 true
          refine x_aload_n h 0 dX6_digsFor_44 rfl rfl ?_
          refine x_callV h (As := []) 0 hx (c_X6_victimsOf hI2 hRt hin.1 hin.2) gX6_digsFor_X6_victimsOf rfl ⟨rfl, rfl⟩ (by decide +kernel) rfl (by decide) (by decide) E_158 rfl rfl (Nat.le_of_ble_eq_true rfl) dX6_digsFor_45 (fun rv M' P' hp => ?_)
          obtain ⟨⟨rfl, rfl⟩, rfl⟩ := hp
          refine x_top (nI (bset (vicE eM (M 159) (l1 ++ l2)) N)) (by rw [e159]) ?_
          refine x_istore_n h [(2, .int (nI (bset (vicE eM (M 159) (l1 ++ l2)) N))), (0, .ref (g.1 158)), (1, .int (nI k2))] dX6_digsFor_48 rfl (by decide) rfl ?_
          refine x_aload_n h 1 dX6_digsFor_49 rfl rfl ?_
          refine xg_X6_0 h in_X6_digsFor_X6 (by decide +kernel) dX6_digsFor_50 ?_
          refine x_bipush h (nI 6) dX6_digsFor_53 (by decide) ?_
          refine xl_159 h dX6_digsFor_55 (by decide) ?_
          refine x_top (nI K) (by rw [e159]; exact hK) ?_
          refine x_iload_n h 0 dX6_digsFor_56 rfl rfl ?_
          refine x_callS h (As := [.int (nI (bset (vicE eM (M 159) (l1 ++ l2)) N))]) 1 hx (c_X6_bits (bset_64 _ hN6)) gX6_digsFor_X6_bits rfl ⟨rfl, rfl⟩ (by decide +kernel) rfl (by decide) (Nat.le_of_ble_eq_true rfl) dX6_digsFor_57 (fun rv M' P' hp => ?_)
          obtain ⟨⟨rfl, rfl⟩, rfl⟩ := hp
          refine x_iadd_n h dX6_digsFor_60 ?_
          refine x_bipush h (nI 12) dX6_digsFor_61 (by decide) ?_
          refine x_icmp_le_n h 69 dX6_digsFor_63 (by decide) (by first | omega | (have := cnt_le (fun k => (bset (vicE eM (M 159) (l1 ++ l2)) N).testBit k) 6; unfold bcnt; omega)) (by decide) (fun c_63 => ?_) (fun c_63 => ?_)
          · -- 63 true
            have hKb0 : K + cnt (vicE eM (M 159) (l1 ++ l2)) N ≤ 12 := by rw [bcnt_set hN6] at c_63; omega
            have hc38 : ¬ M 159 (169 + 9 * k2 + 4) < nI (priE eM (M 159) N (l1 ++ l2)) := Int32.not_lt.mpr c_38
            refine x_aload_n h 1 dX6_digsFor_69 rfl rfl ?_
            refine x_callV h (As := []) 0 hx (c_X6_duesOf hI2 hRt hin.1 hin.2) gX6_digsFor_X6_duesOf rfl ⟨rfl, rfl⟩ (by decide +kernel) rfl (by decide) (by decide) E_158 rfl rfl (Nat.le_of_ble_eq_true rfl) dX6_digsFor_70 (fun rv M' P' hp => ?_)
            obtain ⟨⟨rfl, rfl⟩, rfl⟩ := hp
            refine x_top (nI (priE eM (M 159) N (l1 ++ l2))) (by rw [e159]) ?_
            refine x_istore_n h [(3, .int (nI (priE eM (M 159) N (l1 ++ l2)))), (2, .int (nI (bset (vicE eM (M 159) (l1 ++ l2)) N))), (0, .ref (g.1 158)), (1, .int (nI k2))] dX6_digsFor_73 rfl (by decide) rfl ?_
            refine x_aload_n h 2 dX6_digsFor_74 rfl rfl ?_
            refine xg_X6_0 h in_X6_digsFor_X6 (by decide +kernel) dX6_digsFor_75 ?_
            refine x_iconst h (nI 4) dX6_digsFor_78 (by decide) ?_
            refine x_dup2 h dX6_digsFor_79 rfl rfl ?_
            refine xl_159 h dX6_digsFor_80 (by decide) ?_
            refine x_top ((M 159 4)) (by rw [e159]) ?_
            refine x_iconst h (nI 1) dX6_digsFor_81 (by decide) ?_
            refine x_iadd h dX6_digsFor_82 ?_
            refine xs_159 h dX6_digsFor_83 (by decide) ?_
            obtain ⟨W0, hW0⟩ : ∃ q : Nat → Nat → Int32, q = st2 MR22 159 4 ((M 159 4) + (nI 1)) := ⟨_, rfl⟩
            refine x_mem W0 hW0.symm ?_
            have hW0r : W0 159 = upd (M 159) 4 (M 159 4 + nI 1) := by rw [hW0, st2_k, e159]
            have hW0k : ∀ k, k ≠ 159 → W0 k = MR22 k := fun k hk => by rw [hW0, st2_n _ _ _ hk]
            obtain ⟨L, hLe⟩ : ∃ L, L = l1 ++ l2 := ⟨_, rfl⟩
            refine x_iconst h (nI 0) dX6_digsFor_84 (by decide) ?_
            rw [← hLe] at hRt hin hKb0 hc38 ⊢
            refine x_lv (lv' := [(3, .int (nI (priE eM (M 159) N L))), (2, .int (nI (bset (vicE eM (M 159) L) N))), (0, .ref (g.1 158)), (1, .int (nI k2))]) ?_ [0, 1, 2, 3] rfl
            refine x_istore h [(4, .int (nI 0)), (3, .int (nI (priE eM (M 159) N L))), (2, .int (nI (bset (vicE eM (M 159) L) N))), (0, .ref (g.1 158)), (1, .int (nI k2))] dX6_digsFor_85 (by decide) rfl ?_
            have L87 : ∀ (fu : Nat) (v : Nat) (W : Nat → Nat → Int32), (N - v) < fu → (v ≤ N) → (∀ k, k ≠ 159 → W k = W0 k) → (W 159 = dgRM (M 159) L N k2 K v) → X x 87 [(0, .ref (g.1 158)), (1, .int (nI k2)), (2, .int (nI (bset (vicE eM (M 159) L) N))), (3, .int (nI (priE eM (M 159) N L))), (4, .int (nI v))] [] W P := by
              intro fu
              induction fu with
              | zero => intro v W hmu87; exact absurd hmu87 (Nat.not_lt_zero _)
              | succ fu ih87 =>
                intro v W hmu87 hv hWk hWr
                have hV := dgRM_V (L := L) hN6 hk2 hK v hv
                rw [← hWr] at hV
                have hRw : RtN W L := RtN_cg (by rw [hWk 158 (by decide), hW0k 158 (by decide)]) (by rw [hWk 166 (by decide), hW0k 166 (by decide)]) hRt
                refine x_iload h 4 dX6_digsFor_87 rfl ?_
                refine x_aload_n h 0 dX6_digsFor_89 rfl rfl ?_
                refine xg_X6_0 h in_X6_digsFor_X6 (by decide +kernel) dX6_digsFor_90 ?_
                refine x_iconst h (nI 5) dX6_digsFor_93 (by decide) ?_
                refine xl_159 h dX6_digsFor_94 (by decide) ?_
                refine x_top (nI N) (by rw [hV.1 5 (by omega)]; exact hN) ?_
                refine x_icmp_ge_n h 155 dX6_digsFor_95 (by decide) (by first | omega | (have := cnt_le (fun k => (bset (vicE eM (M 159) (l1 ++ l2)) N).testBit k) 6; unfold bcnt; omega)) (by first | omega | (have := cnt_le (fun k => (bset (vicE eM (M 159) (l1 ++ l2)) N).testBit k) 6; unfold bcnt; omega)) (fun c_95 => ?_) (fun c_95 => ?_)
                · -- 95 true
                  obtain rfl : v = N := by omega
                  have hwl : ∀ a, a ∈ L → W 159 (7 + a) = nI 0 ∨ W 159 (7 + a) = nI (1 + k2) ∨ W 159 (7 + a) = nI (11 + k2) := fun a ha => by
                    have hal := hin.2 a ha
                    rw [hV.2.2.2.1 a hal]
                    exact lz_free hI hk2 ha hal ((rtX_ok hI.1 hk2 hrs).2.2.2.2 a (by rw [← hLe]; exact ha)).2
                  refine x_aload_n h 0 dX6_digsFor_155 rfl rfl ?_
                  refine x_iload_n h 1 dX6_digsFor_156 rfl rfl ?_
                  refine x_callVv h (As := [.int (nI k2)]) 1 hx (c_X6_wires (L := L) hRw hin.1 hin.2 (k := k2) (by omega) hwl) gX6_digsFor_X6_wires rfl ⟨rfl, rfl⟩ (by decide +kernel) rfl (by decide) (by decide) E_158 rfl rfl (Nat.le_of_ble_eq_true rfl) dX6_digsFor_157 (fun M157 P' hp => ?_)
                  obtain ⟨rfl, hM157⟩ := hp
                  refine x_iload_n h 3 dX6_digsFor_160 rfl rfl ?_
                  exact hret _ _ _ _ _ dX6_digsFor_161 (by 
                                          refine ⟨rfl, ?_, Or.inr ⟨k2, hk2, rfl, Or.inr ⟨((hI.j5 hk2).elim id (fun q => absurd q nj13)), z, l1, l2, hrs, Or.inr ⟨?_, Or.inr ⟨?_, ?_, ?_⟩⟩⟩⟩⟩
                                          · rw [hM157]; exact ⟨fun k hk => by rw [va_up_n _ _ (by omega), hWk k (by omega), hW0k k (by omega)]; exact hFO.1 k (by omega), fun j a b c => by rw [va_up_n _ _ (by decide), hWk 158 (by decide), hW0k 158 (by decide)]; exact hFO.2 j a b c⟩
                                          · rw [← hLe]; exact hc38
                                          · rw [← hLe]; omega
                                          · rw [← hLe]
                                          · rw [← hLe, hM157, va_up_k, hWr]; rfl)
                · -- 95 false
                  refine x_iload_n h 2 dX6_digsFor_98 rfl rfl ?_
                  refine x_iload h 4 dX6_digsFor_99 rfl ?_
                  refine x_ishr h dX6_digsFor_101 ?_
                  refine x_iconst h (nI 1) dX6_digsFor_102 (by decide) ?_
                  refine x_iand h dX6_digsFor_103 ?_
                  refine x_iconst h (nI 1) dX6_digsFor_104 (by decide) ?_
                  refine x_icmp_ne h 149 dX6_digsFor_105 (by decide) (fun c_105 => ?_) (fun c_105 => ?_)
                  · -- 105 true
                    refine x_iinc_n h 4 (n := 1) [(4, .int (nI (v + 1))), (0, .ref (g.1 158)), (1, .int (nI k2)), (2, .int (nI (bset (vicE eM (M 159) L) N))), (3, .int (nI (priE eM (M 159) N L)))] dX6_digsFor_149 rfl (by decide) rfl ?_
                    refine x_goto h 87 dX6_digsFor_152 (by decide) ?_
                    exact x_lv (ih87 (v + 1) W (by omega) (by omega) (by exact hWk) (by rw [hWr]; show _ = if vicE eM (M 159) L v = true then _ else _; rw [if_neg (fun q => c_105 ((vic_bit hN6 (by omega)).mpr q))])) [1, 2, 3, 4, 0] rfl
                  · -- 105 false
                    have hvN : v < N := by omega
                    have hvy := (vic_bit hN6 hvN).mp c_105
                    have hcl := cnt_le2 (p := vicE eM (M 159) L) (a := v + 1) (b := N) hvN
                    rw [cnt_s hvy] at hcl
                    have hKb : K + cnt (vicE eM (M 159) L) v < 12 := by omega
                    refine x_aload_n h 0 dX6_digsFor_108 rfl rfl ?_
                    refine x_iload h 4 dX6_digsFor_109 rfl ?_
                    refine x_callV h (As := [.int (nI v)]) 1 hx (c_X6_dueG (L := L) hRw hin.1 hin.2 (pr := prX (M 159)) (sb := stX (M 159) v) (k := v) (by omega) (by rw [hV.1 1 (by omega)]; exact hI.1.pr.1) (by rw [(hV.2.2.2.2.1 v hvN).1 3 (by omega)]; exact (hI.1.net hvN).st.1)) gX6_digsFor_X6_due rfl ⟨rfl, rfl⟩ (by decide +kernel) rfl (by decide) (by decide) E_158 rfl rfl (Nat.le_of_ble_eq_true rfl) dX6_digsFor_111 (fun rv M' P' hp => ?_)
                    obtain ⟨⟨rfl, rfl⟩, rfl⟩ := hp
                    refine x_top (nI (dueE eM (M 159) L v)) (by rw [due_V hN6 hin.2 hV hvN]) ?_
                    refine x_istore h [(5, .int (nI (dueE eM (M 159) L v))), (0, .ref (g.1 158)), (1, .int (nI k2)), (2, .int (nI (bset (vicE eM (M 159) L) N))), (3, .int (nI (priE eM (M 159) N L))), (4, .int (nI v))] dX6_digsFor_114 (by decide) rfl ?_
                    refine x_aload_n h 1 dX6_digsFor_116 rfl rfl ?_
                    refine x_iload_n h 2 dX6_digsFor_117 rfl rfl ?_
                    refine x_iload h 5 dX6_digsFor_118 rfl ?_
                    refine x_iload h 0 dX6_digsFor_120 rfl ?_
                    refine x_callVv h (As := [.int (nI k2), .int (nI v), .int (nI (dueE eM (M 159) L v))]) 3 hx (c_X6_pays (n := k2) (o := v) (by omega) (by omega)) gX6_digsFor_X6_pays rfl ⟨rfl, rfl⟩ (by decide +kernel) rfl (by decide) (by decide) E_158 rfl rfl (Nat.le_of_ble_eq_true rfl) dX6_digsFor_122 (fun M122 P' hp => ?_)
                    obtain ⟨rfl, hM122⟩ := hp
                    refine x_aload_n h 1 dX6_digsFor_125 rfl rfl ?_
                    refine x_iload_n h 2 dX6_digsFor_126 rfl rfl ?_
                    refine x_iload h 5 dX6_digsFor_127 rfl ?_
                    refine x_iload h 0 dX6_digsFor_129 rfl ?_
                    refine x_callVv h (As := [.int (nI k2), .int (nI v), .int (nI (dueE eM (M 159) L v))]) 3 hx (c_X6_claims (K := K + cnt (vicE eM (M 159) L) v) (by rw [hM122, va_up_k, rcv_o (by omega) (by omega), spd_o (by omega) (by omega)]; exact hV.2.2.1) hKb (v := v) (n := k2) (by omega)) gX6_digsFor_X6_claims rfl ⟨rfl, rfl⟩ (by decide +kernel) rfl (by decide) (by decide) E_158 rfl rfl (Nat.le_of_ble_eq_true rfl) dX6_digsFor_131 (fun M131 P' hp => ?_)
                    obtain ⟨rfl, hM131⟩ := hp
                    refine x_aload_n h 1 dX6_digsFor_134 rfl rfl ?_
                    refine x_iload h 5 dX6_digsFor_135 rfl ?_
                    refine x_bipush h (nI 6) dX6_digsFor_137 (by decide) ?_
                    refine x_iconst h (nI 1) dX6_digsFor_139 (by decide) ?_
                    refine x_callVv h (As := [.int (nI v), .int (nI 6), .int (nI 1)]) 3 hx (c_X6_adds (k := v) (w := 6) (by omega) (by decide)) gX6_digsFor_X6_adds rfl ⟨rfl, rfl⟩ (by decide +kernel) rfl (by decide) (by decide) E_158 rfl rfl (Nat.le_of_ble_eq_true rfl) dX6_digsFor_140 (fun M140 P' hp => ?_)
                    obtain ⟨rfl, hM140⟩ := hp
                    refine x_aload_n h 1 dX6_digsFor_143 rfl rfl ?_
                    refine x_iload h 5 dX6_digsFor_144 rfl ?_
                    refine x_callVv h (As := [.int (nI v)]) 1 hx (c_X6_loses (k := v) (by omega)) gX6_digsFor_X6_loses rfl ⟨rfl, rfl⟩ (by decide +kernel) rfl (by decide) (by decide) E_158 rfl rfl (Nat.le_of_ble_eq_true rfl) dX6_digsFor_146 (fun Wn P' hp => ?_)
                    obtain ⟨rfl, hWn⟩ := hp
                    replace hWn : Wn = va_up W 159 (dgSM (K + cnt (vicE eM (M 159) L) v) k2 v (nI (dueE eM (M 159) L v)) (W 159)) := by rw [hWn, hM140, hM131, hM122]; simp only [va_up_up, va_up_k]; rfl
                    refine x_iinc_n h 5 (n := 1) [(4, .int (nI (v + 1))), (5, .int (nI (dueE eM (M 159) L v))), (0, .ref (g.1 158)), (1, .int (nI k2)), (2, .int (nI (bset (vicE eM (M 159) L) N))), (3, .int (nI (priE eM (M 159) N L)))] dX6_digsFor_149 rfl (by decide) rfl ?_
                    refine x_goto h 87 dX6_digsFor_152 (by decide) ?_
                    exact x_lv (ih87 (v + 1) Wn (by omega) (by omega) (by exact fun k hk => by rw [hWn, va_up_n _ _ hk]; exact hWk k hk) (by rw [hWn, va_up_k, hWr]; show _ = if vicE eM (M 159) L v = true then _ else _; rw [if_pos hvy])) [2, 3, 4, 5, 0] rfl
            exact x_lv (L87 _ 0 W0 (Nat.lt_succ_self _) (by omega) (by exact fun _ _ => rfl) (by exact hW0r)) [3, 4, 2, 1, 0] rfl
          · -- 63 false
            refine x_ldc h ((-1000003)) (by decide +kernel) dX6_digsFor_66 ?_
            exact hret _ _ _ _ _ dX6_digsFor_68 (by exact ⟨rfl, FrL_O hFO, Or.inr ⟨k2, hk2, rfl, Or.inr ⟨((hI.j5 hk2).elim id (fun q => absurd q nj13)), z, l1, l2, hrs, Or.inr ⟨Int32.not_lt.mpr c_38, Or.inl ⟨by rw [bcnt_set hN6] at c_63; omega, rfl, e159⟩⟩⟩⟩⟩)
        · -- 38 false
          refine x_ldc h ((-1000002)) (by decide +kernel) dX6_digsFor_41 ?_
          exact hret _ _ _ _ _ dX6_digsFor_43 (by first | exact ⟨rfl, FrL_rf M, Or.inr ⟨k2, hk2, rfl, Or.inl ⟨Or.inl (fun q => by rw [j13] at q; exact absurd q (by decide)), rfl, rfl⟩⟩⟩ | exact ⟨rfl, FrL_O hFO, Or.inr ⟨k2, hk2, rfl, Or.inl ⟨Or.inr hrn, rfl, hFO.1 159 (by omega)⟩⟩⟩ | exact ⟨rfl, FrL_O hFO, Or.inr ⟨k2, hk2, rfl, Or.inr ⟨((hI.j5 hk2).elim id (fun q => absurd q nj13)), z, l1, l2, hrs, Or.inl ⟨Int32.not_le.mp c_38, rfl, e159⟩⟩⟩⟩)
  · -- call 2
    refine x_if_ne h 11 dX6_digsFor_5 (by decide) (fun c => absurd c (by decide)) (fun _ => ?_)
    refine x_ldc h ((-1000001)) (by decide +kernel) dX6_digsFor_8 ?_
    exact hret _ _ _ _ _ dX6_digsFor_10 (by exact ⟨rfl, FrL_rf M, Or.inl ⟨nk2, rfl, rfl⟩⟩)

set_option maxRecDepth 20000 in
theorem ggX6_dig_X6_copy : GoodIn wsX6_dig wsX6_copy := goodIn_r _ [5, 6, 7, 118, 119, 120, 121, 122, 123, 124, 125, 126, 127, 128, 129, 130, 131, 132, 133, 134, 135, 136] (by decide +kernel) (by decide +kernel)
set_option maxRecDepth 20000 in
theorem gX6_dig_X6_copy : GoodIn wsX6_dig (wsV RX6 62 RX6 yX6_copy wsX6_copy) := goodIn_app (goodIn_of _ (by decide +kernel)) ggX6_dig_X6_copy
set_option maxRecDepth 20000 in
theorem ggX6_dig_X6_digsFor : GoodIn wsX6_dig wsX6_digsFor := goodIn_r _ [11, 12, 13, 7, 14, 15, 16, 17, 4, 18, 19, 20, 21, 22, 23, 24, 25, 26, 27, 28, 29, 30, 31, 32, 33, 34, 35, 36, 37, 38, 39, 40, 41, 42, 43, 44, 45, 46, 47, 48, 49, 50, 51, 52, 53, 54, 55, 56, 57, 58, 59, 60, 61, 62, 63, 64, 65, 66, 67, 68, 69, 70, 71, 72, 73, 74, 75, 76, 77, 78, 79, 80, 81, 82, 83, 84, 85, 86, 87, 88, 89, 90, 91, 92, 93, 94, 95, 96, 97, 98, 99, 100, 101, 102, 103, 104, 105, 106, 107, 108, 109, 110, 118, 119, 120, 121, 122, 123, 124, 125, 126, 127, 128, 129, 130, 131, 132, 133, 134, 135, 136] (by decide +kernel) (by decide +kernel)
set_option maxRecDepth 20000 in
theorem gX6_dig_X6_digsFor : GoodIn wsX6_dig (wsV RX6 162 RX6 yX6_digsFor wsX6_digsFor) := goodIn_app (goodIn_of _ (by decide +kernel)) ggX6_dig_X6_digsFor
set_option maxRecDepth 20000 in
theorem ggX6_dig_X6_recorded : GoodIn wsX6_dig wsX6_recorded := goodIn_r _ [114, 115, 116, 6, 117, 118, 119, 120, 121, 122, 123, 124, 125, 126, 127, 128, 129, 130, 131, 132, 133, 134, 135, 136] (by decide +kernel) (by decide +kernel)
set_option maxRecDepth 20000 in
theorem gX6_dig_X6_recorded : GoodIn wsX6_dig (wsV RX6 65 RX6 yX6_recorded wsX6_recorded) := goodIn_app (goodIn_of _ (by decide +kernel)) ggX6_dig_X6_recorded
theorem dX6_dig_0 : decode cX6_dig 0 = .ok (.aload_n 0, 1) := by decide +kernel
theorem dX6_dig_1 : decode cX6_dig 1 = .ok (.invokevirtual 62, 3) := by decide +kernel
theorem dX6_dig_4 : decode cX6_dig 4 = .ok (.aload_n 0, 1) := by decide +kernel
theorem dX6_dig_5 : decode cX6_dig 5 = .ok (.aload_n 0, 1) := by decide +kernel
theorem dX6_dig_6 : decode cX6_dig 6 = .ok (.iload_n 1, 1) := by decide +kernel
theorem dX6_dig_7 : decode cX6_dig 7 = .ok (.invokevirtual 162, 3) := by decide +kernel
theorem dX6_dig_10 : decode cX6_dig 10 = .ok (.invokevirtual 65, 3) := by decide +kernel
theorem dX6_dig_13 : decode cX6_dig 13 = .ok (.ireturn, 1) := by decide +kernel
abbrev rmX6_dig : Room := { frames := 6, cells := 0, slots := 0, locals := 148 }

set_option maxRecDepth 100000 in
set_option maxHeartbeats 4000000 in
theorem c_X6_dig {l : Launch} {g : Geo} {M : Nat → Nat → Int32} {P : Nat → Nat} {N K B : Nat} (hI : InvX eM (M 159) N K B) {many at_ : Nat} (hm : M 158 5 = nI many) (hm4 : many ≤ 4) (hat : M 158 6 = nI at_) (hat4 : at_ < 4) {a : Int32} : Met l yX6_dig wsX6_dig rmX6_dig (cPre g [.ref (g.1 158), .int a] M P) (cQi g (fun r M' P' => P = P' ∧ FrM M M' ∧ KpM many at_ (M 159) M r M' ∧ digQ finM eM (M 159) N K a r (M' 159))) 0 0 (gA g) := by
  refine met_i (cc := cX6_dig) (maxL := 2) (by decide) rfl ⟨rfl, rfl⟩ (Nat.le_of_ble_eq_true rfl) (fun x hx h hret => ?_)
  replace h : Cxk x g cX6_dig 2 wsX6_dig RX6 rmX6_dig := h
  show X x 0 [(0, .ref (g.1 158)), (1, .int a)] [] M P
  refine x_aload_n h 0 dX6_dig_0 rfl rfl ?_
  refine x_callVv h (As := []) 0 hx (c_X6_copy) gX6_dig_X6_copy rfl ⟨rfl, rfl⟩ (by decide +kernel) rfl (by decide) (by decide) E_158 rfl rfl (Nat.le_of_ble_eq_true rfl) dX6_dig_1 (fun Mc P' hp => ?_)
  obtain ⟨rfl, hMc⟩ := hp
  have hC : Ch M Mc := by rw [hMc]; exact Ch_copy M
  have hc9 : Mc 159 = M 159 := by rw [hMc, va_up_n _ _ (by decide)]
  have hIc := hI; rw [← hc9] at hIc
  refine x_aload_n h 0 dX6_dig_4 rfl rfl ?_
  refine x_aload_n h 0 dX6_dig_5 rfl rfl ?_
  refine x_iload_n h 1 dX6_dig_6 rfl rfl ?_
  refine x_callV h (As := [.int a]) 1 hx (c_X6_digsFor hIc) gX6_dig_X6_digsFor rfl ⟨rfl, rfl⟩ (by decide +kernel) rfl (by decide) (by decide) E_158 rfl rfl (Nat.le_of_ble_eq_true rfl) dX6_dig_7 (fun a7 W1 P' hp => ?_)
  obtain ⟨rfl, hFL, hQ7⟩ := hp
  have hCh : Ch M W1 := Ch_L hC hFL
  rw [hc9] at hQ7
  refine x_callV h (As := [.int a7]) 1 hx (c_X6_recorded ((hCh.2.2 5 (by decide)).trans hm) hm4 ((hCh.2.2 6 (by decide)).trans hat) hat4) gX6_dig_X6_recorded rfl ⟨rfl, rfl⟩ (by decide +kernel) rfl (by decide) (by decide) E_158 rfl rfl (Nat.le_of_ble_eq_true rfl) dX6_dig_10 (fun rv Mr P' hp => ?_)
  obtain ⟨rfl, rfl, hrec⟩ := hp
  obtain ⟨f1, f2, f3⟩ := rec_mk hCh hm hat hrec
  exact hret _ _ _ _ _ dX6_dig_13 (by refine ⟨rfl, f1, f2, ?_⟩; rw [f3]; exact hQ7)
