
theorem kp_mkT {P P' : Nat → Nat} {M M1 M2 M3 : Nat → Nat → Int32} {s : Nat} {r a : Int32} (hP : StP P) (h1 : ∀ k, k ≠ P 1 → M1 k = M k) (h2 : FrT (P 1) M1 M2) (hs : M 144 6 = nI s) (hk : r = a ∧ ((a < 0 ∧ P' = P ∧ M3 = M2) ∨ (¬ a < 0 ∧ P' = rotP P ∧ M3 = st2 M2 144 6 (nI (min (s + 1) 4))))) : FrK P M M3 ∧ M3 147 1 = M 147 1 ∧ KpQ s M P r M3 P' ∧ M3 (P 1) = M2 (P 1) ∧ r = a := by
  have hp1 := hP.1 1 (by decide)
  have e144 : M2 144 = M 144 := (h2.1 144 (by omega) (by decide) (by omega)).trans (h1 144 (by omega))
  have e147 : M2 147 1 = M 147 1 := h2.2.trans (by rw [h1 147 (by omega)])
  obtain ⟨rfl, ⟨g1, g2, rfl⟩ | ⟨g1, g2, rfl⟩⟩ := hk
  · exact ⟨fun k a1 a2 a3 a4 => (h2.1 k a1 a3 a4).trans (h1 k a1), e147, Or.inl ⟨g1, g2, by rw [e144]; exact hs⟩, rfl, rfl⟩
  · exact ⟨fun k a1 a2 a3 a4 => (st2_n _ _ _ a2).trans ((h2.1 k a1 a3 a4).trans (h1 k a1)), by rw [st2_n _ _ _ (by decide)]; exact e147, Or.inr ⟨g1, g2, by rw [st2_k, pk_us]⟩, st2_n _ _ _ (by omega), rfl⟩
theorem TxM_cg {M M' : Nat → Nat → Int32} {tx : Nat → Nat} {ln : Nat} (h1 : M' 147 1 = M 147 1) (h2 : M' 148 = M 148) (h : TxM M tx ln) : TxM M' tx ln := ⟨h1.trans h.1, h.2.1, fun i hi => by rw [h2]; exact h.2.2 i hi⟩
def FltQ (bt : (Nat → Int32) → Nat → Nat → Bool) (fin : (Nat → Int32) → Nat → Nat → Nat → List Nat → Nat → Int32) (e : Enc) (tx : Nat → Nat) (ln : Nat) (Y : Nat → Int32) (N K : Nat) (w r : Int32) : Prop := (¬ InR 2 w ∧ r = -1000001) ∨ ∃ b, b < 2 ∧ w = nI b ∧ ∃ i p rr X', RunE bt fin e tx ln Y N K i p rr X' ∧ ((rr = 0 ∧ r = -1000004) ∨ (¬ rr = 0 ∧ b = 0 ∧ r = nI p) ∨ (¬ rr = 0 ∧ b = 1 ∧ r = rr))
def PlyQ (bt : (Nat → Int32) → Nat → Nat → Bool) (fin : (Nat → Int32) → Nat → Nat → Nat → List Nat → Nat → Int32) (e : Enc) (tx : Nat → Nat) (ln : Nat) (Y : Nat → Int32) (N K : Nat) (r : Int32) (X' : Nat → Int32) : Prop := ∃ i p rr, RunE bt fin e tx ln Y N K i p rr X' ∧ ((rr = 0 ∧ r = nI i) ∨ (¬ rr = 0 ∧ r = -1000002))

set_option maxRecDepth 20000 in
theorem ggX5_fault_X5_freshTrial : GoodIn wsX5_fault wsX5_freshTrial := goodIn_r _ [11, 12, 13, 14, 15, 16, 17, 18, 19, 20, 21, 22, 23, 24, 25, 26, 27, 28, 29, 30, 31, 32, 33, 34, 35, 36, 37, 38, 39, 40, 41, 42, 43, 44, 45, 46, 47, 48, 49, 50, 51, 52, 53, 54, 55, 56, 284, 285, 286, 287, 288, 289, 290, 296, 297, 298, 299, 300, 301, 302, 303, 304, 305, 306, 307, 308, 309, 310, 311, 312, 313, 314, 315, 316, 317, 318, 319] (by decide +kernel) (by decide +kernel)
set_option maxRecDepth 20000 in
theorem gX5_fault_X5_freshTrial : GoodIn wsX5_fault (wsV RX5 45 RX5 yX5_freshTrial wsX5_freshTrial) := goodIn_app (goodIn_of _ (by decide +kernel)) ggX5_fault_X5_freshTrial
set_option maxRecDepth 20000 in
theorem ggX5_fault_X4_runOn : GoodIn wsX5_fault wsX4_runOn := goodIn_r _ [61, 62, 63, 64, 65, 66, 67, 68, 60, 69, 70, 71, 72, 73, 74, 75, 76, 77, 78, 79, 80, 81, 82, 83, 84, 85, 86, 87, 88, 89, 90, 17, 91, 92, 29, 93, 94, 27, 95, 96, 97, 98, 99, 100, 101, 102, 103, 104, 30, 105, 106, 107, 108, 28, 109, 110, 111, 112, 113, 114, 115, 116, 19, 117, 118, 119, 120, 121, 122, 123, 124, 125, 126, 26, 127, 128, 129, 34, 130, 40, 43, 131, 132, 133, 134, 44, 135, 136, 137, 138, 24, 139, 140, 141, 142, 143, 25, 144, 145, 146, 147, 148, 149, 150, 151, 152, 153, 154, 155, 156, 157, 158, 159, 160, 161, 162, 163, 164, 165, 166, 167, 168, 169, 170, 171, 172, 173, 174, 175, 176, 177, 178, 179, 180, 181, 182, 183, 184, 185, 186, 187, 188, 189, 190, 191, 192, 193, 194, 195, 196, 197, 198, 199, 200, 201, 202, 203, 204, 205, 206, 207, 208, 209, 210, 211, 212, 213, 214, 215, 216, 217, 218, 219, 220, 221, 222, 223, 224, 225, 226, 227, 228, 229, 230, 231, 232, 233, 234, 235, 236, 237, 238, 239, 240, 241, 242, 243, 244, 245, 246, 247, 248, 249, 250, 251, 252, 253, 254, 255, 256, 257, 258, 259, 260, 261, 262, 263, 264, 265, 266, 267, 268, 269, 270, 271, 272, 273, 274, 275, 276, 277, 278, 279, 280, 281, 282, 283, 291, 292, 293, 294, 295, 296, 297, 298, 299, 300, 301, 302, 303, 313, 314, 315, 316, 317, 318, 319, 304, 305, 306, 307, 308, 309, 310, 311, 312, 320, 321, 322, 323, 324, 325, 326, 327, 328, 329, 330, 331, 332, 333, 334] (by decide +kernel) (by decide +kernel)
set_option maxRecDepth 20000 in
theorem gX5_fault_X4_runOn : GoodIn wsX5_fault (wsV RX5 145 RX4 yX4_runOn wsX4_runOn) := goodIn_app (goodIn_of _ (by decide +kernel)) ggX5_fault_X4_runOn
theorem dX5_fault_0 : decode cX5_fault 0 = .ok (.iload_n 1, 1) := by decide +kernel
theorem dX5_fault_1 : decode cX5_fault 1 = .ok (.ifCond .lt 8, 3) := by decide +kernel
theorem dX5_fault_4 : decode cX5_fault 4 = .ok (.iload_n 1, 1) := by decide +kernel
theorem dX5_fault_5 : decode cX5_fault 5 = .ok (.iconst 1, 1) := by decide +kernel
theorem dX5_fault_6 : decode cX5_fault 6 = .ok (.if_icmp .le 6, 3) := by decide +kernel
theorem dX5_fault_9 : decode cX5_fault 9 = .ok (.ldc 70, 2) := by decide +kernel
theorem dX5_fault_11 : decode cX5_fault 11 = .ok (.ireturn, 1) := by decide +kernel
theorem dX5_fault_12 : decode cX5_fault 12 = .ok (.aload_n 0, 1) := by decide +kernel
theorem dX5_fault_13 : decode cX5_fault 13 = .ok (.getfield 19, 3) := by decide +kernel
theorem dX5_fault_16 : decode cX5_fault 16 = .ok (.aload_n 0, 1) := by decide +kernel
theorem dX5_fault_17 : decode cX5_fault 17 = .ok (.invokevirtual 45, 3) := by decide +kernel
theorem dX5_fault_20 : decode cX5_fault 20 = .ok (.aload_n 0, 1) := by decide +kernel
theorem dX5_fault_21 : decode cX5_fault 21 = .ok (.getfield 10, 3) := by decide +kernel
theorem dX5_fault_24 : decode cX5_fault 24 = .ok (.invokevirtual 145, 3) := by decide +kernel
theorem dX5_fault_27 : decode cX5_fault 27 = .ok (.aload_n 0, 1) := by decide +kernel
theorem dX5_fault_28 : decode cX5_fault 28 = .ok (.getfield 19, 3) := by decide +kernel
theorem dX5_fault_31 : decode cX5_fault 31 = .ok (.getfield 149, 3) := by decide +kernel
theorem dX5_fault_34 : decode cX5_fault 34 = .ok (.ifCond .ne 6, 3) := by decide +kernel
theorem dX5_fault_37 : decode cX5_fault 37 = .ok (.ldc 74, 2) := by decide +kernel
theorem dX5_fault_39 : decode cX5_fault 39 = .ok (.ireturn, 1) := by decide +kernel
theorem dX5_fault_40 : decode cX5_fault 40 = .ok (.iload_n 1, 1) := by decide +kernel
theorem dX5_fault_41 : decode cX5_fault 41 = .ok (.ifCond .ne 13, 3) := by decide +kernel
theorem dX5_fault_44 : decode cX5_fault 44 = .ok (.aload_n 0, 1) := by decide +kernel
theorem dX5_fault_45 : decode cX5_fault 45 = .ok (.getfield 19, 3) := by decide +kernel
theorem dX5_fault_48 : decode cX5_fault 48 = .ok (.getfield 152, 3) := by decide +kernel
theorem dX5_fault_51 : decode cX5_fault 51 = .ok (.goto 10, 3) := by decide +kernel
theorem dX5_fault_54 : decode cX5_fault 54 = .ok (.aload_n 0, 1) := by decide +kernel
theorem dX5_fault_55 : decode cX5_fault 55 = .ok (.getfield 19, 3) := by decide +kernel
theorem dX5_fault_58 : decode cX5_fault 58 = .ok (.getfield 149, 3) := by decide +kernel
theorem dX5_fault_61 : decode cX5_fault 61 = .ok (.ireturn, 1) := by decide +kernel
abbrev rmX5_fault : Room := { frames := 7, cells := 0, slots := 0, locals := 168 }
set_option maxRecDepth 20000 in
theorem in_X5_fault_X4 : ∀ w ∈ wsX40, w ∈ wsX5_fault := by decide +kernel
set_option maxRecDepth 20000 in
theorem in_X5_fault_X5 : ∀ w ∈ wsX50, w ∈ wsX5_fault := by decide +kernel

set_option maxRecDepth 100000 in
set_option maxHeartbeats 4000000 in
theorem c_X5_fault {l : Launch} {g : Geo} {M : Nat → Nat → Int32} {P : Nat → Nat} (hP : StP P) {N K B : Nat} (hI : InvC (M (P 0)) N K B) (hNb : Nbr M) {tx : Nat → Nat} {ln : Nat} (hT : TxM M tx ln) {w : Int32} : Met l yX5_fault wsX5_fault rmX5_fault (cPre g [.ref (g.1 144), .int w] M P) (cQi g (fun r M' P' => P = P' ∧ (∀ k, k ≠ P 1 → k ≠ 147 → (k < 149 ∨ k = 150 ∨ 157 < k) → M' k = M k) ∧ M' 147 1 = M 147 1 ∧ ∃ Y, LvX (M (P 0)) Y N K ∧ FltQ bC finC eC tx ln Y N K w r)) 0 0 (gA g) := by
  refine met_i (cc := cX5_fault) (maxL := 2) (by decide) rfl ⟨rfl, rfl⟩ (Nat.le_of_ble_eq_true rfl) (fun x hx h hret => ?_)
  replace h : Cxk x g cX5_fault 2 wsX5_fault RX5 rmX5_fault := h
  show X x 0 [(0, .ref (g.1 144)), (1, .int w)] [] M P
  have hp1 := hP.1 1 (by decide)
  refine x_iload_n h 1 dX5_fault_0 rfl rfl ?_
  refine x_if_lt h 9 dX5_fault_1 (by decide) (fun c_1 => ?_) (fun c_1 => ?_)
  · -- 1 true
    refine x_ldc h ((-1000001)) (by decide +kernel) dX5_fault_9 ?_
    exact hret _ _ _ _ _ dX5_fault_11 (by exact ⟨rfl, fun k _ _ _ => rfl, rfl, M (P 0), LvX_rf _ _ _, Or.inl ⟨by first | exact InR_no1 (by decide) c_1 | (rintro ⟨z, hz, rfl⟩; exact c_6 (nI_le (by omega) (by decide))), rfl⟩⟩)
  · -- 1 false
    refine x_iload_n h 1 dX5_fault_4 rfl rfl ?_
    refine x_iconst h (nI 1) dX5_fault_5 (by decide) ?_
    refine x_icmp_le h 12 dX5_fault_6 (by decide) (fun c_6 => ?_) (fun c_6 => ?_)
    · -- 6 true
      obtain ⟨b, hb, rfl⟩ := InR_of (N := 2) (x := w) (by decide) c_1 (fun q => by obtain ⟨z, hz, rfl⟩ := nI_of c_1; have := (nI_leI (by decide) hz).mp q; have := (nI_leI hz (by decide)).mp c_6; omega)
      refine x_aload_n h 0 dX5_fault_12 rfl rfl ?_
      refine xg_X5_1 h in_X5_fault_X5 (by decide +kernel) dX5_fault_13 ?_
      refine x_aload_n h 0 dX5_fault_16 rfl rfl ?_
      refine x_callVr h (As := []) 0 hx (c_X5_freshTrial hP hI) gX5_fault_X5_freshTrial rfl ⟨rfl, rfl⟩ (by decide +kernel) rfl (by decide) (by decide) E_144 rfl rfl (Nat.le_of_ble_eq_true rfl) dX5_fault_17 (fun q M2 P' hp => ?_)
      obtain ⟨rfl, rfl, ha2, hl2⟩ := hp
      have hI2 := InvC_lv hI hl2
      have hT2 : TxM M2 tx ln := TxM_cg (by rw [ha2 147 (by omega)]) (ha2 148 (by omega)) hT
      refine x_aload_n h 0 dX5_fault_20 rfl rfl ?_
      refine xg_X5_0 h in_X5_fault_X5 (by decide +kernel) dX5_fault_21 ?_
      refine x_callVv h (As := [.ref (g.1 (24 * (P 1))), .ref (g.1 149)]) 2 hx (c_X4_runOn (hP.1 1 (by decide)) hT2 hI2 (Nbr_cg (ha2 150 (by omega)) hNb)) gX5_fault_X4_runOn rfl ⟨rfl, rfl⟩ (by decide +kernel) rfl (by decide) (by decide) E_147 rfl rfl (Nat.le_of_ble_eq_true rfl) dX5_fault_24 (fun M3 P' hp => ?_)
      obtain ⟨rfl, hFT, i, p, rr, hRE, e2, e3, e4, hp61⟩ := hp
      have hp1' := hp1
      refine x_aload_n h 0 dX5_fault_27 rfl rfl ?_
      refine xg_X5_1 h in_X5_fault_X5 (by decide +kernel) dX5_fault_28 ?_
      refine xg_X4_3 h in_X5_fault_X4 (by decide +kernel) dX5_fault_31 ?_
      refine x_top (rr) (e3) ?_
      refine x_if_ne h 40 dX5_fault_34 (by decide) (fun c_34 => ?_) (fun c_34 => ?_)
      · -- 34 true
        refine x_iload_n h 1 dX5_fault_40 rfl rfl ?_
        refine x_if_ne_n h 54 dX5_fault_41 (by decide) (by omega) (fun c_41 => ?_) (fun c_41 => ?_)
        · -- 41 true
          refine x_aload_n h 0 dX5_fault_54 rfl rfl ?_
          refine xg_X5_1 h in_X5_fault_X5 (by decide +kernel) dX5_fault_55 ?_
          refine xg_X4_3 h in_X5_fault_X4 (by decide +kernel) dX5_fault_58 ?_
          refine x_top (rr) (e3) ?_
          exact hret _ _ _ _ _ dX5_fault_61 (by exact ⟨rfl, (fun k a1 a2 a3 => (hFT.1 k a1 a2 a3).trans (ha2 k a1)), hFT.2.trans (by rw [ha2 147 (by omega)]), M2 (P 1), hl2, Or.inr ⟨b, hb, rfl, i, p, rr, _, hRE, Or.inr (Or.inr ⟨c_34, by omega, rfl⟩)⟩⟩)
        · -- 41 false
          refine x_aload_n h 0 dX5_fault_44 rfl rfl ?_
          refine xg_X5_1 h in_X5_fault_X5 (by decide +kernel) dX5_fault_45 ?_
          refine xg_X4_2 h in_X5_fault_X4 (by decide +kernel) dX5_fault_48 ?_
          refine x_top (nI p) (e2) ?_
          refine x_goto h 61 dX5_fault_51 (by decide) ?_
          exact hret _ _ _ _ _ dX5_fault_61 (by exact ⟨rfl, (fun k a1 a2 a3 => (hFT.1 k a1 a2 a3).trans (ha2 k a1)), hFT.2.trans (by rw [ha2 147 (by omega)]), M2 (P 1), hl2, Or.inr ⟨b, hb, rfl, i, p, rr, _, hRE, Or.inr (Or.inl ⟨c_34, c_41, rfl⟩)⟩⟩)
      · -- 34 false
        refine x_ldc h ((-1000004)) (by decide +kernel) dX5_fault_37 ?_
        exact hret _ _ _ _ _ dX5_fault_39 (by exact ⟨rfl, (fun k a1 a2 a3 => (hFT.1 k a1 a2 a3).trans (ha2 k a1)), hFT.2.trans (by rw [ha2 147 (by omega)]), M2 (P 1), hl2, Or.inr ⟨b, hb, rfl, i, p, rr, _, hRE, Or.inl ⟨c_34, rfl⟩⟩⟩)
    · -- 6 false
      refine x_ldc h ((-1000001)) (by decide +kernel) dX5_fault_9 ?_
      exact hret _ _ _ _ _ dX5_fault_11 (by exact ⟨rfl, fun k _ _ _ => rfl, rfl, M (P 0), LvX_rf _ _ _, Or.inl ⟨by first | exact InR_no1 (by decide) c_1 | (rintro ⟨z, hz, rfl⟩; exact c_6 (nI_le (by omega) (by decide))), rfl⟩⟩)
