def InvC (X : Nat → Int32) (N K B : Nat) : Prop := InvX eC X N K B ∧ ZbX X K
theorem ZbX_cg {X Y : Nat → Int32} {K : Nat} (h : ∀ a, a < 162 → Y (400 + a) = X (400 + a)) (hz : ZbX X K) : ZbX Y K := fun i h1 h2 a ha => by
  rw [bC_cg (h a ha)]; exact hz i h1 h2 a ha
theorem Inv_ordC {X X' : Nat → Int32} {N K B L v : Nat} {r : Int32} (h : InvC X N K B) (hq : ordQ bC finC eC X N K L v r X') : ∃ K', InvC X' N K' B := by
  obtain ⟨hI, hz⟩ := h
  have hN := hI.1.2.1
  have hK := hI.1.2.2.2.1
  obtain ⟨a, ⟨-, hq, -⟩ | ⟨-, hq, -⟩ | ⟨-, hq, -⟩ | ⟨-, hq, -⟩ | ⟨-, hq, -⟩ | ⟨-, hq, -⟩⟩ := hq
  · refine ⟨K, Inv_hear eC_g hI hq, ?_⟩
    rcases hq with ⟨-, -, rfl⟩ | ⟨i, hh, d, -, hi, -, -, hhN, hd, -, hq⟩
    · exact hz
    · have hy : ∀ b, b < 162 → ∀ p, hearY X i hh d p (400 + b) = X (400 + b) := fun b hb p => hearY_o (by omega) (by omega) (fun q hq => by omega)
      rcases hq with ⟨-, rfl⟩ | ⟨-, ⟨-, rfl⟩ | ⟨-, rfl⟩⟩
      · exact ZbX_cg (fun b hb => by rw [pk_un (by omega), hy b hb]) hz
      · exact ZbX_cg (fun b hb => by rw [pk_un (by omega), loseE_n (by omega) (by omega), hy b hb]) hz
      · exact ZbX_cg (fun b hb => by rw [pk_un (by omega), backG_n (by omega) (by omega), loseE_n (by omega) (by omega), hy b hb]) hz
  · refine ⟨K, Inv_pass eC_g hI hq, ?_⟩
    rcases hq with ⟨-, -, rfl⟩ | ⟨-, -, ⟨-, -, rfl⟩ | ⟨-, -, rfl⟩⟩
    · exact hz
    · exact hz
    · exact ZbX_cg (fun b hb => pk_un (by omega)) hz
  · refine ⟨K, Inv_appl eC_g hI hq, ?_⟩
    rcases hq with ⟨-, -, rfl⟩ | ⟨i, hi, -, ⟨-, -, rfl⟩ | ⟨-, -, rfl, -⟩⟩
    · exact hz
    · exact hz
    · exact ZbX_cg (fun b hb => by rw [pk_un (by omega), pk_un (by omega)]) hz
  · refine ⟨K, Inv_lay eC_g hI hq, ?_⟩
    rcases hq with ⟨-, -, rfl⟩ | ⟨k, hk, -, ⟨-, -, rfl⟩ | ⟨-, z, l1, l2, -, -, rfl⟩⟩
    · exact hz
    · exact hz
    · exact ZbX_cg (fun b hb => by rw [pk_un (by omega), takeE_n (by omega) (by omega)]) hz
  · rcases hq with ⟨-, -, rfl⟩ | ⟨k, hk, -, ⟨-, -, rfl⟩ | ⟨-, z, l1, l2, -, ⟨-, -, rfl⟩ | ⟨hp, ⟨-, -, rfl⟩ | ⟨hb, -, rfl⟩⟩⟩⟩
    · exact ⟨K, hI, hz⟩
    · exact ⟨K, hI, hz⟩
    · exact ⟨K, hI, hz⟩
    · exact ⟨K, hI, hz⟩
    · obtain ⟨g1, g2⟩ := finC_F hN hk hI.1.2.2.1 hb hz
      exact ⟨_, Inv_dgF eC_g hI hk hp hb g1, g2⟩
  · refine ⟨K, Inv_rip eC_g hI hq, ?_⟩
    rcases hq with ⟨-, -, rfl⟩ | ⟨k, hk, -, ⟨-, -, rfl⟩ | ⟨-, -, rfl⟩⟩
    · exact hz
    · exact hz
    · exact ZbX_cg (fun b hb => by rw [pk_un (by omega), loseE_n (by omega) (by omega)]) hz
theorem endO_some {tx : Nat → Nat} {ln p en : Nat} (h : endO tx ln p = some en) : p + 1 ≤ en ∧ en < ln ∧ en ≤ p + 3 ∧ (tx p = 104 ∨ tx p = 119 ∨ tx p = 97 ∨ tx p = 108 ∨ tx p = 100 ∨ tx p = 114) ∧ ∀ j, p + 1 + j < en → 48 ≤ tx (p + 1 + j) ∧ tx (p + 1 + j) ≤ 57 := by
  unfold endO at h
  by_cases h1 : isC tx ln p 104
  · rw [if_pos h1] at h
    by_cases h2 : isC tx ln (p + 1) 59
    · rw [if_pos h2] at h; cases h
      exact ⟨Nat.le_refl _, h2.1, by omega, Or.inl h1.2, fun j hj => absurd hj (by omega)⟩
    · rw [if_neg h2] at h; cases h
  · rw [if_neg h1] at h
    by_cases h2 : isL tx ln p ∧ isD tx ln (p + 1)
    · rw [if_pos h2] at h
      have hl : tx p = 104 ∨ tx p = 119 ∨ tx p = 97 ∨ tx p = 108 ∨ tx p = 100 ∨ tx p = 114 := by
        have := h2.1.2
        omega
      by_cases h3 : isD tx ln (p + 2)
      · rw [if_pos h3] at h
        by_cases h4 : isC tx ln (p + 3) 59
        · rw [if_pos h4] at h; cases h
          refine ⟨by omega, h4.1, by omega, hl, fun j hj => ?_⟩
          rcases (show j = 0 ∨ j = 1 by omega) with rfl | rfl
          · exact h2.2.2
          · exact h3.2
        · rw [if_neg h4] at h; cases h
      · rw [if_neg h3] at h
        by_cases h4 : isC tx ln (p + 2) 59
        · rw [if_pos h4] at h; cases h
          refine ⟨by omega, h4.1, by omega, hl, fun j hj => ?_⟩
          obtain rfl : j = 0 := by omega
          exact h2.2.2
        · rw [if_neg h4] at h; cases h
    · rw [if_neg h2] at h; cases h
theorem numL_lt {tx : Nat → Nat} {b m : Nat} (h : ∀ j, j < m → tx (b + j) ≤ 126) (hm : m ≤ 2) : numL tx b m < 2000 := by
  rcases (show m = 0 ∨ m = 1 ∨ m = 2 by omega) with rfl | rfl | rfl
  · show 0 < 2000; omega
  · have := h 0 (by omega)
    show 10 * 0 + tx (b + 0) - 48 < 2000
    omega
  · have h0 := h 0 (by omega)
    have h1 := h 1 (by omega)
    show 10 * (10 * 0 + tx (b + 0) - 48) + tx (b + 1) - 48 < 2000
    omega
/-- orders, one behind the other -/
def RunS (bt : (Nat → Int32) → Nat → Nat → Bool) (fin : (Nat → Int32) → Nat → Nat → Nat → List Nat → Nat → Int32) (e : Enc) (tx : Nat → Nat) (ln : Nat) (X0 : Nat → Int32) (N K0 : Nat) : Nat → Nat → (Nat → Int32) → Nat → Prop
  | 0, p, X, K => p = 0 ∧ X = X0 ∧ K = K0
  | i + 1, p', X', K' => ∃ p X K m, RunS bt fin e tx ln X0 N K0 i p X K ∧ p < ln ∧ endO tx ln p = some (p + 1 + m) ∧ p' = p + 1 + m + 1 ∧ ordQ bt fin e X N K (tx p) (numL tx (p + 1) m) (nI 0) X' ∧ X' 6 = nI K' ∧ K' ≤ 12
/-- where a run of orders ends: done (0), no order (1), not possible (2 or 3) -/
def RunE (bt : (Nat → Int32) → Nat → Nat → Bool) (fin : (Nat → Int32) → Nat → Nat → Nat → List Nat → Nat → Int32) (e : Enc) (tx : Nat → Nat) (ln : Nat) (X0 : Nat → Int32) (N K0 i p : Nat) (rr : Int32) (X' : Nat → Int32) : Prop := ∃ X K, RunS bt fin e tx ln X0 N K0 i p X K ∧ ((ln ≤ p ∧ rr = nI 0 ∧ X' = X) ∨ (p < ln ∧ endO tx ln p = none ∧ rr = nI 1 ∧ X' = X) ∨ (p < ln ∧ ∃ m, endO tx ln p = some (p + 1 + m) ∧ ordQ bt fin e X N K (tx p) (numL tx (p + 1) m) rr X' ∧ ¬ rr = 0))
def FrT (c : Nat) (M M' : Nat → Nat → Int32) : Prop := (∀ k, k ≠ c → k ≠ 147 → (k < 149 ∨ k = 150 ∨ 157 < k) → M' k = M k) ∧ M' 147 1 = M 147 1
theorem FrT_C {c : Nat} {M M1 M2 : Nat → Nat → Int32} (hc : c < 6) (h : FrT c M M1) (h2 : FrC c M1 M2) : FrT c M M2 := ⟨fun k a b d => (h2 k a d).trans (h.1 k a b d), (congrFun (h2 147 (by omega) (by omega)) 1).trans h.2⟩
theorem FrT_s {c : Nat} {M M1 : Nat → Nat → Int32} (j : Nat) (v : Int32) (hj : j ≠ 1) (h : FrT c M M1) : FrT c M (st2 M1 147 j v) := ⟨fun k a b d => (st2_n _ _ _ b).trans (h.1 k a b d), by rw [st2_k, pk_un (fun q => hj q.symm)]; exact h.2⟩
theorem FrT_r (c : Nat) (M : Nat → Nat → Int32) : FrT c M M := ⟨fun _ _ _ _ => rfl, rfl⟩

set_option maxRecDepth 20000 in
theorem ggX4_runOn_X4_endOfOrder : GoodIn wsX4_runOn wsX4_endOfOrder := goodIn_r _ [9, 10, 11, 12, 8, 13, 4, 14, 15, 16, 17, 18, 19, 20, 237, 238, 239, 240, 241] (by decide +kernel) (by decide +kernel)
set_option maxRecDepth 20000 in
theorem gX4_runOn_X4_endOfOrder : GoodIn wsX4_runOn (wsV RX4 30 RX4 yX4_endOfOrder wsX4_endOfOrder) := goodIn_app (goodIn_of _ (by decide +kernel)) ggX4_runOn_X4_endOfOrder
set_option maxRecDepth 20000 in
theorem ggX4_runOn_X4_characterAt : GoodIn wsX4_runOn wsX4_characterAt := goodIn_r _ [13, 4, 14, 237, 238, 239, 240, 241] (by decide +kernel) (by decide +kernel)
set_option maxRecDepth 20000 in
theorem gX4_runOn_X4_characterAt : GoodIn wsX4_runOn (wsV RX4 34 RX4 yX4_characterAt wsX4_characterAt) := goodIn_app (goodIn_of _ (by decide +kernel)) ggX4_runOn_X4_characterAt
set_option maxRecDepth 20000 in
theorem ggX4_runOn_X4_numberIn : GoodIn wsX4_runOn wsX4_numberIn := goodIn_r _ [24, 10, 11, 12, 8, 13, 4, 14, 237, 238, 239, 240, 241] (by decide +kernel) (by decide +kernel)
set_option maxRecDepth 20000 in
theorem gX4_runOn_X4_numberIn : GoodIn wsX4_runOn (wsV RX4 37 RX4 yX4_numberIn wsX4_numberIn) := goodIn_app (goodIn_of _ (by decide +kernel)) ggX4_runOn_X4_numberIn
set_option maxRecDepth 20000 in
theorem ggX4_runOn_X4_doOrder : GoodIn wsX4_runOn wsX4_doOrder := goodIn_r _ [27, 28, 29, 30, 31, 32, 33, 34, 35, 36, 37, 38, 39, 40, 41, 42, 43, 44, 45, 46, 47, 48, 49, 50, 51, 52, 53, 54, 55, 56, 57, 58, 59, 60, 61, 62, 63, 64, 65, 66, 67, 68, 69, 70, 71, 72, 73, 74, 75, 76, 77, 78, 79, 80, 81, 82, 83, 84, 85, 86, 87, 88, 89, 90, 91, 92, 93, 94, 95, 96, 97, 98, 99, 100, 101, 102, 8, 103, 104, 105, 106, 107, 108, 109, 110, 111, 112, 113, 114, 115, 116, 117, 118, 119, 120, 121, 122, 123, 124, 125, 126, 127, 128, 129, 130, 131, 132, 133, 134, 135, 136, 137, 138, 139, 140, 141, 142, 143, 144, 145, 146, 147, 148, 149, 150, 151, 152, 153, 154, 155, 156, 157, 158, 159, 160, 161, 162, 163, 164, 165, 166, 167, 168, 169, 170, 171, 172, 173, 174, 175, 176, 177, 178, 179, 180, 181, 182, 183, 184, 185, 186, 187, 188, 189, 190, 191, 192, 193, 194, 195, 196, 197, 198, 199, 200, 201, 202, 203, 204, 205, 206, 207, 208, 209, 210, 211, 212, 213, 214, 215, 216, 217, 218, 219, 220, 221, 222, 223, 224, 225, 226, 227, 228, 229, 230, 231, 232, 233, 234, 235, 236, 242, 243, 244, 245, 246, 247, 248, 249, 250, 251, 252, 253, 254, 255, 256, 257, 258, 259, 260, 261, 262, 263, 264, 265, 266, 267, 268, 269, 270, 271, 272, 273, 274, 275, 276, 277, 278, 279, 280] (by decide +kernel) (by decide +kernel)
set_option maxRecDepth 20000 in
theorem gX4_runOn_X4_doOrder : GoodIn wsX4_runOn (va_wsS RX4 41 yX4_doOrder wsX4_doOrder) := goodIn_app (goodIn_of _ (by decide +kernel)) ggX4_runOn_X4_doOrder
theorem dX4_runOn_0 : decode cX4_runOn 0 = .ok (.aload_n 0, 1) := by decide +kernel
theorem dX4_runOn_1 : decode cX4_runOn 1 = .ok (.iconst 0, 1) := by decide +kernel
theorem dX4_runOn_2 : decode cX4_runOn 2 = .ok (.putfield 21, 3) := by decide +kernel
theorem dX4_runOn_5 : decode cX4_runOn 5 = .ok (.aload_n 0, 1) := by decide +kernel
theorem dX4_runOn_6 : decode cX4_runOn 6 = .ok (.iconst 0, 1) := by decide +kernel
theorem dX4_runOn_7 : decode cX4_runOn 7 = .ok (.putfield 24, 3) := by decide +kernel
theorem dX4_runOn_10 : decode cX4_runOn 10 = .ok (.aload_n 0, 1) := by decide +kernel
theorem dX4_runOn_11 : decode cX4_runOn 11 = .ok (.iconst 0, 1) := by decide +kernel
theorem dX4_runOn_12 : decode cX4_runOn 12 = .ok (.putfield 27, 3) := by decide +kernel
theorem dX4_runOn_15 : decode cX4_runOn 15 = .ok (.iconst 0, 1) := by decide +kernel
theorem dX4_runOn_16 : decode cX4_runOn 16 = .ok (.istore_n 3, 1) := by decide +kernel
theorem dX4_runOn_17 : decode cX4_runOn 17 = .ok (.iload_n 3, 1) := by decide +kernel
theorem dX4_runOn_18 : decode cX4_runOn 18 = .ok (.bipush 60, 2) := by decide +kernel
theorem dX4_runOn_20 : decode cX4_runOn 20 = .ok (.if_icmp .ge 105, 3) := by decide +kernel
theorem dX4_runOn_23 : decode cX4_runOn 23 = .ok (.aload_n 0, 1) := by decide +kernel
theorem dX4_runOn_24 : decode cX4_runOn 24 = .ok (.getfield 21, 3) := by decide +kernel
theorem dX4_runOn_27 : decode cX4_runOn 27 = .ok (.aload_n 0, 1) := by decide +kernel
theorem dX4_runOn_28 : decode cX4_runOn 28 = .ok (.getfield 16, 3) := by decide +kernel
theorem dX4_runOn_31 : decode cX4_runOn 31 = .ok (.if_icmp .ge 94, 3) := by decide +kernel
theorem dX4_runOn_34 : decode cX4_runOn 34 = .ok (.aload_n 0, 1) := by decide +kernel
theorem dX4_runOn_35 : decode cX4_runOn 35 = .ok (.getfield 24, 3) := by decide +kernel
theorem dX4_runOn_38 : decode cX4_runOn 38 = .ok (.ifCond .ne 87, 3) := by decide +kernel
theorem dX4_runOn_41 : decode cX4_runOn 41 = .ok (.aload_n 0, 1) := by decide +kernel
theorem dX4_runOn_42 : decode cX4_runOn 42 = .ok (.aload_n 0, 1) := by decide +kernel
theorem dX4_runOn_43 : decode cX4_runOn 43 = .ok (.getfield 21, 3) := by decide +kernel
theorem dX4_runOn_46 : decode cX4_runOn 46 = .ok (.invokevirtual 30, 3) := by decide +kernel
theorem dX4_runOn_49 : decode cX4_runOn 49 = .ok (.istore 4, 2) := by decide +kernel
theorem dX4_runOn_51 : decode cX4_runOn 51 = .ok (.iload 4, 2) := by decide +kernel
theorem dX4_runOn_53 : decode cX4_runOn 53 = .ok (.iconst (-1), 1) := by decide +kernel
theorem dX4_runOn_54 : decode cX4_runOn 54 = .ok (.if_icmp .ne 11, 3) := by decide +kernel
theorem dX4_runOn_57 : decode cX4_runOn 57 = .ok (.aload_n 0, 1) := by decide +kernel
theorem dX4_runOn_58 : decode cX4_runOn 58 = .ok (.iconst 1, 1) := by decide +kernel
theorem dX4_runOn_59 : decode cX4_runOn 59 = .ok (.putfield 24, 3) := by decide +kernel
theorem dX4_runOn_62 : decode cX4_runOn 62 = .ok (.goto 32, 3) := by decide +kernel
theorem dX4_runOn_65 : decode cX4_runOn 65 = .ok (.aload_n 0, 1) := by decide +kernel
theorem dX4_runOn_66 : decode cX4_runOn 66 = .ok (.aload_n 1, 1) := by decide +kernel
theorem dX4_runOn_67 : decode cX4_runOn 67 = .ok (.aload_n 2, 1) := by decide +kernel
theorem dX4_runOn_68 : decode cX4_runOn 68 = .ok (.aload_n 0, 1) := by decide +kernel
theorem dX4_runOn_69 : decode cX4_runOn 69 = .ok (.aload_n 0, 1) := by decide +kernel
theorem dX4_runOn_70 : decode cX4_runOn 70 = .ok (.getfield 21, 3) := by decide +kernel
theorem dX4_runOn_73 : decode cX4_runOn 73 = .ok (.invokevirtual 34, 3) := by decide +kernel
theorem dX4_runOn_76 : decode cX4_runOn 76 = .ok (.aload_n 0, 1) := by decide +kernel
theorem dX4_runOn_77 : decode cX4_runOn 77 = .ok (.aload_n 0, 1) := by decide +kernel
theorem dX4_runOn_78 : decode cX4_runOn 78 = .ok (.getfield 21, 3) := by decide +kernel
theorem dX4_runOn_81 : decode cX4_runOn 81 = .ok (.iconst 1, 1) := by decide +kernel
theorem dX4_runOn_82 : decode cX4_runOn 82 = .ok (.iadd, 1) := by decide +kernel
theorem dX4_runOn_83 : decode cX4_runOn 83 = .ok (.iload 4, 2) := by decide +kernel
theorem dX4_runOn_85 : decode cX4_runOn 85 = .ok (.invokevirtual 37, 3) := by decide +kernel
theorem dX4_runOn_88 : decode cX4_runOn 88 = .ok (.invokestatic 41, 3) := by decide +kernel
theorem dX4_runOn_91 : decode cX4_runOn 91 = .ok (.putfield 24, 3) := by decide +kernel
theorem dX4_runOn_94 : decode cX4_runOn 94 = .ok (.aload_n 0, 1) := by decide +kernel
theorem dX4_runOn_95 : decode cX4_runOn 95 = .ok (.getfield 24, 3) := by decide +kernel
theorem dX4_runOn_98 : decode cX4_runOn 98 = .ok (.ifCond .ne 21, 3) := by decide +kernel
theorem dX4_runOn_101 : decode cX4_runOn 101 = .ok (.aload_n 0, 1) := by decide +kernel
theorem dX4_runOn_102 : decode cX4_runOn 102 = .ok (.dup, 1) := by decide +kernel
theorem dX4_runOn_103 : decode cX4_runOn 103 = .ok (.getfield 27, 3) := by decide +kernel
theorem dX4_runOn_106 : decode cX4_runOn 106 = .ok (.iconst 1, 1) := by decide +kernel
theorem dX4_runOn_107 : decode cX4_runOn 107 = .ok (.iadd, 1) := by decide +kernel
theorem dX4_runOn_108 : decode cX4_runOn 108 = .ok (.putfield 27, 3) := by decide +kernel
theorem dX4_runOn_111 : decode cX4_runOn 111 = .ok (.aload_n 0, 1) := by decide +kernel
theorem dX4_runOn_112 : decode cX4_runOn 112 = .ok (.iload 4, 2) := by decide +kernel
theorem dX4_runOn_114 : decode cX4_runOn 114 = .ok (.iconst 1, 1) := by decide +kernel
theorem dX4_runOn_115 : decode cX4_runOn 115 = .ok (.iadd, 1) := by decide +kernel
theorem dX4_runOn_116 : decode cX4_runOn 116 = .ok (.putfield 21, 3) := by decide +kernel
theorem dX4_runOn_119 : decode cX4_runOn 119 = .ok (.iinc 3 1, 3) := by decide +kernel
theorem dX4_runOn_122 : decode cX4_runOn 122 = .ok (.goto (-105), 3) := by decide +kernel
theorem dX4_runOn_125 : decode cX4_runOn 125 = .ok (.return_, 1) := by decide +kernel
abbrev rmX4_runOn : Room := { frames := 6, cells := 0, slots := 0, locals := 144 }
set_option maxRecDepth 20000 in
theorem in_X4_runOn_X4 : ∀ w ∈ wsX40, w ∈ wsX4_runOn := by decide +kernel

set_option maxRecDepth 100000 in
set_option maxHeartbeats 8000000 in
theorem c_X4_runOn {l : Launch} {g : Geo} {M : Nat → Nat → Int32} {P : Nat → Nat} {c : Nat} (hc : c < 6) {tx : Nat → Nat} {ln : Nat} (hT : TxM M tx ln) {N K0 B : Nat} (hIC : InvC (M c) N K0 B) (hNb : Nbr M) : Met l yX4_runOn wsX4_runOn rmX4_runOn (cPre g [.ref (g.1 147), .ref (g.1 (24 * c)), .ref (g.1 149)] M P) (cQv g (fun M' P' => P = P' ∧ FrT c M M' ∧ ∃ i p rr, RunE bC finC eC tx ln (M c) N K0 i p rr (M' c) ∧ M' 147 2 = nI p ∧ M' 147 3 = rr ∧ M' 147 4 = nI i ∧ p ≤ 61)) 0 0 (gA g) := by
  refine met_v (cc := cX4_runOn) (maxL := 5) (by decide) rfl ⟨rfl, rfl⟩ (Nat.le_of_ble_eq_true rfl) (fun x hx h hret => ?_)
  replace h : Cxk x g cX4_runOn 5 wsX4_runOn RX4 rmX4_runOn := h
  show X x 0 [(0, .ref (g.1 147)), (1, .ref (g.1 (24 * c))), (2, .ref (g.1 149))] [] M P
  refine x_aload_n h 0 dX4_runOn_0 rfl rfl ?_
  refine x_iconst h (nI 0) dX4_runOn_1 (by decide) ?_
  refine xp_X4_2 h in_X4_runOn_X4 (by decide +kernel) dX4_runOn_2 ?_
  refine x_aload_n h 0 dX4_runOn_5 rfl rfl ?_
  refine x_iconst h (nI 0) dX4_runOn_6 (by decide) ?_
  refine xp_X4_3 h in_X4_runOn_X4 (by decide +kernel) dX4_runOn_7 ?_
  refine x_aload_n h 0 dX4_runOn_10 rfl rfl ?_
  refine x_iconst h (nI 0) dX4_runOn_11 (by decide) ?_
  refine xp_X4_4 h in_X4_runOn_X4 (by decide +kernel) dX4_runOn_12 ?_
  refine x_iconst h (nI 0) dX4_runOn_15 (by decide) ?_
  refine x_istore_n h [(3, .int (nI 0)), (0, .ref (g.1 147)), (1, .ref (g.1 (24 * c))), (2, .ref (g.1 149))] dX4_runOn_16 rfl (by decide) rfl ?_
  have L17 : ∀ (fu : Nat) (i : Nat) (i0 : Nat) (p : Nat) (W : Nat → Nat → Int32), (60 - i) < fu → (i ≤ 60) → (i = i0 ∨ ¬ W 147 3 = nI 0) → (p ≤ 61) → (i ≤ p ∨ ¬ W 147 3 = nI 0) → (W 147 2 = nI p) → (W 147 4 = nI i0) → (FrT c M W) → ((∃ K, RunS bC finC eC tx ln (M c) N K0 i0 p (W c) K ∧ InvC (W c) N K B ∧ W 147 3 = nI 0) ∨ (∃ rr, RunE bC finC eC tx ln (M c) N K0 i0 p rr (W c) ∧ ¬ rr = 0 ∧ W 147 3 = rr) ) → X x 17 [(0, .ref (g.1 147)), (1, .ref (g.1 (24 * c))), (2, .ref (g.1 149)), (3, .int (nI i))] [] W P := by
    intro fu
    induction fu with
    | zero => intro i i0 p W hmu17; exact absurd hmu17 (Nat.not_lt_zero _)
    | succ fu ih17 =>
      intro i i0 p W hmu17 hi hii hp61 hip h2 h4 hFr hst
      rcases hst with ⟨K, hRS, hIv, h3⟩ | ⟨rr, hRE, hrr, h3⟩
      · -- running
        have hie : i = i0 := hii.resolve_right (fun q => q h3)
        subst hie
        replace hip : i ≤ p := hip.resolve_right (fun q => q h3)
        refine x_iload_n h 3 dX4_runOn_17 rfl rfl ?_
        refine x_bipush h (nI 60) dX4_runOn_18 (by decide) ?_
        refine x_icmp_ge_n h 125 dX4_runOn_20 (by decide) (by first | omega | (have := hT.2.1; omega)) (by decide) (fun c_20 => ?_) (fun c_20 => ?_)
        · -- 20 true
          exact hret _ _ _ _ dX4_runOn_125 (by first | exact ⟨rfl, hFr, i0, p, rr, hRE, h2, h3, h4, hp61⟩ | exact ⟨rfl, hFr, i, p, nI 0, ⟨_, K, hRS, Or.inl ⟨by have := hT.2.1; omega, rfl, rfl⟩⟩, h2, h3, h4, hp61⟩)
        · -- 20 false
          refine x_aload_n h 0 dX4_runOn_23 rfl rfl ?_
          refine xg_X4_2 h in_X4_runOn_X4 (by decide +kernel) dX4_runOn_24 ?_
          refine x_top (nI p) (h2) ?_
          refine x_aload_n h 0 dX4_runOn_27 rfl rfl ?_
          refine xg_X4_1 h in_X4_runOn_X4 (by decide +kernel) dX4_runOn_28 ?_
          refine x_top (nI ln) (hFr.2.trans hT.1) ?_
          refine x_icmp_ge_n h 125 dX4_runOn_31 (by decide) (by first | omega | (have := hT.2.1; omega)) (by first | omega | (have := hT.2.1; omega)) (fun c_31 => ?_) (fun c_31 => ?_)
          · -- 31 true
            exact hret _ _ _ _ dX4_runOn_125 (by first | exact ⟨rfl, hFr, i0, p, rr, hRE, h2, h3, h4, hp61⟩ | exact ⟨rfl, hFr, i, p, nI 0, ⟨_, K, hRS, Or.inl ⟨by have := hT.2.1; omega, rfl, rfl⟩⟩, h2, h3, h4, hp61⟩)
          · -- 31 false
            have hTl := hT.2.1
            have hpl : p < ln := by omega
            refine x_aload_n h 0 dX4_runOn_34 rfl rfl ?_
            refine xg_X4_3 h in_X4_runOn_X4 (by decide +kernel) dX4_runOn_35 ?_
            refine x_top (nI 0) (h3) ?_
            refine x_if_ne h 125 dX4_runOn_38 (by decide) (fun c => absurd c (by decide)) (fun _ => ?_)
            have hTW : TxM W tx ln := ⟨hFr.2.trans hT.1, hT.2.1, fun q hq => by rw [hFr.1 148 (by omega) (by decide) (by omega)]; exact hT.2.2 q hq⟩
            refine x_aload_n h 0 dX4_runOn_41 rfl rfl ?_
            refine x_aload_n h 0 dX4_runOn_42 rfl rfl ?_
            refine xg_X4_2 h in_X4_runOn_X4 (by decide +kernel) dX4_runOn_43 ?_
            refine x_top (nI p) (h2) ?_
            refine x_callV h (As := [.int (nI p)]) 1 hx (c_X4_endOfOrder hTW (by omega)) gX4_runOn_X4_endOfOrder rfl ⟨rfl, rfl⟩ (by decide +kernel) rfl (by decide) (by decide) E_147 rfl rfl (Nat.le_of_ble_eq_true rfl) dX4_runOn_46 (fun rv M' P' hp => ?_)
            obtain ⟨⟨rfl, rfl⟩, rfl⟩ := hp
            refine x_istore h [(4, .int (ngh (endO tx ln p))), (0, .ref (g.1 147)), (1, .ref (g.1 (24 * c))), (2, .ref (g.1 149)), (3, .int (nI i))] dX4_runOn_49 (by decide) rfl ?_
            refine x_iload h 0 dX4_runOn_51 rfl ?_
            refine x_iconst h ((-1)) dX4_runOn_53 (by decide) ?_
            refine x_icmp_ne h 65 dX4_runOn_54 (by decide) (fun c_54 => ?_) (fun c_54 => ?_)
            · -- 54 true
              obtain ⟨en, hen⟩ := ngh_nm1 c_54
              obtain ⟨hen1, hen2, hen3, hen4, hen5⟩ := endO_some hen
              obtain ⟨m, rfl⟩ : ∃ m, en = p + 1 + m := ⟨en - (p + 1), by omega⟩
              rw [hen]
              refine x_lv (lv' := [(4, .int (nI (p + 1 + m))), (0, .ref (g.1 147)), (1, .ref (g.1 (24 * c))), (2, .ref (g.1 149)), (3, .int (nI i))]) ?_ [0, 1, 2, 3, 4] rfl
              refine x_aload_n h 1 dX4_runOn_65 rfl rfl ?_
              refine x_aload_n h 2 dX4_runOn_66 rfl rfl ?_
              refine x_aload_n h 3 dX4_runOn_67 rfl rfl ?_
              refine x_aload_n h 1 dX4_runOn_68 rfl rfl ?_
              refine x_aload_n h 1 dX4_runOn_69 rfl rfl ?_
              refine xg_X4_2 h in_X4_runOn_X4 (by decide +kernel) dX4_runOn_70 ?_
              refine x_top (nI p) (h2) ?_
              refine x_callV h (As := [.int (nI p)]) 1 hx (c_X4_characterAt hTW (by omega)) gX4_runOn_X4_characterAt rfl ⟨rfl, rfl⟩ (by decide +kernel) rfl (by decide) (by decide) E_147 rfl rfl (Nat.le_of_ble_eq_true rfl) dX4_runOn_73 (fun rv M' P' hp => ?_)
              obtain ⟨⟨rfl, rfl⟩, rfl⟩ := hp
              refine x_top (nI (tx p)) (if_pos (by omega)) ?_
              refine x_aload_n h 1 dX4_runOn_76 rfl rfl ?_
              refine x_aload_n h 1 dX4_runOn_77 rfl rfl ?_
              refine xg_X4_2 h in_X4_runOn_X4 (by decide +kernel) dX4_runOn_78 ?_
              refine x_top (nI p) (h2) ?_
              refine x_iconst h (nI 1) dX4_runOn_81 (by decide) ?_
              refine x_iadd_n h dX4_runOn_82 ?_
              refine x_iload h 0 dX4_runOn_83 rfl ?_
              refine x_callV h (As := [.int (nI (p + 1)), .int (nI (p + 1 + m))]) 2 hx (c_X4_numberIn (b := p + 1) (m := m) hTW (by omega) (fun j hj => (hen5 j (by omega)).1)) gX4_runOn_X4_numberIn rfl ⟨rfl, rfl⟩ (by decide +kernel) rfl (by decide) (by decide) E_147 rfl rfl (Nat.le_of_ble_eq_true rfl) dX4_runOn_85 (fun rv M' P' hp => ?_)
              obtain ⟨⟨rfl, rfl⟩, rfl⟩ := hp
              refine x_callS h (As := [.ref (g.1 (24 * c)), .ref (g.1 149), .int (nI (tx p)), .int (nI (numL tx (p + 1) m))]) 4 hx (c_X4_doOrder hc hIv.1.1 (fun a k ha hk => by rw [hFr.1 150 (by omega) (by decide) (by omega)]; exact hNb a k ha hk) (by have := numL_lt (tx := tx) (b := p + 1) (m := m) (fun j hj => (hT.2.2 _ (by omega)).2.2) (by omega); omega) hen4) gX4_runOn_X4_doOrder rfl ⟨rfl, rfl⟩ (by decide +kernel) rfl (by decide) (Nat.le_of_ble_eq_true rfl) dX4_runOn_88 (fun rv M88 P' hp => ?_)
              obtain ⟨rfl, hF88, hQ88⟩ := hp
              have hFT := FrT_C hc hFr hF88
              refine xp_X4_3 h in_X4_runOn_X4 (by decide +kernel) dX4_runOn_91 ?_
              refine x_aload_n h 1 dX4_runOn_94 rfl rfl ?_
              refine xg_X4_3 h in_X4_runOn_X4 (by decide +kernel) dX4_runOn_95 ?_
              refine x_top (rv) (by rw [st2_k, pk_us]) ?_
              refine x_if_ne h 119 dX4_runOn_98 (by decide) (fun c_98 => ?_) (fun c_98 => ?_)
              · -- 98 true
                refine x_iinc_n h 4 (n := 1) [(3, .int (nI (i + 1))), (4, .int (nI (p + 1 + m))), (0, .ref (g.1 147)), (1, .ref (g.1 (24 * c))), (2, .ref (g.1 149))] dX4_runOn_119 rfl (by decide) rfl ?_
                refine x_goto h 17 dX4_runOn_122 (by decide) ?_
                exact x_lv (ih17 (i + 1) i p (st2 M88 147 3 rv) (by omega) (by omega) (by first | exact Or.inl (by omega) | exact Or.inr (by rw [st2_k, pk_us]; first | exact c_98 | decide)) (by omega) (by first | exact Or.inl (by omega) | exact Or.inr (by rw [st2_k, pk_us]; first | exact c_98 | decide)) (by first | (rw [st2_k, pk_us]) | (rw [st2_k, pk_un (by decide)]; exact h2) | (rw [st2_k, pk_un (by decide), hF88 147 (by omega) (by omega)]; exact h2)) (by first | (rw [st2_k, pk_un (by decide), st2_k, pk_us]) | (rw [st2_k, pk_un (by decide)]; exact h4) | (rw [st2_k, pk_un (by decide), hF88 147 (by omega) (by omega)]; exact h4)) (by first | exact FrT_s 3 _ (by decide) hFr | exact FrT_s 3 _ (by decide) hFT | exact FrT_s 2 _ (by decide) (FrT_s 4 _ (by decide) (FrT_s 3 _ (by decide) hFT))) (by first | exact Or.inr ⟨nI 1, ⟨_, K, hRS, Or.inr (Or.inl ⟨by omega, ngh_m1 c_54 (fun t e => by have := (endO_some e).2.1; omega), rfl, by rw [st2_n _ _ _ (by omega)]⟩)⟩, by decide, by rw [st2_k, pk_us]⟩ | exact Or.inr ⟨rv, ⟨_, K, hRS, Or.inr (Or.inr ⟨by omega, m, hen, by rw [st2_n _ _ _ (by omega)]; exact hQ88, c_98⟩)⟩, c_98, by rw [st2_k, pk_us]⟩ | (obtain ⟨K2, hI2⟩ := Inv_ordC hIv hQ88; have c98 : rv = nI 0 := c_98; rw [c98] at hQ88; exact Or.inl ⟨K2, ⟨p, _, K, m, hRS, by omega, hen, rfl, by rw [st2_n _ _ _ (by omega), st2_n _ _ _ (by omega), st2_n _ _ _ (by omega)]; exact hQ88, by rw [st2_n _ _ _ (by omega), st2_n _ _ _ (by omega), st2_n _ _ _ (by omega)]; exact hI2.1.1.2.2.1, hI2.1.1.2.2.2.1⟩, by rw [st2_n _ _ _ (by omega), st2_n _ _ _ (by omega), st2_n _ _ _ (by omega)]; exact hI2, by rw [st2_k, pk_un (by decide), st2_k, pk_un (by decide), st2_k, pk_us]; exact c98⟩))) [2, 3, 4, 0] rfl
              · -- 98 false
                refine x_aload_n h 1 dX4_runOn_101 rfl rfl ?_
                refine x_dup h dX4_runOn_102 rfl ?_
                refine xg_X4_4 h in_X4_runOn_X4 (by decide +kernel) dX4_runOn_103 ?_
                refine x_top (nI i) (by rw [st2_k, pk_un (by decide), hF88 147 (by omega) (by omega)]; exact h4) ?_
                refine x_iconst h (nI 1) dX4_runOn_106 (by decide) ?_
                refine x_iadd_n h dX4_runOn_107 ?_
                refine xp_X4_4 h in_X4_runOn_X4 (by decide +kernel) dX4_runOn_108 ?_
                refine x_aload_n h 1 dX4_runOn_111 rfl rfl ?_
                refine x_iload h 0 dX4_runOn_112 rfl ?_
                refine x_iconst h (nI 1) dX4_runOn_114 (by decide) ?_
                refine x_iadd_n h dX4_runOn_115 ?_
                refine xp_X4_2 h in_X4_runOn_X4 (by decide +kernel) dX4_runOn_116 ?_
                refine x_iinc_n h 4 (n := 1) [(3, .int (nI (i + 1))), (4, .int (nI (p + 1 + m))), (0, .ref (g.1 147)), (1, .ref (g.1 (24 * c))), (2, .ref (g.1 149))] dX4_runOn_119 rfl (by decide) rfl ?_
                refine x_goto h 17 dX4_runOn_122 (by decide) ?_
                exact x_lv (ih17 (i + 1) (i + 1) (p + 1 + m + 1) (st2 (st2 (st2 M88 147 3 rv) 147 4 (nI (i + 1))) 147 2 (nI ((p + 1 + m) + 1))) (by omega) (by omega) (by first | exact Or.inl (by omega) | exact Or.inr (by rw [st2_k, pk_us]; first | exact c_98 | decide)) (by omega) (by first | exact Or.inl (by omega) | exact Or.inr (by rw [st2_k, pk_us]; first | exact c_98 | decide)) (by first | (rw [st2_k, pk_us]) | (rw [st2_k, pk_un (by decide)]; exact h2) | (rw [st2_k, pk_un (by decide), hF88 147 (by omega) (by omega)]; exact h2)) (by first | (rw [st2_k, pk_un (by decide), st2_k, pk_us]) | (rw [st2_k, pk_un (by decide)]; exact h4) | (rw [st2_k, pk_un (by decide), hF88 147 (by omega) (by omega)]; exact h4)) (by first | exact FrT_s 3 _ (by decide) hFr | exact FrT_s 3 _ (by decide) hFT | exact FrT_s 2 _ (by decide) (FrT_s 4 _ (by decide) (FrT_s 3 _ (by decide) hFT))) (by first | exact Or.inr ⟨nI 1, ⟨_, K, hRS, Or.inr (Or.inl ⟨by omega, ngh_m1 c_54 (fun t e => by have := (endO_some e).2.1; omega), rfl, by rw [st2_n _ _ _ (by omega)]⟩)⟩, by decide, by rw [st2_k, pk_us]⟩ | exact Or.inr ⟨rv, ⟨_, K, hRS, Or.inr (Or.inr ⟨by omega, m, hen, by rw [st2_n _ _ _ (by omega)]; exact hQ88, c_98⟩)⟩, c_98, by rw [st2_k, pk_us]⟩ | (obtain ⟨K2, hI2⟩ := Inv_ordC hIv hQ88; have c98 : rv = nI 0 := c_98; rw [c98] at hQ88; exact Or.inl ⟨K2, ⟨p, _, K, m, hRS, by omega, hen, rfl, by rw [st2_n _ _ _ (by omega), st2_n _ _ _ (by omega), st2_n _ _ _ (by omega)]; exact hQ88, by rw [st2_n _ _ _ (by omega), st2_n _ _ _ (by omega), st2_n _ _ _ (by omega)]; exact hI2.1.1.2.2.1, hI2.1.1.2.2.2.1⟩, by rw [st2_n _ _ _ (by omega), st2_n _ _ _ (by omega), st2_n _ _ _ (by omega)]; exact hI2, by rw [st2_k, pk_un (by decide), st2_k, pk_un (by decide), st2_k, pk_us]; exact c98⟩))) [2, 3, 4, 0] rfl
            · -- 54 false
              refine x_aload_n h 1 dX4_runOn_57 rfl rfl ?_
              refine x_iconst h (nI 1) dX4_runOn_58 (by decide) ?_
              refine xp_X4_3 h in_X4_runOn_X4 (by decide +kernel) dX4_runOn_59 ?_
              refine x_goto h 94 dX4_runOn_62 (by decide) ?_
              refine x_aload_n h 1 dX4_runOn_94 rfl rfl ?_
              refine xg_X4_3 h in_X4_runOn_X4 (by decide +kernel) dX4_runOn_95 ?_
              refine x_top (nI 1) (by rw [st2_k, pk_us]) ?_
              refine x_if_ne h 119 dX4_runOn_98 (by decide) (fun _ => ?_) (fun c => absurd c (by decide))
              refine x_iinc_n h 4 (n := 1) [(3, .int (nI (i + 1))), (4, .int (ngh (endO tx ln p))), (0, .ref (g.1 147)), (1, .ref (g.1 (24 * c))), (2, .ref (g.1 149))] dX4_runOn_119 rfl (by decide) rfl ?_
              refine x_goto h 17 dX4_runOn_122 (by decide) ?_
              exact x_lv (ih17 (i + 1) i p (st2 W 147 3 (nI 1)) (by omega) (by omega) (by first | exact Or.inl (by omega) | exact Or.inr (by rw [st2_k, pk_us]; first | exact c_98 | decide)) (by omega) (by first | exact Or.inl (by omega) | exact Or.inr (by rw [st2_k, pk_us]; first | exact c_98 | decide)) (by first | (rw [st2_k, pk_us]) | (rw [st2_k, pk_un (by decide)]; exact h2) | (rw [st2_k, pk_un (by decide), hF88 147 (by omega) (by omega)]; exact h2)) (by first | (rw [st2_k, pk_un (by decide), st2_k, pk_us]) | (rw [st2_k, pk_un (by decide)]; exact h4) | (rw [st2_k, pk_un (by decide), hF88 147 (by omega) (by omega)]; exact h4)) (by first | exact FrT_s 3 _ (by decide) hFr | exact FrT_s 3 _ (by decide) hFT | exact FrT_s 2 _ (by decide) (FrT_s 4 _ (by decide) (FrT_s 3 _ (by decide) hFT))) (by first | exact Or.inr ⟨nI 1, ⟨_, K, hRS, Or.inr (Or.inl ⟨by omega, ngh_m1 c_54 (fun t e => by have := (endO_some e).2.1; omega), rfl, by rw [st2_n _ _ _ (by omega)]⟩)⟩, by decide, by rw [st2_k, pk_us]⟩ | exact Or.inr ⟨rv, ⟨_, K, hRS, Or.inr (Or.inr ⟨by omega, m, hen, by rw [st2_n _ _ _ (by omega)]; exact hQ88, c_98⟩)⟩, c_98, by rw [st2_k, pk_us]⟩ | (obtain ⟨K2, hI2⟩ := Inv_ordC hIv hQ88; have c98 : rv = nI 0 := c_98; rw [c98] at hQ88; exact Or.inl ⟨K2, ⟨p, _, K, m, hRS, by omega, hen, rfl, by rw [st2_n _ _ _ (by omega), st2_n _ _ _ (by omega), st2_n _ _ _ (by omega)]; exact hQ88, by rw [st2_n _ _ _ (by omega), st2_n _ _ _ (by omega), st2_n _ _ _ (by omega)]; exact hI2.1.1.2.2.1, hI2.1.1.2.2.2.1⟩, by rw [st2_n _ _ _ (by omega), st2_n _ _ _ (by omega), st2_n _ _ _ (by omega)]; exact hI2, by rw [st2_k, pk_un (by decide), st2_k, pk_un (by decide), st2_k, pk_us]; exact c98⟩))) [2, 3, 4, 0] rfl
      · -- stopped
        have hrr3 : ¬ W 147 3 = nI 0 := by rw [h3]; exact hrr
        refine x_iload_n h 3 dX4_runOn_17 rfl rfl ?_
        refine x_bipush h (nI 60) dX4_runOn_18 (by decide) ?_
        refine x_icmp_ge_n h 125 dX4_runOn_20 (by decide) (by first | omega | (have := hT.2.1; omega)) (by decide) (fun c_20 => ?_) (fun c_20 => ?_)
        · -- 20 true
          exact hret _ _ _ _ dX4_runOn_125 (by first | exact ⟨rfl, hFr, i0, p, rr, hRE, h2, h3, h4, hp61⟩ | exact ⟨rfl, hFr, i, p, nI 0, ⟨_, K, hRS, Or.inl ⟨by have := hT.2.1; omega, rfl, rfl⟩⟩, h2, h3, h4, hp61⟩)
        · -- 20 false
          refine x_aload_n h 0 dX4_runOn_23 rfl rfl ?_
          refine xg_X4_2 h in_X4_runOn_X4 (by decide +kernel) dX4_runOn_24 ?_
          refine x_top (nI p) (h2) ?_
          refine x_aload_n h 0 dX4_runOn_27 rfl rfl ?_
          refine xg_X4_1 h in_X4_runOn_X4 (by decide +kernel) dX4_runOn_28 ?_
          refine x_top (nI ln) (hFr.2.trans hT.1) ?_
          refine x_icmp_ge_n h 125 dX4_runOn_31 (by decide) (by first | omega | (have := hT.2.1; omega)) (by first | omega | (have := hT.2.1; omega)) (fun c_31 => ?_) (fun c_31 => ?_)
          · -- 31 true
            exact hret _ _ _ _ dX4_runOn_125 (by first | exact ⟨rfl, hFr, i0, p, rr, hRE, h2, h3, h4, hp61⟩ | exact ⟨rfl, hFr, i, p, nI 0, ⟨_, K, hRS, Or.inl ⟨by have := hT.2.1; omega, rfl, rfl⟩⟩, h2, h3, h4, hp61⟩)
          · -- 31 false
            have hTl := hT.2.1
            have hpl : p < ln := by omega
            refine x_aload_n h 0 dX4_runOn_34 rfl rfl ?_
            refine xg_X4_3 h in_X4_runOn_X4 (by decide +kernel) dX4_runOn_35 ?_
            refine x_top (rr) (h3) ?_
            refine x_if_ne h 125 dX4_runOn_38 (by decide) (fun c_38 => ?_) (fun c_38 => by exact absurd c_38 hrr)
            exact hret _ _ _ _ dX4_runOn_125 (by first | exact ⟨rfl, hFr, i0, p, rr, hRE, h2, h3, h4, hp61⟩ | exact ⟨rfl, hFr, i, p, nI 0, ⟨_, K, hRS, Or.inl ⟨by have := hT.2.1; omega, rfl, rfl⟩⟩, h2, h3, h4, hp61⟩)
  exact x_lv (L17 _ 0 0 0 (st2 (st2 (st2 M 147 2 (nI 0)) 147 3 (nI 0)) 147 4 (nI 0)) (Nat.lt_succ_self _) (by decide) (by exact Or.inl rfl) (by omega) (by exact Or.inl (Nat.le_refl 0)) (by rw [st2_k, pk_un (by decide), st2_k, pk_un (by decide), st2_k, pk_us]) (by rw [st2_k, pk_us]) (by exact FrT_s 4 _ (by decide) (FrT_s 3 _ (by decide) (FrT_s 2 _ (by decide) (FrT_r c M)))) (by exact Or.inl ⟨K0, ⟨rfl, by rw [st2_n _ _ _ (by omega), st2_n _ _ _ (by omega), st2_n _ _ _ (by omega)], rfl⟩, by rw [st2_n _ _ _ (by omega), st2_n _ _ _ (by omega), st2_n _ _ _ (by omega)]; exact hIC, by rw [st2_k, pk_un (by decide), st2_k, pk_us]⟩)) [1, 2, 3, 0] rfl
