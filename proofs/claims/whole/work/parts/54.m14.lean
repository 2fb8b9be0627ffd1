set_option maxRecDepth 20000 in
theorem ggX6_bestOrder_X6_isJoined : GoodIn wsX6_bestOrder wsX6_isJoined := goodIn_r _ [10, 11, 12, 13, 9, 14, 2, 69, 70, 71, 72, 73, 74, 75, 76, 77, 78, 79, 80, 81, 82, 83, 84, 85, 86, 87] (by decide +kernel) (by decide +kernel)
set_option maxRecDepth 20000 in
theorem gX6_bestOrder_X6_isJoined : GoodIn wsX6_bestOrder (wsV RX6 131 RX6 yX6_isJoined wsX6_isJoined) := goodIn_app (goodIn_of _ (by decide +kernel)) ggX6_bestOrder_X6_isJoined
set_option maxRecDepth 20000 in
theorem ggX6_bestOrder_X6_ordered : GoodIn wsX6_bestOrder wsX6_ordered := goodIn_r _ [18, 3, 69, 70, 71, 72, 73, 74, 75, 76, 77, 78, 79, 80, 81, 82, 83, 84, 85, 86, 87] (by decide +kernel) (by decide +kernel)
set_option maxRecDepth 20000 in
theorem gX6_bestOrder_X6_ordered : GoodIn wsX6_bestOrder (wsV RX6 204 RX6 yX6_ordered wsX6_ordered) := goodIn_app (goodIn_of _ (by decide +kernel)) ggX6_bestOrder_X6_ordered
set_option maxRecDepth 20000 in
theorem ggX6_bestOrder_X6_lays : GoodIn wsX6_bestOrder wsX6_lays := goodIn_r _ [22, 1, 23, 2, 24, 25, 26, 27, 9, 28, 29, 30, 31, 6, 7, 8, 10, 11, 12, 13, 14, 32, 33, 34, 35, 36, 37, 38, 39, 40, 41, 42, 43, 44, 45, 46, 47, 48, 49, 50, 51, 52, 53, 54, 55, 56, 57, 58, 59, 60, 61, 62, 63, 64, 65, 66, 67, 68, 69, 70, 71, 72, 73, 74, 75, 76, 77, 78, 79, 80, 81, 82, 83, 84, 85, 86, 87] (by decide +kernel) (by decide +kernel)
set_option maxRecDepth 20000 in
theorem gX6_bestOrder_X6_lays : GoodIn wsX6_bestOrder (wsV RX6 141 RX6 yX6_lays wsX6_lays) := goodIn_app (goodIn_of _ (by decide +kernel)) ggX6_bestOrder_X6_lays
theorem dX6_bestOrder_0 : decode cX6_bestOrder 0 = .ok (.iload_n 1, 1) := by decide +kernel
theorem dX6_bestOrder_1 : decode cX6_bestOrder 1 = .ok (.iconst (-1), 1) := by decide +kernel
theorem dX6_bestOrder_2 : decode cX6_bestOrder 2 = .ok (.if_icmp .ge 6, 3) := by decide +kernel
theorem dX6_bestOrder_5 : decode cX6_bestOrder 5 = .ok (.ldc 61, 2) := by decide +kernel
theorem dX6_bestOrder_7 : decode cX6_bestOrder 7 = .ok (.ireturn, 1) := by decide +kernel
theorem dX6_bestOrder_8 : decode cX6_bestOrder 8 = .ok (.iconst 0, 1) := by decide +kernel
theorem dX6_bestOrder_9 : decode cX6_bestOrder 9 = .ok (.istore_n 2, 1) := by decide +kernel
theorem dX6_bestOrder_10 : decode cX6_bestOrder 10 = .ok (.iconst 0, 1) := by decide +kernel
theorem dX6_bestOrder_11 : decode cX6_bestOrder 11 = .ok (.istore_n 3, 1) := by decide +kernel
theorem dX6_bestOrder_12 : decode cX6_bestOrder 12 = .ok (.iload_n 3, 1) := by decide +kernel
theorem dX6_bestOrder_13 : decode cX6_bestOrder 13 = .ok (.aload_n 0, 1) := by decide +kernel
theorem dX6_bestOrder_14 : decode cX6_bestOrder 14 = .ok (.getfield 7, 3) := by decide +kernel
theorem dX6_bestOrder_17 : decode cX6_bestOrder 17 = .ok (.iconst 5, 1) := by decide +kernel
theorem dX6_bestOrder_18 : decode cX6_bestOrder 18 = .ok (.iaload, 1) := by decide +kernel
theorem dX6_bestOrder_19 : decode cX6_bestOrder 19 = .ok (.if_icmp .ge 32, 3) := by decide +kernel
theorem dX6_bestOrder_22 : decode cX6_bestOrder 22 = .ok (.iload_n 2, 1) := by decide +kernel
theorem dX6_bestOrder_23 : decode cX6_bestOrder 23 = .ok (.iconst 3, 1) := by decide +kernel
theorem dX6_bestOrder_24 : decode cX6_bestOrder 24 = .ok (.if_icmp .ge 27, 3) := by decide +kernel
theorem dX6_bestOrder_27 : decode cX6_bestOrder 27 = .ok (.aload_n 0, 1) := by decide +kernel
theorem dX6_bestOrder_28 : decode cX6_bestOrder 28 = .ok (.iload_n 3, 1) := by decide +kernel
theorem dX6_bestOrder_29 : decode cX6_bestOrder 29 = .ok (.invokevirtual 131, 3) := by decide +kernel
theorem dX6_bestOrder_32 : decode cX6_bestOrder 32 = .ok (.ifCond .ne 13, 3) := by decide +kernel
theorem dX6_bestOrder_35 : decode cX6_bestOrder 35 = .ok (.aload_n 0, 1) := by decide +kernel
theorem dX6_bestOrder_36 : decode cX6_bestOrder 36 = .ok (.getfield 35, 3) := by decide +kernel
theorem dX6_bestOrder_39 : decode cX6_bestOrder 39 = .ok (.iload_n 2, 1) := by decide +kernel
theorem dX6_bestOrder_40 : decode cX6_bestOrder 40 = .ok (.iload_n 3, 1) := by decide +kernel
theorem dX6_bestOrder_41 : decode cX6_bestOrder 41 = .ok (.iastore, 1) := by decide +kernel
theorem dX6_bestOrder_42 : decode cX6_bestOrder 42 = .ok (.iinc 2 1, 3) := by decide +kernel
theorem dX6_bestOrder_45 : decode cX6_bestOrder 45 = .ok (.iinc 3 1, 3) := by decide +kernel
theorem dX6_bestOrder_48 : decode cX6_bestOrder 48 = .ok (.goto (-36), 3) := by decide +kernel
theorem dX6_bestOrder_51 : decode cX6_bestOrder 51 = .ok (.iload_n 1, 1) := by decide +kernel
theorem dX6_bestOrder_52 : decode cX6_bestOrder 52 = .ok (.iload_n 2, 1) := by decide +kernel
theorem dX6_bestOrder_53 : decode cX6_bestOrder 53 = .ok (.if_icmp .lt 6, 3) := by decide +kernel
theorem dX6_bestOrder_56 : decode cX6_bestOrder 56 = .ok (.ldc 85, 2) := by decide +kernel
theorem dX6_bestOrder_58 : decode cX6_bestOrder 58 = .ok (.ireturn, 1) := by decide +kernel
theorem dX6_bestOrder_59 : decode cX6_bestOrder 59 = .ok (.iconst 0, 1) := by decide +kernel
theorem dX6_bestOrder_60 : decode cX6_bestOrder 60 = .ok (.istore_n 3, 1) := by decide +kernel
theorem dX6_bestOrder_61 : decode cX6_bestOrder 61 = .ok (.iload_n 3, 1) := by decide +kernel
theorem dX6_bestOrder_62 : decode cX6_bestOrder 62 = .ok (.sipush 379, 3) := by decide +kernel
theorem dX6_bestOrder_65 : decode cX6_bestOrder 65 = .ok (.if_icmp .ge 21, 3) := by decide +kernel
theorem dX6_bestOrder_68 : decode cX6_bestOrder 68 = .ok (.aload_n 0, 1) := by decide +kernel
theorem dX6_bestOrder_69 : decode cX6_bestOrder 69 = .ok (.getfield 16, 3) := by decide +kernel
theorem dX6_bestOrder_72 : decode cX6_bestOrder 72 = .ok (.iload_n 3, 1) := by decide +kernel
theorem dX6_bestOrder_73 : decode cX6_bestOrder 73 = .ok (.aload_n 0, 1) := by decide +kernel
theorem dX6_bestOrder_74 : decode cX6_bestOrder 74 = .ok (.getfield 7, 3) := by decide +kernel
theorem dX6_bestOrder_77 : decode cX6_bestOrder 77 = .ok (.iload_n 3, 1) := by decide +kernel
theorem dX6_bestOrder_78 : decode cX6_bestOrder 78 = .ok (.iaload, 1) := by decide +kernel
theorem dX6_bestOrder_79 : decode cX6_bestOrder 79 = .ok (.iastore, 1) := by decide +kernel
theorem dX6_bestOrder_80 : decode cX6_bestOrder 80 = .ok (.iinc 3 1, 3) := by decide +kernel
theorem dX6_bestOrder_83 : decode cX6_bestOrder 83 = .ok (.goto (-22), 3) := by decide +kernel
theorem dX6_bestOrder_86 : decode cX6_bestOrder 86 = .ok (.iconst 0, 1) := by decide +kernel
theorem dX6_bestOrder_87 : decode cX6_bestOrder 87 = .ok (.istore_n 3, 1) := by decide +kernel
theorem dX6_bestOrder_88 : decode cX6_bestOrder 88 = .ok (.iconst 0, 1) := by decide +kernel
theorem dX6_bestOrder_89 : decode cX6_bestOrder 89 = .ok (.istore 4, 2) := by decide +kernel
theorem dX6_bestOrder_91 : decode cX6_bestOrder 91 = .ok (.iconst 0, 1) := by decide +kernel
theorem dX6_bestOrder_92 : decode cX6_bestOrder 92 = .ok (.istore 5, 2) := by decide +kernel
theorem dX6_bestOrder_94 : decode cX6_bestOrder 94 = .ok (.iload 5, 2) := by decide +kernel
theorem dX6_bestOrder_96 : decode cX6_bestOrder 96 = .ok (.iload_n 2, 1) := by decide +kernel
theorem dX6_bestOrder_97 : decode cX6_bestOrder 97 = .ok (.iconst 3, 1) := by decide +kernel
theorem dX6_bestOrder_98 : decode cX6_bestOrder 98 = .ok (.if_icmp .ne 8, 3) := by decide +kernel
theorem dX6_bestOrder_101 : decode cX6_bestOrder 101 = .ok (.bipush 6, 2) := by decide +kernel
theorem dX6_bestOrder_103 : decode cX6_bestOrder 103 = .ok (.goto 13, 3) := by decide +kernel
theorem dX6_bestOrder_106 : decode cX6_bestOrder 106 = .ok (.iload_n 2, 1) := by decide +kernel
theorem dX6_bestOrder_107 : decode cX6_bestOrder 107 = .ok (.iconst 2, 1) := by decide +kernel
theorem dX6_bestOrder_108 : decode cX6_bestOrder 108 = .ok (.if_icmp .ne 7, 3) := by decide +kernel
theorem dX6_bestOrder_111 : decode cX6_bestOrder 111 = .ok (.iconst 2, 1) := by decide +kernel
theorem dX6_bestOrder_112 : decode cX6_bestOrder 112 = .ok (.goto 4, 3) := by decide +kernel
theorem dX6_bestOrder_115 : decode cX6_bestOrder 115 = .ok (.iconst 1, 1) := by decide +kernel
theorem dX6_bestOrder_116 : decode cX6_bestOrder 116 = .ok (.if_icmp .ge 114, 3) := by decide +kernel
theorem dX6_bestOrder_119 : decode cX6_bestOrder 119 = .ok (.iconst 0, 1) := by decide +kernel
theorem dX6_bestOrder_120 : decode cX6_bestOrder 120 = .ok (.istore 6, 2) := by decide +kernel
theorem dX6_bestOrder_122 : decode cX6_bestOrder 122 = .ok (.iconst 0, 1) := by decide +kernel
theorem dX6_bestOrder_123 : decode cX6_bestOrder 123 = .ok (.istore 7, 2) := by decide +kernel
theorem dX6_bestOrder_125 : decode cX6_bestOrder 125 = .ok (.iload 7, 2) := by decide +kernel
theorem dX6_bestOrder_127 : decode cX6_bestOrder 127 = .ok (.iload_n 2, 1) := by decide +kernel
theorem dX6_bestOrder_128 : decode cX6_bestOrder 128 = .ok (.if_icmp .ge 35, 3) := by decide +kernel
theorem dX6_bestOrder_131 : decode cX6_bestOrder 131 = .ok (.iload 6, 2) := by decide +kernel
theorem dX6_bestOrder_133 : decode cX6_bestOrder 133 = .ok (.aload_n 0, 1) := by decide +kernel
theorem dX6_bestOrder_134 : decode cX6_bestOrder 134 = .ok (.aload_n 0, 1) := by decide +kernel
theorem dX6_bestOrder_135 : decode cX6_bestOrder 135 = .ok (.iload 5, 2) := by decide +kernel
theorem dX6_bestOrder_137 : decode cX6_bestOrder 137 = .ok (.iload_n 2, 1) := by decide +kernel
theorem dX6_bestOrder_138 : decode cX6_bestOrder 138 = .ok (.iload 7, 2) := by decide +kernel
theorem dX6_bestOrder_140 : decode cX6_bestOrder 140 = .ok (.invokevirtual 204, 3) := by decide +kernel
theorem dX6_bestOrder_143 : decode cX6_bestOrder 143 = .ok (.invokevirtual 141, 3) := by decide +kernel
theorem dX6_bestOrder_146 : decode cX6_bestOrder 146 = .ok (.ifCond .lt 7, 3) := by decide +kernel
theorem dX6_bestOrder_149 : decode cX6_bestOrder 149 = .ok (.iconst 1, 1) := by decide +kernel
theorem dX6_bestOrder_150 : decode cX6_bestOrder 150 = .ok (.goto 4, 3) := by decide +kernel
theorem dX6_bestOrder_153 : decode cX6_bestOrder 153 = .ok (.iconst 0, 1) := by decide +kernel
theorem dX6_bestOrder_154 : decode cX6_bestOrder 154 = .ok (.iadd, 1) := by decide +kernel
theorem dX6_bestOrder_155 : decode cX6_bestOrder 155 = .ok (.istore 6, 2) := by decide +kernel
theorem dX6_bestOrder_157 : decode cX6_bestOrder 157 = .ok (.iinc 7 1, 3) := by decide +kernel
theorem dX6_bestOrder_160 : decode cX6_bestOrder 160 = .ok (.goto (-35), 3) := by decide +kernel
theorem dX6_bestOrder_163 : decode cX6_bestOrder 163 = .ok (.iload 6, 2) := by decide +kernel
theorem dX6_bestOrder_165 : decode cX6_bestOrder 165 = .ok (.iload 4, 2) := by decide +kernel
theorem dX6_bestOrder_167 : decode cX6_bestOrder 167 = .ok (.if_icmp .le 8, 3) := by decide +kernel
theorem dX6_bestOrder_170 : decode cX6_bestOrder 170 = .ok (.iload 5, 2) := by decide +kernel
theorem dX6_bestOrder_172 : decode cX6_bestOrder 172 = .ok (.goto 4, 3) := by decide +kernel
theorem dX6_bestOrder_175 : decode cX6_bestOrder 175 = .ok (.iload_n 3, 1) := by decide +kernel
theorem dX6_bestOrder_176 : decode cX6_bestOrder 176 = .ok (.istore_n 3, 1) := by decide +kernel
theorem dX6_bestOrder_177 : decode cX6_bestOrder 177 = .ok (.iload 6, 2) := by decide +kernel
theorem dX6_bestOrder_179 : decode cX6_bestOrder 179 = .ok (.iload 4, 2) := by decide +kernel
theorem dX6_bestOrder_181 : decode cX6_bestOrder 181 = .ok (.if_icmp .le 8, 3) := by decide +kernel
theorem dX6_bestOrder_184 : decode cX6_bestOrder 184 = .ok (.iload 6, 2) := by decide +kernel
theorem dX6_bestOrder_186 : decode cX6_bestOrder 186 = .ok (.goto 5, 3) := by decide +kernel
theorem dX6_bestOrder_189 : decode cX6_bestOrder 189 = .ok (.iload 4, 2) := by decide +kernel
theorem dX6_bestOrder_191 : decode cX6_bestOrder 191 = .ok (.istore 4, 2) := by decide +kernel
theorem dX6_bestOrder_193 : decode cX6_bestOrder 193 = .ok (.iconst 0, 1) := by decide +kernel
theorem dX6_bestOrder_194 : decode cX6_bestOrder 194 = .ok (.istore 7, 2) := by decide +kernel
theorem dX6_bestOrder_196 : decode cX6_bestOrder 196 = .ok (.iload 7, 2) := by decide +kernel
theorem dX6_bestOrder_198 : decode cX6_bestOrder 198 = .ok (.sipush 379, 3) := by decide +kernel
theorem dX6_bestOrder_201 : decode cX6_bestOrder 201 = .ok (.if_icmp .ge 23, 3) := by decide +kernel
theorem dX6_bestOrder_204 : decode cX6_bestOrder 204 = .ok (.aload_n 0, 1) := by decide +kernel
theorem dX6_bestOrder_205 : decode cX6_bestOrder 205 = .ok (.getfield 7, 3) := by decide +kernel
theorem dX6_bestOrder_208 : decode cX6_bestOrder 208 = .ok (.iload 7, 2) := by decide +kernel
theorem dX6_bestOrder_210 : decode cX6_bestOrder 210 = .ok (.aload_n 0, 1) := by decide +kernel
theorem dX6_bestOrder_211 : decode cX6_bestOrder 211 = .ok (.getfield 16, 3) := by decide +kernel
theorem dX6_bestOrder_214 : decode cX6_bestOrder 214 = .ok (.iload 7, 2) := by decide +kernel
theorem dX6_bestOrder_216 : decode cX6_bestOrder 216 = .ok (.iaload, 1) := by decide +kernel
theorem dX6_bestOrder_217 : decode cX6_bestOrder 217 = .ok (.iastore, 1) := by decide +kernel
theorem dX6_bestOrder_218 : decode cX6_bestOrder 218 = .ok (.iinc 7 1, 3) := by decide +kernel
theorem dX6_bestOrder_221 : decode cX6_bestOrder 221 = .ok (.goto (-25), 3) := by decide +kernel
theorem dX6_bestOrder_224 : decode cX6_bestOrder 224 = .ok (.iinc 5 1, 3) := by decide +kernel
theorem dX6_bestOrder_227 : decode cX6_bestOrder 227 = .ok (.goto (-133), 3) := by decide +kernel
theorem dX6_bestOrder_230 : decode cX6_bestOrder 230 = .ok (.iload_n 1, 1) := by decide +kernel
theorem dX6_bestOrder_231 : decode cX6_bestOrder 231 = .ok (.ifCond .ge 8, 3) := by decide +kernel
theorem dX6_bestOrder_234 : decode cX6_bestOrder 234 = .ok (.iload 4, 2) := by decide +kernel
theorem dX6_bestOrder_236 : decode cX6_bestOrder 236 = .ok (.goto 10, 3) := by decide +kernel
theorem dX6_bestOrder_239 : decode cX6_bestOrder 239 = .ok (.aload_n 0, 1) := by decide +kernel
theorem dX6_bestOrder_240 : decode cX6_bestOrder 240 = .ok (.iload_n 3, 1) := by decide +kernel
theorem dX6_bestOrder_241 : decode cX6_bestOrder 241 = .ok (.iload_n 2, 1) := by decide +kernel
theorem dX6_bestOrder_242 : decode cX6_bestOrder 242 = .ok (.iload_n 1, 1) := by decide +kernel
theorem dX6_bestOrder_243 : decode cX6_bestOrder 243 = .ok (.invokevirtual 204, 3) := by decide +kernel
theorem dX6_bestOrder_246 : decode cX6_bestOrder 246 = .ok (.ireturn, 1) := by decide +kernel
abbrev rmX6_bestOrder : Room := { frames := 6, cells := 0, slots := 0, locals := 144 }
set_option maxRecDepth 20000 in
theorem in_X6_bestOrder_X6 : ∀ w ∈ wsX60, w ∈ wsX6_bestOrder := by decide +kernel

set_option maxRecDepth 100000 in
set_option maxHeartbeats 16000000 in
theorem c_X6_bestOrder {l : Launch} {g : Geo} {M : Nat → Nat → Int32} {P : Nat → Nat} {N K B : Nat} (hI : InvX eM (M 159) N K B) {a : Int32} : Met l yX6_bestOrder wsX6_bestOrder rmX6_bestOrder (cPre g [.ref (g.1 158), .int a] M P) (cQi g (fun r M' P' => P = P' ∧ FrZ M M' ∧ (∀ j, j < 379 → M' 159 j = M 159 j) ∧ BOM (M 159) N (wlN (M 159) N) a r)) 0 0 (gA g) := by
  refine met_i (cc := cX6_bestOrder) (maxL := 8) (by decide) rfl ⟨rfl, rfl⟩ (Nat.le_of_ble_eq_true rfl) (fun x hx h hret => ?_)
  replace h : Cxk x g cX6_bestOrder 8 wsX6_bestOrder RX6 rmX6_bestOrder := h
  show X x 0 [(0, .ref (g.1 158)), (1, .int a)] [] M P
  have hN := hI.1.1
  have hN6 := hI.1.2.1
  have hK := hI.1.2.2.1
  have hK12 := hI.1.2.2.2.1
  obtain ⟨L, hL⟩ : ∃ L, L = wlN (M 159) N := ⟨_, rfl⟩
  have hL3 : L.length ≤ 3 := by rw [hL]; exact wlN_3
  refine x_iload_n h 1 dX6_bestOrder_0 rfl rfl ?_
  refine x_iconst h ((-1)) dX6_bestOrder_1 (by decide) ?_
  refine x_icmp_ge h 8 dX6_bestOrder_2 (by decide) (fun c_2 => ?_) (fun c_2 => ?_)
  · -- 2 true
    have J51 : ∀ (W : Nat → Nat → Int32), (∀ k, k ≠ 167 → W k = M k) → (∀ i, i < L.length → W 167 i = nI (L.getD i 0)) → X x 51 [(0, .ref (g.1 158)), (1, .int a), (2, .int (nI L.length))] [] W P := by
      intro W hWk hW7
      refine x_iload_n h 1 dX6_bestOrder_51 rfl rfl ?_
      refine x_iload_n h 2 dX6_bestOrder_52 rfl rfl ?_
      refine x_icmp_lt h 59 dX6_bestOrder_53 (by decide) (fun c_53 => ?_) (fun c_53 => ?_)
      · -- 53 true
        refine x_iconst h (nI 0) dX6_bestOrder_59 (by decide) ?_
        refine x_istore_n h [(3, .int (nI 0)), (0, .ref (g.1 158)), (1, .int a), (2, .int (nI L.length))] dX6_bestOrder_60 rfl (by decide) rfl ?_
        have L61 : ∀ (fu : Nat) (i : Nat) (W2 : Nat → Nat → Int32), (379 - i) < fu → (i ≤ 379) → (W2 = va_up W 161 (cpI (W 159) (W 161) i)) → X x 61 [(0, .ref (g.1 158)), (1, .int a), (2, .int (nI L.length)), (3, .int (nI i))] [] W2 P := by
          intro fu
          induction fu with
          | zero => intro i W2 hmu61; exact absurd hmu61 (Nat.not_lt_zero _)
          | succ fu ih61 =>
            intro i W2 hmu61 hi hW2
            refine x_iload_n h 3 dX6_bestOrder_61 rfl rfl ?_
            refine x_sipush h (nI 379) dX6_bestOrder_62 (by decide) ?_
            refine x_icmp_ge_n h 86 dX6_bestOrder_65 (by decide) (by first | omega | (have := wlN_3 (X := M 159) (n := n); omega)) (by decide) (fun c_65 => ?_) (fun c_65 => ?_)
            · -- 65 true
              obtain rfl : i = 379 := by omega
              have h29 : ∀ j, j < 379 → W2 159 j = M 159 j := fun j _ => by rw [hW2, va_up_n _ _ (by decide), hWk 159 (by decide)]
              have h2s : ∀ j, j < 379 → W2 161 j = M 159 j := fun j hj => by rw [hW2, va_up_k, ← hWk 159 (by decide)]; exact if_pos hj
              have h27 : ∀ i, i < L.length → W2 167 i = nI (L.getD i 0) := fun i hi => by rw [hW2, va_up_n _ _ (by decide)]; exact hW7 i hi
              have hF2 : FrZ M W2 := by rw [hW2]; exact FrZ_v _ (by omega) (FrZ_1 hWk)
              refine x_iconst h (nI 0) dX6_bestOrder_86 (by decide) ?_
              refine x_istore_n h [(3, .int (nI 0)), (0, .ref (g.1 158)), (1, .int a), (2, .int (nI L.length))] dX6_bestOrder_87 rfl (by decide) rfl ?_
              refine x_iconst h (nI 0) dX6_bestOrder_88 (by decide) ?_
              refine x_istore h [(4, .int (nI 0)), (3, .int (nI 0)), (0, .ref (g.1 158)), (1, .int a), (2, .int (nI L.length))] dX6_bestOrder_89 (by decide) rfl ?_
              refine x_iconst h (nI 0) dX6_bestOrder_91 (by decide) ?_
              refine x_istore h [(5, .int (nI 0)), (4, .int (nI 0)), (3, .int (nI 0)), (0, .ref (g.1 158)), (1, .int a), (2, .int (nI L.length))] dX6_bestOrder_92 (by decide) rfl ?_
              have L94 : ∀ (fu : Nat) (o : Nat) (best : Nat) (most : Nat) (f : Nat → Nat) (W3 : Nat → Nat → Int32), (omx L.length - o) < fu → (o ≤ omx L.length) → (∀ j, j < 379 → W3 159 j = M 159 j) → (∀ j, j < 379 → W3 161 j = M 159 j) → (∀ i, i < L.length → W3 167 i = nI (L.getD i 0)) → (FrZ M W3) → (∀ q, q < o → JMQ (M 159) N L q (f q)) → (bstM f o = (most, best)) → X x 94 [(0, .ref (g.1 158)), (1, .int a), (2, .int (nI L.length)), (3, .int (nI best)), (4, .int (nI most)), (5, .int (nI o))] [] W3 P := by
                intro fu
                induction fu with
                | zero => intro o best most f W3 hmu94; exact absurd hmu94 (Nat.not_lt_zero _)
                | succ fu ih94 =>
                  intro o best most f W3 hmu94 ho h39 h3s h37 hF3 hf hb
                  have hom6 := omx_6 L.length
                  have hm6 : most ≤ 3 := by have := bstM_3 (f := f) (n := o) (fun q hq => JMQ_3 hL3 (hf q hq)); rw [hb] at this; exact this
                  have J116 : ∀ (bd : Nat), (bd = omx L.length) → X x 116 [(0, .ref (g.1 158)), (1, .int a), (2, .int (nI L.length)), (3, .int (nI best)), (4, .int (nI most)), (5, .int (nI o))] [.int (nI bd), .int (nI o)] W3 P := by
                    intro bd hbd
                    refine x_icmp_ge_n h 230 dX6_bestOrder_116 (by decide) (by first | omega | (have := wlN_3 (X := M 159) (n := n); omega)) (by first | omega | (have := wlN_3 (X := M 159) (n := n); omega)) (fun c_116 => ?_) (fun c_116 => ?_)
                    · -- 116 true
                      have hoe : o = omx L.length := by omega
                      rw [hoe] at hb hf
                      refine x_iload_n h 1 dX6_bestOrder_230 rfl rfl ?_
                      refine x_if_ge h 239 dX6_bestOrder_231 (by decide) (fun c_231 => ?_) (fun c_231 => ?_)
                      · -- 231 true
                        obtain ⟨j0, hj0, rfl⟩ := nI_of (x := a) (Int32.not_lt.mpr c_231)
                        have hjl : j0 < L.length := (nI_ltI hj0 (by omega)).mp c_53
                        have hbl : best < omx L.length := by have := bstM_lt f (omx L.length); rw [hb] at this; have hz : 0 < omx L.length := (by unfold omx; split <;> (try split) <;> omega); rcases this with z | z; exact z; rw [show best = 0 from z]; exact hz
                        refine x_aload_n h 0 dX6_bestOrder_239 rfl rfl ?_
                        refine x_iload_n h 3 dX6_bestOrder_240 rfl rfl ?_
                        refine x_iload_n h 2 dX6_bestOrder_241 rfl rfl ?_
                        refine x_iload_n h 1 dX6_bestOrder_242 rfl rfl ?_
                        refine x_callV h (As := [.int (nI best), .int (nI L.length), .int (nI j0)]) 3 hx (c_X6_ordered (mn := L.length) (od := best) (k := j0) (OdR_of (by omega) hL3 hbl) hjl) gX6_bestOrder_X6_ordered rfl ⟨rfl, rfl⟩ (by decide +kernel) rfl (by decide) (by decide) E_158 rfl rfl (Nat.le_of_ble_eq_true rfl) dX6_bestOrder_243 (fun rv M' P' hp => ?_)
                        obtain ⟨⟨rfl, rfl⟩, rfl⟩ := hp
                        refine x_top (nI (L.getD (pmM L.length best j0) 0)) (h37 _ (pmM_lt (OdR_of (by omega) hL3 hbl) hjl)) ?_
                        exact hret _ _ _ _ _ dX6_bestOrder_246 (by refine ⟨rfl, hF3, h39, ?_⟩; rw [← hL]; exact Or.inr ⟨Int32.not_lt.mpr c_2, Or.inr ⟨c_53, f, hf, Or.inr ⟨j0, hjl, rfl, by rw [hb]⟩⟩⟩)
                      · -- 231 false
                        refine x_iload h 4 dX6_bestOrder_234 rfl ?_
                        refine x_goto h 246 dX6_bestOrder_236 (by decide) ?_
                        exact hret _ _ _ _ _ dX6_bestOrder_246 (by refine ⟨rfl, hF3, h39, ?_⟩; rw [← hL]; exact Or.inr ⟨Int32.not_lt.mpr c_2, Or.inr ⟨c_53, f, hf, Or.inl ⟨by first | exact c_231 | exact Int32.not_le.mp c_231, by rw [hb]⟩⟩⟩)
                    · -- 116 false
                      refine x_iconst h (nI 0) dX6_bestOrder_119 (by decide) ?_
                      refine x_istore h [(6, .int (nI 0)), (0, .ref (g.1 158)), (1, .int a), (2, .int (nI L.length)), (3, .int (nI best)), (4, .int (nI most)), (5, .int (nI o))] dX6_bestOrder_120 (by decide) rfl ?_
                      refine x_iconst h (nI 0) dX6_bestOrder_122 (by decide) ?_
                      refine x_istore h [(7, .int (nI 0)), (6, .int (nI 0)), (0, .ref (g.1 158)), (1, .int a), (2, .int (nI L.length)), (3, .int (nI best)), (4, .int (nI most)), (5, .int (nI o))] dX6_bestOrder_123 (by decide) rfl ?_
                      have L125 : ∀ (fu : Nat) (k : Nat) (j : Nat) (W4 : Nat → Nat → Int32), (L.length - k) < fu → (k ≤ L.length) → (FrZ M W4) → (W4 161 = W3 161) → (W4 167 = W3 167) → (InvX eM (W4 159) N K B) → (LayT eM N (fun i => L.getD (pmM L.length o i) 0) (W3 159) k j (W4 159)) → X x 125 [(0, .ref (g.1 158)), (1, .int a), (2, .int (nI L.length)), (3, .int (nI best)), (4, .int (nI most)), (5, .int (nI o)), (6, .int (nI j)), (7, .int (nI k))] [] W4 P := by
                        intro fu
                        induction fu with
                        | zero => intro k j W4 hmu125; exact absurd hmu125 (Nat.not_lt_zero _)
                        | succ fu ih125 =>
                          intro k j W4 hmu125 hk hF4 h41 h47 hI4 hLT
                          refine x_iload h 7 dX6_bestOrder_125 rfl ?_
                          refine x_iload_n h 2 dX6_bestOrder_127 rfl rfl ?_
                          refine x_icmp_ge_n h 163 dX6_bestOrder_128 (by decide) (by first | omega | (have := wlN_3 (X := M 159) (n := n); omega)) (by first | omega | (have := wlN_3 (X := M 159) (n := n); omega)) (fun c_128 => ?_) (fun c_128 => ?_)
                          · -- 128 true
                            have hke : k = L.length := by omega
                            rw [hke] at hLT
                            have hJM : JMQ (M 159) N L o j := ⟨_, _, h39, hLT⟩
                            have hj3 := JMQ_3 hL3 hJM
                            refine x_iload h 6 dX6_bestOrder_163 rfl ?_
                            refine x_iload h 4 dX6_bestOrder_165 rfl ?_
                            refine x_icmp_le_n h 175 dX6_bestOrder_167 (by decide) (by first | omega | (have := wlN_3 (X := M 159) (n := n); omega)) (by first | omega | (have := wlN_3 (X := M 159) (n := n); omega)) (fun c_167 => ?_) (fun c_167 => ?_)
                            · -- 167 true
                              refine x_iload_n h 3 dX6_bestOrder_175 rfl rfl ?_
                              refine x_istore_n h [(3, .int (nI best)), (0, .ref (g.1 158)), (1, .int a), (2, .int (nI L.length)), (4, .int (nI most)), (5, .int (nI o)), (6, .int (nI j)), (7, .int (nI k))] dX6_bestOrder_176 rfl (by decide) rfl ?_
                              refine x_iload h 6 dX6_bestOrder_177 rfl ?_
                              refine x_iload h 4 dX6_bestOrder_179 rfl ?_
                              refine x_icmp_le_n h 189 dX6_bestOrder_181 (by decide) (by first | omega | (have := wlN_3 (X := M 159) (n := n); omega)) (by first | omega | (have := wlN_3 (X := M 159) (n := n); omega)) (fun c_181 => ?_) (fun c_181 => by omega)
                              refine x_iload h 4 dX6_bestOrder_189 rfl ?_
                              refine x_istore h [(4, .int (nI most)), (3, .int (nI best)), (0, .ref (g.1 158)), (1, .int a), (2, .int (nI L.length)), (5, .int (nI o)), (6, .int (nI j)), (7, .int (nI k))] dX6_bestOrder_191 (by decide) rfl ?_
                              refine x_iconst h (nI 0) dX6_bestOrder_193 (by decide) ?_
                              refine x_istore h [(7, .int (nI 0)), (4, .int (nI most)), (3, .int (nI best)), (0, .ref (g.1 158)), (1, .int a), (2, .int (nI L.length)), (5, .int (nI o)), (6, .int (nI j))] dX6_bestOrder_194 (by decide) rfl ?_
                              have L196 : ∀ (fu : Nat) (i : Nat) (W6 : Nat → Nat → Int32), (379 - i) < fu → (i ≤ 379) → (W6 = va_up W4 159 (cpI (W4 161) (W4 159) i)) → X x 196 [(0, .ref (g.1 158)), (1, .int a), (2, .int (nI L.length)), (3, .int (nI best)), (4, .int (nI most)), (5, .int (nI o)), (7, .int (nI i))] [] W6 P := by
                                intro fu
                                induction fu with
                                | zero => intro i W6 hmu196; exact absurd hmu196 (Nat.not_lt_zero _)
                                | succ fu ih196 =>
                                  intro i W6 hmu196 hi6 hW6
                                  refine x_iload h 6 dX6_bestOrder_196 rfl ?_
                                  refine x_sipush h (nI 379) dX6_bestOrder_198 (by decide) ?_
                                  refine x_icmp_ge_n h 224 dX6_bestOrder_201 (by decide) (by first | omega | (have := wlN_3 (X := M 159) (n := n); omega)) (by decide) (fun c_201 => ?_) (fun c_201 => ?_)
                                  · -- 201 true
                                    have hie : i = 379 := by omega
                                    rw [hie] at hW6
                                    have h59 : ∀ j, j < 379 → W6 159 j = M 159 j := fun j hj => by rw [hW6, va_up_k]; exact (if_pos hj).trans (by rw [h41]; exact h3s j hj)
                                    have h5s : ∀ j, j < 379 → W6 161 j = M 159 j := fun j hj => by rw [hW6, va_up_n _ _ (by decide), h41]; exact h3s j hj
                                    have h57 : ∀ i, i < L.length → W6 167 i = nI (L.getD i 0) := fun i hi => by rw [hW6, va_up_n _ _ (by decide), h47]; exact h37 i hi
                                    have hF5 : FrZ M W6 := by rw [hW6]; exact FrZ_v _ (by omega) hF4
                                    refine x_iinc_n h 5 (n := 1) [(5, .int (nI (o + 1))), (0, .ref (g.1 158)), (1, .int a), (2, .int (nI L.length)), (3, .int (nI best)), (4, .int (nI most)), (7, .int (nI i))] dX6_bestOrder_224 rfl (by decide) rfl ?_
                                    refine x_goto h 94 dX6_bestOrder_227 (by decide) ?_
                                    exact x_lv (ih94 (o + 1) best most (fun q => if q = o then j else f q) W6 (by omega) (by omega) (by exact h59) (by exact h5s) (by exact h57) (by exact hF5) (by intro q hq; show JMQ (M 159) N L q (if q = o then j else f q); by_cases e : q = o; rw [if_pos e, e]; exact hJM; rw [if_neg e]; exact hf q (by omega)) (by exact bstM_s hb _ _ (Or.inl ⟨c_167, rfl, rfl⟩))) [1, 2, 3, 4, 5, 0] rfl
                                  · -- 201 false
                                    refine x_aload_n h 0 dX6_bestOrder_204 rfl rfl ?_
                                    refine xg_X6_0 h in_X6_bestOrder_X6 (by decide +kernel) dX6_bestOrder_205 ?_
                                    refine x_iload h 6 dX6_bestOrder_208 rfl ?_
                                    refine x_aload_n h 0 dX6_bestOrder_210 rfl rfl ?_
                                    refine xg_X6_2 h in_X6_bestOrder_X6 (by decide +kernel) dX6_bestOrder_211 ?_
                                    refine x_iload h 6 dX6_bestOrder_214 rfl ?_
                                    refine xl_161 h dX6_bestOrder_216 (by omega) ?_
                                    refine xs_159 h dX6_bestOrder_217 (by omega) ?_
                                    refine x_iinc_n h 6 (n := 1) [(7, .int (nI (i + 1))), (0, .ref (g.1 158)), (1, .int a), (2, .int (nI L.length)), (3, .int (nI best)), (4, .int (nI most)), (5, .int (nI o))] dX6_bestOrder_218 rfl (by decide) rfl ?_
                                    refine x_goto h 196 dX6_bestOrder_221 (by decide) ?_
                                    exact x_lv (ih196 (i + 1) (st2 W6 159 i (W6 161 i)) (by omega) (by omega) (by rw [st2_va, hW6, va_up_up, va_up_k, va_up_n _ _ (by decide), cpI_s])) [1, 2, 3, 4, 5, 6, 0] rfl
                              exact x_lv (L196 _ 0 W4 (Nat.lt_succ_self _) (by omega) (by rw [cpI_0, va_up_id])) [3, 4, 5, 2, 1, 6, 0] rfl
                            · -- 167 false
                              refine x_iload h 5 dX6_bestOrder_170 rfl ?_
                              refine x_goto h 176 dX6_bestOrder_172 (by decide) ?_
                              refine x_istore_n h [(3, .int (nI o)), (0, .ref (g.1 158)), (1, .int a), (2, .int (nI L.length)), (4, .int (nI most)), (5, .int (nI o)), (6, .int (nI j)), (7, .int (nI k))] dX6_bestOrder_176 rfl (by decide) rfl ?_
                              refine x_iload h 6 dX6_bestOrder_177 rfl ?_
                              refine x_iload h 4 dX6_bestOrder_179 rfl ?_
                              refine x_icmp_le_n h 189 dX6_bestOrder_181 (by decide) (by first | omega | (have := wlN_3 (X := M 159) (n := n); omega)) (by first | omega | (have := wlN_3 (X := M 159) (n := n); omega)) (fun c_181 => by omega) (fun c_181 => ?_)
                              refine x_iload h 6 dX6_bestOrder_184 rfl ?_
                              refine x_goto h 191 dX6_bestOrder_186 (by decide) ?_
                              refine x_istore h [(4, .int (nI j)), (3, .int (nI o)), (0, .ref (g.1 158)), (1, .int a), (2, .int (nI L.length)), (5, .int (nI o)), (6, .int (nI j)), (7, .int (nI k))] dX6_bestOrder_191 (by decide) rfl ?_
                              refine x_iconst h (nI 0) dX6_bestOrder_193 (by decide) ?_
                              refine x_istore h [(7, .int (nI 0)), (4, .int (nI j)), (3, .int (nI o)), (0, .ref (g.1 158)), (1, .int a), (2, .int (nI L.length)), (5, .int (nI o)), (6, .int (nI j))] dX6_bestOrder_194 (by decide) rfl ?_
                              have L196 : ∀ (fu : Nat) (i : Nat) (W6 : Nat → Nat → Int32), (379 - i) < fu → (i ≤ 379) → (W6 = va_up W4 159 (cpI (W4 161) (W4 159) i)) → X x 196 [(0, .ref (g.1 158)), (1, .int a), (2, .int (nI L.length)), (3, .int (nI o)), (4, .int (nI j)), (5, .int (nI o)), (7, .int (nI i))] [] W6 P := by
                                intro fu
                                induction fu with
                                | zero => intro i W6 hmu196; exact absurd hmu196 (Nat.not_lt_zero _)
                                | succ fu ih196 =>
                                  intro i W6 hmu196 hi6 hW6
                                  refine x_iload h 6 dX6_bestOrder_196 rfl ?_
                                  refine x_sipush h (nI 379) dX6_bestOrder_198 (by decide) ?_
                                  refine x_icmp_ge_n h 224 dX6_bestOrder_201 (by decide) (by first | omega | (have := wlN_3 (X := M 159) (n := n); omega)) (by decide) (fun c_201 => ?_) (fun c_201 => ?_)
                                  · -- 201 true
                                    have hie : i = 379 := by omega
                                    rw [hie] at hW6
                                    have h59 : ∀ j, j < 379 → W6 159 j = M 159 j := fun j hj => by rw [hW6, va_up_k]; exact (if_pos hj).trans (by rw [h41]; exact h3s j hj)
                                    have h5s : ∀ j, j < 379 → W6 161 j = M 159 j := fun j hj => by rw [hW6, va_up_n _ _ (by decide), h41]; exact h3s j hj
                                    have h57 : ∀ i, i < L.length → W6 167 i = nI (L.getD i 0) := fun i hi => by rw [hW6, va_up_n _ _ (by decide), h47]; exact h37 i hi
                                    have hF5 : FrZ M W6 := by rw [hW6]; exact FrZ_v _ (by omega) hF4
                                    refine x_iinc_n h 5 (n := 1) [(5, .int (nI (o + 1))), (0, .ref (g.1 158)), (1, .int a), (2, .int (nI L.length)), (3, .int (nI o)), (4, .int (nI j)), (7, .int (nI i))] dX6_bestOrder_224 rfl (by decide) rfl ?_
                                    refine x_goto h 94 dX6_bestOrder_227 (by decide) ?_
                                    exact x_lv (ih94 (o + 1) o j (fun q => if q = o then j else f q) W6 (by omega) (by omega) (by exact h59) (by exact h5s) (by exact h57) (by exact hF5) (by intro q hq; show JMQ (M 159) N L q (if q = o then j else f q); by_cases e : q = o; rw [if_pos e, e]; exact hJM; rw [if_neg e]; exact hf q (by omega)) (by exact bstM_s hb _ _ (Or.inr ⟨c_167, rfl, rfl⟩))) [1, 2, 3, 4, 5, 0] rfl
                                  · -- 201 false
                                    refine x_aload_n h 0 dX6_bestOrder_204 rfl rfl ?_
                                    refine xg_X6_0 h in_X6_bestOrder_X6 (by decide +kernel) dX6_bestOrder_205 ?_
                                    refine x_iload h 6 dX6_bestOrder_208 rfl ?_
                                    refine x_aload_n h 0 dX6_bestOrder_210 rfl rfl ?_
                                    refine xg_X6_2 h in_X6_bestOrder_X6 (by decide +kernel) dX6_bestOrder_211 ?_
                                    refine x_iload h 6 dX6_bestOrder_214 rfl ?_
                                    refine xl_161 h dX6_bestOrder_216 (by omega) ?_
                                    refine xs_159 h dX6_bestOrder_217 (by omega) ?_
                                    refine x_iinc_n h 6 (n := 1) [(7, .int (nI (i + 1))), (0, .ref (g.1 158)), (1, .int a), (2, .int (nI L.length)), (3, .int (nI o)), (4, .int (nI j)), (5, .int (nI o))] dX6_bestOrder_218 rfl (by decide) rfl ?_
                                    refine x_goto h 196 dX6_bestOrder_221 (by decide) ?_
                                    exact x_lv (ih196 (i + 1) (st2 W6 159 i (W6 161 i)) (by omega) (by omega) (by rw [st2_va, hW6, va_up_up, va_up_k, va_up_n _ _ (by decide), cpI_s])) [1, 2, 3, 4, 5, 6, 0] rfl
                              exact x_lv (L196 _ 0 W4 (Nat.lt_succ_self _) (by omega) (by rw [cpI_0, va_up_id])) [3, 4, 5, 2, 1, 6, 0] rfl
                          · -- 128 false
                            refine x_iload h 6 dX6_bestOrder_131 rfl ?_
                            refine x_aload_n h 0 dX6_bestOrder_133 rfl rfl ?_
                            refine x_aload_n h 0 dX6_bestOrder_134 rfl rfl ?_
                            refine x_iload h 5 dX6_bestOrder_135 rfl ?_
                            refine x_iload_n h 2 dX6_bestOrder_137 rfl rfl ?_
                            refine x_iload h 7 dX6_bestOrder_138 rfl ?_
                            refine x_callV h (As := [.int (nI o), .int (nI L.length), .int (nI k)]) 3 hx (c_X6_ordered (mn := L.length) (od := o) (k := k) (OdR_of (by omega) hL3 (by omega)) (by omega)) gX6_bestOrder_X6_ordered rfl ⟨rfl, rfl⟩ (by decide +kernel) rfl (by decide) (by decide) E_158 rfl rfl (Nat.le_of_ble_eq_true rfl) dX6_bestOrder_140 (fun rv M' P' hp => ?_)
                            obtain ⟨⟨rfl, rfl⟩, rfl⟩ := hp
                            refine x_top (nI (L.getD (pmM L.length o k) 0)) (by rw [h47]; exact h37 _ (pmM_lt (OdR_of (by omega) hL3 (by omega)) (by omega))) ?_
                            refine x_callV h (As := [.int (nI (L.getD (pmM L.length o k) 0))]) 1 hx (c_X6_lays hI4) gX6_bestOrder_X6_lays rfl ⟨rfl, rfl⟩ (by decide +kernel) rfl (by decide) (by decide) E_158 rfl rfl (Nat.le_of_ble_eq_true rfl) dX6_bestOrder_143 (fun av W5 P' hp => ?_)
                            obtain ⟨rfl, hFL, hQ⟩ := hp
                            refine x_if_lt h 153 dX6_bestOrder_146 (by decide) (fun c_146 => ?_) (fun c_146 => ?_)
                            · -- 146 true
                              refine x_iconst h (nI 0) dX6_bestOrder_153 (by decide) ?_
                              refine x_iadd_n h dX6_bestOrder_154 ?_
                              refine x_top (nI (j + (if av < 0 then 0 else 1))) (by rw [if_pos c_146]) ?_
                              refine x_istore h [(6, .int (nI (j + (if av < 0 then 0 else 1)))), (0, .ref (g.1 158)), (1, .int a), (2, .int (nI L.length)), (3, .int (nI best)), (4, .int (nI most)), (5, .int (nI o)), (7, .int (nI k))] dX6_bestOrder_155 (by decide) rfl ?_
                              refine x_iinc_n h 7 (n := 1) [(7, .int (nI (k + 1))), (6, .int (nI (j + (if av < 0 then 0 else 1)))), (0, .ref (g.1 158)), (1, .int a), (2, .int (nI L.length)), (3, .int (nI best)), (4, .int (nI most)), (5, .int (nI o))] dX6_bestOrder_157 rfl (by decide) rfl ?_
                              refine x_goto h 125 dX6_bestOrder_160 (by decide) ?_
                              exact x_lv (ih125 (k + 1) (j + (if av < 0 then 0 else 1)) W5 (by omega) (by omega) (by exact FrZ_tr hF4 (FrZ_L hFL)) (by exact (hFL.1 161 (by omega)).trans h41) (by exact (hFL.1 167 (by omega)).trans h47) (by exact Inv_lay eM_g hI4 hQ) (by exact ⟨j, _, av, hLT, hQ, rfl⟩)) [2, 3, 4, 5, 6, 7, 1, 0] rfl
                            · -- 146 false
                              refine x_iconst h (nI 1) dX6_bestOrder_149 (by decide) ?_
                              refine x_goto h 154 dX6_bestOrder_150 (by decide) ?_
                              refine x_iadd_n h dX6_bestOrder_154 ?_
                              refine x_top (nI (j + (if av < 0 then 0 else 1))) (by rw [if_neg c_146]) ?_
                              refine x_istore h [(6, .int (nI (j + (if av < 0 then 0 else 1)))), (0, .ref (g.1 158)), (1, .int a), (2, .int (nI L.length)), (3, .int (nI best)), (4, .int (nI most)), (5, .int (nI o)), (7, .int (nI k))] dX6_bestOrder_155 (by decide) rfl ?_
                              refine x_iinc_n h 7 (n := 1) [(7, .int (nI (k + 1))), (6, .int (nI (j + (if av < 0 then 0 else 1)))), (0, .ref (g.1 158)), (1, .int a), (2, .int (nI L.length)), (3, .int (nI best)), (4, .int (nI most)), (5, .int (nI o))] dX6_bestOrder_157 rfl (by decide) rfl ?_
                              refine x_goto h 125 dX6_bestOrder_160 (by decide) ?_
                              exact x_lv (ih125 (k + 1) (j + (if av < 0 then 0 else 1)) W5 (by omega) (by omega) (by exact FrZ_tr hF4 (FrZ_L hFL)) (by exact (hFL.1 161 (by omega)).trans h41) (by exact (hFL.1 167 (by omega)).trans h47) (by exact Inv_lay eM_g hI4 hQ) (by exact ⟨j, _, av, hLT, hQ, rfl⟩)) [2, 3, 4, 5, 6, 7, 1, 0] rfl
                      exact x_lv (L125 _ 0 0 W3 (Nat.lt_succ_self _) (by omega) (by exact hF3) (by rfl) (by rfl) (by exact InvX_cg eM_g hI h39) (by exact ⟨rfl, rfl⟩)) [2, 3, 4, 5, 6, 7, 1, 0] rfl
                  refine x_iload h 5 dX6_bestOrder_94 rfl ?_
                  refine x_iload_n h 2 dX6_bestOrder_96 rfl rfl ?_
                  refine x_iconst h (nI 3) dX6_bestOrder_97 (by decide) ?_
                  refine x_icmp_ne_n h 106 dX6_bestOrder_98 (by decide) (by first | omega | (have := wlN_3 (X := M 159) (n := n); omega)) (by decide) (fun c_98 => ?_) (fun c_98 => ?_)
                  · -- 98 true
                    refine x_iload_n h 2 dX6_bestOrder_106 rfl rfl ?_
                    refine x_iconst h (nI 2) dX6_bestOrder_107 (by decide) ?_
                    refine x_icmp_ne_n h 115 dX6_bestOrder_108 (by decide) (by first | omega | (have := wlN_3 (X := M 159) (n := n); omega)) (by decide) (fun c_108 => ?_) (fun c_108 => ?_)
                    · -- 108 true
                      refine x_iconst h (nI 1) dX6_bestOrder_115 (by decide) ?_
                      exact x_lv (J116 1 (by unfold omx; first | exact (if_pos (by omega)).symm | (rw [if_neg (by omega)]; first | exact (if_pos (by omega)).symm | exact (if_neg (by omega)).symm))) [0, 1, 2, 3, 4, 5] rfl
                    · -- 108 false
                      refine x_iconst h (nI 2) dX6_bestOrder_111 (by decide) ?_
                      refine x_goto h 116 dX6_bestOrder_112 (by decide) ?_
                      exact x_lv (J116 2 (by unfold omx; first | exact (if_pos (by omega)).symm | (rw [if_neg (by omega)]; first | exact (if_pos (by omega)).symm | exact (if_neg (by omega)).symm))) [0, 1, 2, 3, 4, 5] rfl
                  · -- 98 false
                    refine x_bipush h (nI 6) dX6_bestOrder_101 (by decide) ?_
                    refine x_goto h 116 dX6_bestOrder_103 (by decide) ?_
                    exact x_lv (J116 6 (by unfold omx; first | exact (if_pos (by omega)).symm | (rw [if_neg (by omega)]; first | exact (if_pos (by omega)).symm | exact (if_neg (by omega)).symm))) [0, 1, 2, 3, 4, 5] rfl
              exact x_lv (L94 _ 0 0 0 (fun _ => 0) W2 (Nat.lt_succ_self _) (by exact Nat.zero_le _) (by exact h29) (by exact h2s) (by exact h27) (by exact hF2) (by exact fun q hq => absurd hq (Nat.not_lt_zero q)) (by rfl)) [3, 4, 5, 2, 1, 0] rfl
            · -- 65 false
              refine x_aload_n h 0 dX6_bestOrder_68 rfl rfl ?_
              refine xg_X6_2 h in_X6_bestOrder_X6 (by decide +kernel) dX6_bestOrder_69 ?_
              refine x_iload_n h 3 dX6_bestOrder_72 rfl rfl ?_
              refine x_aload_n h 0 dX6_bestOrder_73 rfl rfl ?_
              refine xg_X6_0 h in_X6_bestOrder_X6 (by decide +kernel) dX6_bestOrder_74 ?_
              refine x_iload_n h 3 dX6_bestOrder_77 rfl rfl ?_
              refine xl_159 h dX6_bestOrder_78 (by omega) ?_
              refine xs_161 h dX6_bestOrder_79 (by omega) ?_
              refine x_iinc_n h 3 (n := 1) [(3, .int (nI (i + 1))), (0, .ref (g.1 158)), (1, .int a), (2, .int (nI L.length))] dX6_bestOrder_80 rfl (by decide) rfl ?_
              refine x_goto h 61 dX6_bestOrder_83 (by decide) ?_
              exact x_lv (ih61 (i + 1) (st2 W2 161 i (W2 159 i)) (by omega) (by omega) (by rw [st2_va, hW2, va_up_up, va_up_k, va_up_n _ _ (by decide), cpI_s])) [1, 2, 3, 0] rfl
        exact x_lv (L61 _ 0 W (Nat.lt_succ_self _) (by omega) (by rw [cpI_0, va_up_id])) [1, 2, 3, 0] rfl
      · -- 53 false
        refine x_ldc h ((-1000004)) (by decide +kernel) dX6_bestOrder_56 ?_
        exact hret _ _ _ _ _ dX6_bestOrder_58 (by refine ⟨rfl, FrZ_1 hWk, fun j _ => by rw [hWk 159 (by decide)], ?_⟩; rw [← hL]; exact Or.inr ⟨Int32.not_lt.mpr c_2, Or.inl ⟨c_53, rfl⟩⟩)
    refine x_iconst h (nI 0) dX6_bestOrder_8 (by decide) ?_
    refine x_istore_n h [(2, .int (nI 0)), (0, .ref (g.1 158)), (1, .int a)] dX6_bestOrder_9 rfl (by decide) rfl ?_
    refine x_iconst h (nI 0) dX6_bestOrder_10 (by decide) ?_
    refine x_istore_n h [(3, .int (nI 0)), (2, .int (nI 0)), (0, .ref (g.1 158)), (1, .int a)] dX6_bestOrder_11 rfl (by decide) rfl ?_
    have L12 : ∀ (fu : Nat) (n : Nat) (W : Nat → Nat → Int32), (N - n) < fu → (n ≤ N) → (∀ k, k ≠ 167 → W k = M k) → (∀ i, i < (wlN (M 159) n).length → W 167 i = nI ((wlN (M 159) n).getD i 0)) → X x 12 [(0, .ref (g.1 158)), (1, .int a), (2, .int (nI ((wlN (M 159) n).length))), (3, .int (nI n))] [] W P := by
      intro fu
      induction fu with
      | zero => intro n W hmu12; exact absurd hmu12 (Nat.not_lt_zero _)
      | succ fu ih12 =>
        intro n W hmu12 hn hFr hWl
        refine x_iload_n h 3 dX6_bestOrder_12 rfl rfl ?_
        refine x_aload_n h 0 dX6_bestOrder_13 rfl rfl ?_
        refine xg_X6_0 h in_X6_bestOrder_X6 (by decide +kernel) dX6_bestOrder_14 ?_
        refine x_iconst h (nI 5) dX6_bestOrder_17 (by decide) ?_
        refine xl_159 h dX6_bestOrder_18 (by decide) ?_
        refine x_top (nI N) (by rw [hFr 159 (by decide)]; exact hN) ?_
        refine x_icmp_ge_n h 51 dX6_bestOrder_19 (by decide) (by first | omega | (have := wlN_3 (X := M 159) (n := n); omega)) (by first | omega | (have := wlN_3 (X := M 159) (n := n); omega)) (fun c_19 => ?_) (fun c_19 => ?_)
        · -- 19 true
          have hwe : wlN (M 159) n = L := by rw [hL]; exact (wlN_fin hn (by first | exact Or.inl c_19 | exact Or.inr c_24)).symm
          rw [hwe] at hWl ⊢
          exact x_lv (J51 W (by exact hFr) (by exact hWl)) [0, 1, 2] rfl
        · -- 19 false
          refine x_iload_n h 2 dX6_bestOrder_22 rfl rfl ?_
          refine x_iconst h (nI 3) dX6_bestOrder_23 (by decide) ?_
          refine x_icmp_ge_n h 51 dX6_bestOrder_24 (by decide) (by first | omega | (have := wlN_3 (X := M 159) (n := n); omega)) (by decide) (fun c_24 => ?_) (fun c_24 => ?_)
          · -- 24 true
            have hwe : wlN (M 159) n = L := by rw [hL]; exact (wlN_fin hn (by first | exact Or.inl c_19 | exact Or.inr c_24)).symm
            rw [hwe] at hWl ⊢
            exact x_lv (J51 W (by exact hFr) (by exact hWl)) [0, 1, 2] rfl
          · -- 24 false
            refine x_aload_n h 0 dX6_bestOrder_27 rfl rfl ?_
            refine x_iload_n h 3 dX6_bestOrder_28 rfl rfl ?_
            refine x_callV h (As := [.int (nI n)]) 1 hx (c_X6_isJoined (by omega)) gX6_bestOrder_X6_isJoined rfl ⟨rfl, rfl⟩ (by decide +kernel) rfl (by decide) (by decide) E_158 rfl rfl (Nat.le_of_ble_eq_true rfl) dX6_bestOrder_29 (fun rv M' P' hp => ?_)
            obtain ⟨⟨rfl, rfl⟩, hp⟩ := hp
            rw [hFr 159 (by decide)] at hp
            rcases hp with ⟨j29, rfl⟩ | ⟨nj29, rfl⟩
            · -- joined
              have hno : ¬ (M 159 (169 + 9 * n + 5) = 0 ∧ (wlN (M 159) n).length < 3) := fun q => by have z := q.1; rw [j29] at z; exact absurd z (by decide)
              refine x_if_ne h 45 dX6_bestOrder_32 (by decide) (fun _ => ?_) (fun c => absurd c (by decide))
              have hlen : (wlN (M 159) n).length = (wlN (M 159) (n + 1)).length := by rw [wlN, if_neg hno]
              rw [hlen]
              refine x_lv (lv' := [(0, .ref (g.1 158)), (1, .int a), (2, .int (nI ((wlN (M 159) (n + 1)).length))), (3, .int (nI n))]) ?_ [0, 1, 2, 3] rfl
              refine x_iinc_n h 3 (n := 1) [(3, .int (nI (n + 1))), (0, .ref (g.1 158)), (1, .int a), (2, .int (nI ((wlN (M 159) (n + 1)).length)))] dX6_bestOrder_45 rfl (by decide) rfl ?_
              refine x_goto h 12 dX6_bestOrder_48 (by decide) ?_
              exact x_lv (ih12 (n + 1) W (by omega) (by omega) (by first | exact hFr | exact fun k hk => (st2_n _ _ _ hk).trans (hFr k hk)) (by first | (rw [wlN, if_neg hno]; exact hWl) | (rw [wlN, if_pos hyes]; exact wl_sM hWl))) [1, 2, 3, 0] rfl
            · -- loose
              have hyes : M 159 (169 + 9 * n + 5) = 0 ∧ (wlN (M 159) n).length < 3 := ⟨(hI.j5 (by omega)).elim id (fun q => absurd q nj29), by omega⟩
              refine x_if_ne h 45 dX6_bestOrder_32 (by decide) (fun c => absurd c (by decide)) (fun _ => ?_)
              refine x_aload_n h 0 dX6_bestOrder_35 rfl rfl ?_
              refine xg_X6_14 h in_X6_bestOrder_X6 (by decide +kernel) dX6_bestOrder_36 ?_
              refine x_iload_n h 2 dX6_bestOrder_39 rfl rfl ?_
              refine x_iload_n h 3 dX6_bestOrder_40 rfl rfl ?_
              refine xs_167 h dX6_bestOrder_41 (by omega) ?_
              refine x_iinc_n h 2 (n := 1) [(2, .int (nI (((wlN (M 159) n).length) + 1))), (0, .ref (g.1 158)), (1, .int a), (3, .int (nI n))] dX6_bestOrder_42 rfl (by decide) rfl ?_
              have hlen : ((wlN (M 159) n).length) + 1 = (wlN (M 159) (n + 1)).length := by rw [wlN, if_pos hyes, List.length_append]; rfl
              rw [hlen]
              refine x_lv (lv' := [(2, .int (nI ((wlN (M 159) (n + 1)).length))), (0, .ref (g.1 158)), (1, .int a), (3, .int (nI n))]) ?_ [0, 1, 2, 3] rfl
              refine x_iinc_n h 3 (n := 1) [(3, .int (nI (n + 1))), (2, .int (nI ((wlN (M 159) (n + 1)).length))), (0, .ref (g.1 158)), (1, .int a)] dX6_bestOrder_45 rfl (by decide) rfl ?_
              refine x_goto h 12 dX6_bestOrder_48 (by decide) ?_
              exact x_lv (ih12 (n + 1) (st2 W 167 ((wlN (M 159) n).length) (nI n)) (by omega) (by omega) (by first | exact hFr | exact fun k hk => (st2_n _ _ _ hk).trans (hFr k hk)) (by first | (rw [wlN, if_neg hno]; exact hWl) | (rw [wlN, if_pos hyes]; exact wl_sM hWl))) [2, 3, 1, 0] rfl
    exact x_lv (L12 _ 0 M (Nat.lt_succ_self _) (by omega) (by exact fun k _ => rfl) (by exact fun i hi => absurd hi (Nat.not_lt_zero i))) [2, 3, 1, 0] rfl
  · -- 2 false
    refine x_ldc h ((-1000001)) (by decide +kernel) dX6_bestOrder_5 ?_
    exact hret _ _ _ _ _ dX6_bestOrder_7 (by exact ⟨rfl, FrZ_rf M, fun _ _ => rfl, Or.inl ⟨by first | exact Int32.not_le.mp c_2 | exact c_2, rfl⟩⟩)
