/-- the wire's cell with so many ahead of it -/
def waP (X : Nat → Int32) (n : Int32) (ix a : Nat) : Bool := decide (X (7 + a) = n ∧ cnt (fun b => decide (X (7 + b) = n)) a = ix)
theorem wrg_y {X : Nat → Int32} {i hh : Nat} {z : Int32} (hz : z = wrg X i) (h1 : X (223 + 13 * i + 4) < lossX X i) (h2 : X (223 + 13 * i) = nI hh) (hl : hh < 2 ^ 31) (h3 : X (169 + 9 * hh + 5) = 0) : z ||| (nI 1 <<< (nI hh &&& 31)) = wrg X (i + 1) := by
  show _ = if X (223 + 13 * i + 4) < lossX X i ∧ X (169 + 9 * (X (223 + 13 * i)).toNatClampNeg + 5) = 0 then wrg X i ||| (nI 1 <<< (X (223 + 13 * i) &&& 31)) else wrg X i
  rw [h2, nI_clamp hl, if_pos ⟨h1, h3⟩, hz]
theorem wrg_n {X : Nat → Int32} {i hh : Nat} {z : Int32} (hz : z = wrg X i) (h2 : X (223 + 13 * i) = nI hh) (hl : hh < 2 ^ 31) (h : ¬ X (223 + 13 * i + 4) < lossX X i ∨ ¬ X (169 + 9 * hh + 5) = 0) : z ||| nI 0 = wrg X (i + 1) := by
  show _ = if X (223 + 13 * i + 4) < lossX X i ∧ X (169 + 9 * (X (223 + 13 * i)).toNatClampNeg + 5) = 0 then wrg X i ||| (nI 1 <<< (X (223 + 13 * i) &&& 31)) else wrg X i
  rw [h2, nI_clamp hl, if_neg (fun q => h.elim (fun w => w q.1) (fun w => w q.2)), hz]
  exact Int32.or_zero

set_option maxRecDepth 20000 in
theorem ggX6_netOf_X6_isNet : GoodIn wsX6_netOf wsX6_isNet := goodIn_r _ [7, 8, 9, 10, 6, 11, 24, 25, 26, 27, 28, 29, 30, 31, 32, 33, 34, 35, 36, 37, 38, 39, 40, 41, 42] (by decide +kernel) (by decide +kernel)
set_option maxRecDepth 20000 in
theorem gX6_netOf_X6_isNet : GoodIn wsX6_netOf (wsV RX6 77 RX6 yX6_isNet wsX6_isNet) := goodIn_app (goodIn_of _ (by decide +kernel)) ggX6_netOf_X6_isNet
set_option maxRecDepth 20000 in
theorem ggX6_netOf_X6_in : GoodIn wsX6_netOf wsX6_in := goodIn_r _ [11] (by decide +kernel) (by decide +kernel)
set_option maxRecDepth 20000 in
theorem gX6_netOf_X6_in : GoodIn wsX6_netOf (va_wsS RX6 38 yX6_in wsX6_in) := goodIn_app (goodIn_of _ (by decide +kernel)) ggX6_netOf_X6_in
set_option maxRecDepth 20000 in
theorem ggX6_netOf_X6_of : GoodIn wsX6_netOf wsX6_of := goodIn_r _ [15, 8, 24, 25, 26, 27, 28, 29, 30, 31, 32, 33, 34, 35, 36, 37, 38, 39, 40, 41, 42] (by decide +kernel) (by decide +kernel)
set_option maxRecDepth 20000 in
theorem gX6_netOf_X6_of : GoodIn wsX6_netOf (wsV RX6 42 RX6 yX6_of wsX6_of) := goodIn_app (goodIn_of _ (by decide +kernel)) ggX6_netOf_X6_of
set_option maxRecDepth 20000 in
theorem ggX6_netOf_X6_wireMany : GoodIn wsX6_netOf wsX6_wireMany := goodIn_r _ [19, 8, 24, 25, 26, 27, 28, 29, 30, 31, 32, 33, 34, 35, 36, 37, 38, 39, 40, 41, 42] (by decide +kernel) (by decide +kernel)
set_option maxRecDepth 20000 in
theorem gX6_netOf_X6_wireMany : GoodIn wsX6_netOf (wsV RX6 86 RX6 yX6_wireMany wsX6_wireMany) := goodIn_app (goodIn_of _ (by decide +kernel)) ggX6_netOf_X6_wireMany
set_option maxRecDepth 20000 in
theorem ggX6_netOf_X6_viaMany : GoodIn wsX6_netOf wsX6_viaMany := goodIn_r _ [23, 8, 24, 25, 26, 27, 28, 29, 30, 31, 32, 33, 34, 35, 36, 37, 38, 39, 40, 41, 42] (by decide +kernel) (by decide +kernel)
set_option maxRecDepth 20000 in
theorem gX6_netOf_X6_viaMany : GoodIn wsX6_netOf (wsV RX6 89 RX6 yX6_viaMany wsX6_viaMany) := goodIn_app (goodIn_of _ (by decide +kernel)) ggX6_netOf_X6_viaMany
theorem dX6_netOf_0 : decode cX6_netOf 0 = .ok (.aload_n 0, 1) := by decide +kernel
theorem dX6_netOf_1 : decode cX6_netOf 1 = .ok (.iload_n 1, 1) := by decide +kernel
theorem dX6_netOf_2 : decode cX6_netOf 2 = .ok (.invokevirtual 77, 3) := by decide +kernel
theorem dX6_netOf_5 : decode cX6_netOf 5 = .ok (.ifCond .eq 13, 3) := by decide +kernel
theorem dX6_netOf_8 : decode cX6_netOf 8 = .ok (.iload_n 2, 1) := by decide +kernel
theorem dX6_netOf_9 : decode cX6_netOf 9 = .ok (.iconst 0, 1) := by decide +kernel
theorem dX6_netOf_10 : decode cX6_netOf 10 = .ok (.bipush 10, 2) := by decide +kernel
theorem dX6_netOf_12 : decode cX6_netOf 12 = .ok (.invokestatic 38, 3) := by decide +kernel
theorem dX6_netOf_15 : decode cX6_netOf 15 = .ok (.ifCond .ne 6, 3) := by decide +kernel
theorem dX6_netOf_18 : decode cX6_netOf 18 = .ok (.ldc 61, 2) := by decide +kernel
theorem dX6_netOf_20 : decode cX6_netOf 20 = .ok (.ireturn, 1) := by decide +kernel
theorem dX6_netOf_21 : decode cX6_netOf 21 = .ok (.iload_n 2, 1) := by decide +kernel
theorem dX6_netOf_22 : decode cX6_netOf 22 = .ok (.tableswitch 107 2 10 #[50, 107, 107, 107, 71, 77, 83, 91, 99], 50) := by decide +kernel
theorem dX6_netOf_72 : decode cX6_netOf 72 = .ok (.aload_n 0, 1) := by decide +kernel
theorem dX6_netOf_73 : decode cX6_netOf 73 = .ok (.iload_n 1, 1) := by decide +kernel
theorem dX6_netOf_74 : decode cX6_netOf 74 = .ok (.iconst 2, 1) := by decide +kernel
theorem dX6_netOf_75 : decode cX6_netOf 75 = .ok (.invokevirtual 42, 3) := by decide +kernel
theorem dX6_netOf_78 : decode cX6_netOf 78 = .ok (.ifCond .ge 8, 3) := by decide +kernel
theorem dX6_netOf_81 : decode cX6_netOf 81 = .ok (.ldc 85, 2) := by decide +kernel
theorem dX6_netOf_83 : decode cX6_netOf 83 = .ok (.goto 9, 3) := by decide +kernel
theorem dX6_netOf_86 : decode cX6_netOf 86 = .ok (.aload_n 0, 1) := by decide +kernel
theorem dX6_netOf_87 : decode cX6_netOf 87 = .ok (.iload_n 1, 1) := by decide +kernel
theorem dX6_netOf_88 : decode cX6_netOf 88 = .ok (.iconst 2, 1) := by decide +kernel
theorem dX6_netOf_89 : decode cX6_netOf 89 = .ok (.invokevirtual 42, 3) := by decide +kernel
theorem dX6_netOf_92 : decode cX6_netOf 92 = .ok (.ireturn, 1) := by decide +kernel
theorem dX6_netOf_93 : decode cX6_netOf 93 = .ok (.aload_n 0, 1) := by decide +kernel
theorem dX6_netOf_94 : decode cX6_netOf 94 = .ok (.iload_n 1, 1) := by decide +kernel
theorem dX6_netOf_95 : decode cX6_netOf 95 = .ok (.invokevirtual 86, 3) := by decide +kernel
theorem dX6_netOf_98 : decode cX6_netOf 98 = .ok (.ireturn, 1) := by decide +kernel
theorem dX6_netOf_99 : decode cX6_netOf 99 = .ok (.aload_n 0, 1) := by decide +kernel
theorem dX6_netOf_100 : decode cX6_netOf 100 = .ok (.iload_n 1, 1) := by decide +kernel
theorem dX6_netOf_101 : decode cX6_netOf 101 = .ok (.invokevirtual 89, 3) := by decide +kernel
theorem dX6_netOf_104 : decode cX6_netOf 104 = .ok (.ireturn, 1) := by decide +kernel
theorem dX6_netOf_105 : decode cX6_netOf 105 = .ok (.aload_n 0, 1) := by decide +kernel
theorem dX6_netOf_106 : decode cX6_netOf 106 = .ok (.iload_n 1, 1) := by decide +kernel
theorem dX6_netOf_107 : decode cX6_netOf 107 = .ok (.bipush 6, 2) := by decide +kernel
theorem dX6_netOf_109 : decode cX6_netOf 109 = .ok (.invokevirtual 42, 3) := by decide +kernel
theorem dX6_netOf_112 : decode cX6_netOf 112 = .ok (.ireturn, 1) := by decide +kernel
theorem dX6_netOf_113 : decode cX6_netOf 113 = .ok (.aload_n 0, 1) := by decide +kernel
theorem dX6_netOf_114 : decode cX6_netOf 114 = .ok (.iload_n 1, 1) := by decide +kernel
theorem dX6_netOf_115 : decode cX6_netOf 115 = .ok (.bipush 7, 2) := by decide +kernel
theorem dX6_netOf_117 : decode cX6_netOf 117 = .ok (.invokevirtual 42, 3) := by decide +kernel
theorem dX6_netOf_120 : decode cX6_netOf 120 = .ok (.ireturn, 1) := by decide +kernel
theorem dX6_netOf_121 : decode cX6_netOf 121 = .ok (.aload_n 0, 1) := by decide +kernel
theorem dX6_netOf_122 : decode cX6_netOf 122 = .ok (.iload_n 1, 1) := by decide +kernel
theorem dX6_netOf_123 : decode cX6_netOf 123 = .ok (.bipush 8, 2) := by decide +kernel
theorem dX6_netOf_125 : decode cX6_netOf 125 = .ok (.invokevirtual 42, 3) := by decide +kernel
theorem dX6_netOf_128 : decode cX6_netOf 128 = .ok (.ireturn, 1) := by decide +kernel
theorem dX6_netOf_129 : decode cX6_netOf 129 = .ok (.aload_n 0, 1) := by decide +kernel
theorem dX6_netOf_130 : decode cX6_netOf 130 = .ok (.iload_n 1, 1) := by decide +kernel
theorem dX6_netOf_131 : decode cX6_netOf 131 = .ok (.iload_n 2, 1) := by decide +kernel
theorem dX6_netOf_132 : decode cX6_netOf 132 = .ok (.invokevirtual 42, 3) := by decide +kernel
theorem dX6_netOf_135 : decode cX6_netOf 135 = .ok (.ireturn, 1) := by decide +kernel
abbrev rmX6_netOf : Room := { frames := 2, cells := 0, slots := 0, locals := 43 }

set_option maxRecDepth 100000 in
set_option maxHeartbeats 4000000 in
theorem c_X6_netOf {l : Launch} {g : Geo} {M : Nat → Nat → Int32} {P : Nat → Nat} {N K B : Nat} (hI : InvX eM (M 159) N K B) {n w : Int32} : Met l yX6_netOf wsX6_netOf rmX6_netOf (cPre g [.ref (g.1 158), .int n, .int w] M P) (cQi g (fun r M' P' => (P = P' ∧ M = M') ∧ ((¬ (InR N n ∧ InR 11 w) ∧ r = -1000001) ∨ ∃ k j, k < N ∧ n = nI k ∧ j < 11 ∧ w = nI j ∧ r = fNet eM (M 159) k j))) 0 0 (gA g) := by
  refine met_i (cc := cX6_netOf) (maxL := 3) (by decide) rfl ⟨rfl, rfl⟩ (Nat.le_of_ble_eq_true rfl) (fun x hx h hret => ?_)
  replace h : Cxk x g cX6_netOf 3 wsX6_netOf RX6 rmX6_netOf := h
  show X x 0 [(0, .ref (g.1 158)), (1, .int n), (2, .int w)] [] M P
  have hN := hI.1.1
  have hN6 := hI.1.2.1
  have hK := hI.1.2.2.1
  have hK12 := hI.1.2.2.2.1
  refine x_aload_n h 0 dX6_netOf_0 rfl rfl ?_
  refine x_iload_n h 1 dX6_netOf_1 rfl rfl ?_
  refine x_callV h (As := [.int n]) 1 hx (c_X6_isNet hI) gX6_netOf_X6_isNet rfl ⟨rfl, rfl⟩ (by decide +kernel) rfl (by decide) (by decide) E_158 rfl rfl (Nat.le_of_ble_eq_true rfl) dX6_netOf_2 (fun rv M' P' hp => ?_)
  obtain ⟨⟨rfl, rfl⟩, hp⟩ := hp
  rcases hp with ⟨⟨k2, hk2, rfl⟩, rfl⟩ | ⟨nk2, rfl⟩
  · -- call 2
    refine x_if_eq h 18 dX6_netOf_5 (by decide) (fun c => absurd c (by decide)) (fun _ => ?_)
    refine x_iload_n h 2 dX6_netOf_8 rfl rfl ?_
    refine x_iconst h (nI 0) dX6_netOf_9 (by decide) ?_
    refine x_bipush h (nI 10) dX6_netOf_10 (by decide) ?_
    refine x_callS h (As := [.int w, .int (nI 0), .int (nI 10)]) 3 hx (c_X6_in) gX6_netOf_X6_in rfl ⟨rfl, rfl⟩ (by decide +kernel) rfl (by decide) (Nat.le_of_ble_eq_true rfl) dX6_netOf_12 (fun rv M' P' hp => ?_)
    obtain ⟨⟨rfl, rfl⟩, hp⟩ := hp
    rcases hp with ⟨iy12, rfl⟩ | ⟨in12, rfl⟩
    · -- in
      obtain ⟨k12, hk12, rfl⟩ := (InR_in2 (N := 10) (by omega)).mp iy12
      refine x_if_ne h 21 dX6_netOf_15 (by decide) (fun _ => ?_) (fun c => absurd c (by decide))
      refine x_iload_n h 2 dX6_netOf_21 rfl rfl ?_
      rcases (show k12 = 0 ∨ k12 = 1 ∨ k12 = 2 ∨ k12 = 3 ∨ k12 = 4 ∨ k12 = 5 ∨ k12 = 6 ∨ k12 = 7 ∨ k12 = 8 ∨ k12 = 9 ∨ k12 = 10 by omega) with rfl | rfl | rfl | rfl | rfl | rfl | rfl | rfl | rfl | rfl | rfl
      · refine x_tableOut h 129 dX6_netOf_22 (by decide) (by decide) ?_
        refine x_aload_n h 0 dX6_netOf_129 rfl rfl ?_
        refine x_iload_n h 1 dX6_netOf_130 rfl rfl ?_
        refine x_iload_n h 2 dX6_netOf_131 rfl rfl ?_
        refine x_callV h (As := [.int (nI k2), .int (nI 0)]) 2 hx (c_X6_of (by omega) (by decide)) gX6_netOf_X6_of rfl ⟨rfl, rfl⟩ (by decide +kernel) rfl (by decide) (by decide) E_158 rfl rfl (Nat.le_of_ble_eq_true rfl) dX6_netOf_132 (fun rv M' P' hp => ?_)
        obtain ⟨⟨rfl, rfl⟩, rfl⟩ := hp
        exact hret _ _ _ _ _ dX6_netOf_135 (by exact ⟨⟨rfl, rfl⟩, Or.inr ⟨k2, 0, hk2, rfl, by decide, rfl, rfl⟩⟩)
      · refine x_tableOut h 129 dX6_netOf_22 (by decide) (by decide) ?_
        refine x_aload_n h 0 dX6_netOf_129 rfl rfl ?_
        refine x_iload_n h 1 dX6_netOf_130 rfl rfl ?_
        refine x_iload_n h 2 dX6_netOf_131 rfl rfl ?_
        refine x_callV h (As := [.int (nI k2), .int (nI 1)]) 2 hx (c_X6_of (by omega) (by decide)) gX6_netOf_X6_of rfl ⟨rfl, rfl⟩ (by decide +kernel) rfl (by decide) (by decide) E_158 rfl rfl (Nat.le_of_ble_eq_true rfl) dX6_netOf_132 (fun rv M' P' hp => ?_)
        obtain ⟨⟨rfl, rfl⟩, rfl⟩ := hp
        exact hret _ _ _ _ _ dX6_netOf_135 (by exact ⟨⟨rfl, rfl⟩, Or.inr ⟨k2, 1, hk2, rfl, by decide, rfl, rfl⟩⟩)
      · refine x_tableIn h (50) 72 dX6_netOf_22 (by decide) (by decide) rfl (by decide) ?_
        refine x_aload_n h 0 dX6_netOf_72 rfl rfl ?_
        refine x_iload_n h 1 dX6_netOf_73 rfl rfl ?_
        refine x_iconst h (nI 2) dX6_netOf_74 (by decide) ?_
        refine x_callV h (As := [.int (nI k2), .int (nI 2)]) 2 hx (c_X6_of (by omega) (by decide)) gX6_netOf_X6_of rfl ⟨rfl, rfl⟩ (by decide +kernel) rfl (by decide) (by decide) E_158 rfl rfl (Nat.le_of_ble_eq_true rfl) dX6_netOf_75 (fun rv M' P' hp => ?_)
        obtain ⟨⟨rfl, rfl⟩, rfl⟩ := hp
        have hm2 : M 159 (169 + 9 * k2 + 2) < 0 → M 159 (169 + 9 * k2 + 2) = -1 := fun q => (hI.1.net hk2).2.2.1.elim id (fun ⟨p, hp, e, _⟩ => absurd q (by rw [e]; exact nI_pos (by omega)))
        refine x_if_ge h 86 dX6_netOf_78 (by decide) (fun c_78 => ?_) (fun c_78 => ?_)
        · -- 78 true
          refine x_aload_n h 0 dX6_netOf_86 rfl rfl ?_
          refine x_iload_n h 1 dX6_netOf_87 rfl rfl ?_
          refine x_iconst h (nI 2) dX6_netOf_88 (by decide) ?_
          refine x_callV h (As := [.int (nI k2), .int (nI 2)]) 2 hx (c_X6_of (by omega) (by decide)) gX6_netOf_X6_of rfl ⟨rfl, rfl⟩ (by decide +kernel) rfl (by decide) (by decide) E_158 rfl rfl (Nat.le_of_ble_eq_true rfl) dX6_netOf_89 (fun rv M' P' hp => ?_)
          obtain ⟨⟨rfl, rfl⟩, rfl⟩ := hp
          exact hret _ _ _ _ _ dX6_netOf_92 (by exact ⟨⟨rfl, rfl⟩, Or.inr ⟨k2, 2, hk2, rfl, by decide, rfl, (if_neg (fun q => by rw [q] at c_78; exact absurd c_78 (by decide))).symm⟩⟩)
        · -- 78 false
          refine x_ldc h ((-1000004)) (by decide +kernel) dX6_netOf_81 ?_
          refine x_goto h 92 dX6_netOf_83 (by decide) ?_
          exact hret _ _ _ _ _ dX6_netOf_92 (by exact ⟨⟨rfl, rfl⟩, Or.inr ⟨k2, 2, hk2, rfl, by decide, rfl, (if_pos (hm2 (Int32.not_le.mp c_78))).symm⟩⟩)
      · refine x_tableIn h (107) 129 dX6_netOf_22 (by decide) (by decide) rfl (by decide) ?_
        refine x_aload_n h 0 dX6_netOf_129 rfl rfl ?_
        refine x_iload_n h 1 dX6_netOf_130 rfl rfl ?_
        refine x_iload_n h 2 dX6_netOf_131 rfl rfl ?_
        refine x_callV h (As := [.int (nI k2), .int (nI 3)]) 2 hx (c_X6_of (by omega) (by decide)) gX6_netOf_X6_of rfl ⟨rfl, rfl⟩ (by decide +kernel) rfl (by decide) (by decide) E_158 rfl rfl (Nat.le_of_ble_eq_true rfl) dX6_netOf_132 (fun rv M' P' hp => ?_)
        obtain ⟨⟨rfl, rfl⟩, rfl⟩ := hp
        exact hret _ _ _ _ _ dX6_netOf_135 (by exact ⟨⟨rfl, rfl⟩, Or.inr ⟨k2, 3, hk2, rfl, by decide, rfl, rfl⟩⟩)
      · refine x_tableIn h (107) 129 dX6_netOf_22 (by decide) (by decide) rfl (by decide) ?_
        refine x_aload_n h 0 dX6_netOf_129 rfl rfl ?_
        refine x_iload_n h 1 dX6_netOf_130 rfl rfl ?_
        refine x_iload_n h 2 dX6_netOf_131 rfl rfl ?_
        refine x_callV h (As := [.int (nI k2), .int (nI 4)]) 2 hx (c_X6_of (by omega) (by decide)) gX6_netOf_X6_of rfl ⟨rfl, rfl⟩ (by decide +kernel) rfl (by decide) (by decide) E_158 rfl rfl (Nat.le_of_ble_eq_true rfl) dX6_netOf_132 (fun rv M' P' hp => ?_)
        obtain ⟨⟨rfl, rfl⟩, rfl⟩ := hp
        exact hret _ _ _ _ _ dX6_netOf_135 (by exact ⟨⟨rfl, rfl⟩, Or.inr ⟨k2, 4, hk2, rfl, by decide, rfl, rfl⟩⟩)
      · refine x_tableIn h (107) 129 dX6_netOf_22 (by decide) (by decide) rfl (by decide) ?_
        refine x_aload_n h 0 dX6_netOf_129 rfl rfl ?_
        refine x_iload_n h 1 dX6_netOf_130 rfl rfl ?_
        refine x_iload_n h 2 dX6_netOf_131 rfl rfl ?_
        refine x_callV h (As := [.int (nI k2), .int (nI 5)]) 2 hx (c_X6_of (by omega) (by decide)) gX6_netOf_X6_of rfl ⟨rfl, rfl⟩ (by decide +kernel) rfl (by decide) (by decide) E_158 rfl rfl (Nat.le_of_ble_eq_true rfl) dX6_netOf_132 (fun rv M' P' hp => ?_)
        obtain ⟨⟨rfl, rfl⟩, rfl⟩ := hp
        exact hret _ _ _ _ _ dX6_netOf_135 (by exact ⟨⟨rfl, rfl⟩, Or.inr ⟨k2, 5, hk2, rfl, by decide, rfl, (by show _ = if M 159 (169 + 9 * k2 + 5) = 0 then nI 0 else nI 1; rcases hI.j5 hk2 with q | q <;> rw [q] <;> rfl)⟩⟩)
      · refine x_tableIn h (71) 93 dX6_netOf_22 (by decide) (by decide) rfl (by decide) ?_
        refine x_aload_n h 0 dX6_netOf_93 rfl rfl ?_
        refine x_iload_n h 1 dX6_netOf_94 rfl rfl ?_
        refine x_callV h (As := [.int (nI k2)]) 1 hx (c_X6_wireMany (by omega)) gX6_netOf_X6_wireMany rfl ⟨rfl, rfl⟩ (by decide +kernel) rfl (by decide) (by decide) E_158 rfl rfl (Nat.le_of_ble_eq_true rfl) dX6_netOf_95 (fun rv M' P' hp => ?_)
        obtain ⟨⟨rfl, rfl⟩, rfl⟩ := hp
        exact hret _ _ _ _ _ dX6_netOf_98 (by exact ⟨⟨rfl, rfl⟩, Or.inr ⟨k2, 6, hk2, rfl, by decide, rfl, rfl⟩⟩)
      · refine x_tableIn h (77) 99 dX6_netOf_22 (by decide) (by decide) rfl (by decide) ?_
        refine x_aload_n h 0 dX6_netOf_99 rfl rfl ?_
        refine x_iload_n h 1 dX6_netOf_100 rfl rfl ?_
        refine x_callV h (As := [.int (nI k2)]) 1 hx (c_X6_viaMany (by omega)) gX6_netOf_X6_viaMany rfl ⟨rfl, rfl⟩ (by decide +kernel) rfl (by decide) (by decide) E_158 rfl rfl (Nat.le_of_ble_eq_true rfl) dX6_netOf_101 (fun rv M' P' hp => ?_)
        obtain ⟨⟨rfl, rfl⟩, rfl⟩ := hp
        exact hret _ _ _ _ _ dX6_netOf_104 (by exact ⟨⟨rfl, rfl⟩, Or.inr ⟨k2, 7, hk2, rfl, by decide, rfl, rfl⟩⟩)
      · refine x_tableIn h (83) 105 dX6_netOf_22 (by decide) (by decide) rfl (by decide) ?_
        refine x_aload_n h 0 dX6_netOf_105 rfl rfl ?_
        refine x_iload_n h 1 dX6_netOf_106 rfl rfl ?_
        refine x_bipush h (nI 6) dX6_netOf_107 (by decide) ?_
        refine x_callV h (As := [.int (nI k2), .int (nI 6)]) 2 hx (c_X6_of (by omega) (by decide)) gX6_netOf_X6_of rfl ⟨rfl, rfl⟩ (by decide +kernel) rfl (by decide) (by decide) E_158 rfl rfl (Nat.le_of_ble_eq_true rfl) dX6_netOf_109 (fun rv M' P' hp => ?_)
        obtain ⟨⟨rfl, rfl⟩, rfl⟩ := hp
        exact hret _ _ _ _ _ dX6_netOf_112 (by exact ⟨⟨rfl, rfl⟩, Or.inr ⟨k2, 8, hk2, rfl, by decide, rfl, rfl⟩⟩)
      · refine x_tableIn h (91) 113 dX6_netOf_22 (by decide) (by decide) rfl (by decide) ?_
        refine x_aload_n h 0 dX6_netOf_113 rfl rfl ?_
        refine x_iload_n h 1 dX6_netOf_114 rfl rfl ?_
        refine x_bipush h (nI 7) dX6_netOf_115 (by decide) ?_
        refine x_callV h (As := [.int (nI k2), .int (nI 7)]) 2 hx (c_X6_of (by omega) (by decide)) gX6_netOf_X6_of rfl ⟨rfl, rfl⟩ (by decide +kernel) rfl (by decide) (by decide) E_158 rfl rfl (Nat.le_of_ble_eq_true rfl) dX6_netOf_117 (fun rv M' P' hp => ?_)
        obtain ⟨⟨rfl, rfl⟩, rfl⟩ := hp
        exact hret _ _ _ _ _ dX6_netOf_120 (by exact ⟨⟨rfl, rfl⟩, Or.inr ⟨k2, 9, hk2, rfl, by decide, rfl, rfl⟩⟩)
      · refine x_tableIn h (99) 121 dX6_netOf_22 (by decide) (by decide) rfl (by decide) ?_
        refine x_aload_n h 0 dX6_netOf_121 rfl rfl ?_
        refine x_iload_n h 1 dX6_netOf_122 rfl rfl ?_
        refine x_bipush h (nI 8) dX6_netOf_123 (by decide) ?_
        refine x_callV h (As := [.int (nI k2), .int (nI 8)]) 2 hx (c_X6_of (by omega) (by decide)) gX6_netOf_X6_of rfl ⟨rfl, rfl⟩ (by decide +kernel) rfl (by decide) (by decide) E_158 rfl rfl (Nat.le_of_ble_eq_true rfl) dX6_netOf_125 (fun rv M' P' hp => ?_)
        obtain ⟨⟨rfl, rfl⟩, rfl⟩ := hp
        exact hret _ _ _ _ _ dX6_netOf_128 (by exact ⟨⟨rfl, rfl⟩, Or.inr ⟨k2, 10, hk2, rfl, by decide, rfl, rfl⟩⟩)
    · -- out
      have nk12 := fun q => in12 ((InR_in2 (N := 10) (by omega)).mpr q)
      refine x_if_ne h 21 dX6_netOf_15 (by decide) (fun c => absurd c (by decide)) (fun _ => ?_)
      refine x_ldc h ((-1000001)) (by decide +kernel) dX6_netOf_18 ?_
      exact hret _ _ _ _ _ dX6_netOf_20 (by exact ⟨⟨rfl, rfl⟩, Or.inl ⟨fun q => (by first | exact nk2 q.1 | exact nk12 q.2), rfl⟩⟩)
  · -- call 2
    refine x_if_eq h 18 dX6_netOf_5 (by decide) (fun _ => ?_) (fun c => absurd (by decide) c)
    refine x_ldc h ((-1000001)) (by decide +kernel) dX6_netOf_18 ?_
    exact hret _ _ _ _ _ dX6_netOf_20 (by exact ⟨⟨rfl, rfl⟩, Or.inl ⟨fun q => (by first | exact nk2 q.1 | exact nk12 q.2), rfl⟩⟩)

set_option maxRecDepth 20000 in
theorem ggX6_cellOf_X6_in : GoodIn wsX6_cellOf wsX6_in := goodIn_r _ [7] (by decide +kernel) (by decide +kernel)
set_option maxRecDepth 20000 in
theorem gX6_cellOf_X6_in : GoodIn wsX6_cellOf (va_wsS RX6 38 yX6_in wsX6_in) := goodIn_app (goodIn_of _ (by decide +kernel)) ggX6_cellOf_X6_in
theorem dX6_cellOf_0 : decode cX6_cellOf 0 = .ok (.iload_n 1, 1) := by decide +kernel
theorem dX6_cellOf_1 : decode cX6_cellOf 1 = .ok (.iconst 0, 1) := by decide +kernel
theorem dX6_cellOf_2 : decode cX6_cellOf 2 = .ok (.sipush 161, 3) := by decide +kernel
theorem dX6_cellOf_5 : decode cX6_cellOf 5 = .ok (.invokestatic 38, 3) := by decide +kernel
theorem dX6_cellOf_8 : decode cX6_cellOf 8 = .ok (.ifCond .ne 6, 3) := by decide +kernel
theorem dX6_cellOf_11 : decode cX6_cellOf 11 = .ok (.ldc 61, 2) := by decide +kernel
theorem dX6_cellOf_13 : decode cX6_cellOf 13 = .ok (.ireturn, 1) := by decide +kernel
theorem dX6_cellOf_14 : decode cX6_cellOf 14 = .ok (.aload_n 0, 1) := by decide +kernel
theorem dX6_cellOf_15 : decode cX6_cellOf 15 = .ok (.getfield 7, 3) := by decide +kernel
theorem dX6_cellOf_18 : decode cX6_cellOf 18 = .ok (.bipush 7, 2) := by decide +kernel
theorem dX6_cellOf_20 : decode cX6_cellOf 20 = .ok (.iload_n 1, 1) := by decide +kernel
theorem dX6_cellOf_21 : decode cX6_cellOf 21 = .ok (.iadd, 1) := by decide +kernel
theorem dX6_cellOf_22 : decode cX6_cellOf 22 = .ok (.iaload, 1) := by decide +kernel
theorem dX6_cellOf_23 : decode cX6_cellOf 23 = .ok (.istore_n 2, 1) := by decide +kernel
theorem dX6_cellOf_24 : decode cX6_cellOf 24 = .ok (.iload_n 2, 1) := by decide +kernel
theorem dX6_cellOf_25 : decode cX6_cellOf 25 = .ok (.ifCond .ne 8, 3) := by decide +kernel
theorem dX6_cellOf_28 : decode cX6_cellOf 28 = .ok (.ldc 85, 2) := by decide +kernel
theorem dX6_cellOf_30 : decode cX6_cellOf 30 = .ok (.goto 17, 3) := by decide +kernel
theorem dX6_cellOf_33 : decode cX6_cellOf 33 = .ok (.iload_n 2, 1) := by decide +kernel
theorem dX6_cellOf_34 : decode cX6_cellOf 34 = .ok (.bipush 20, 2) := by decide +kernel
theorem dX6_cellOf_36 : decode cX6_cellOf 36 = .ok (.if_icmp .ne 8, 3) := by decide +kernel
theorem dX6_cellOf_39 : decode cX6_cellOf 39 = .ok (.bipush 20, 2) := by decide +kernel
theorem dX6_cellOf_41 : decode cX6_cellOf 41 = .ok (.goto 6, 3) := by decide +kernel
theorem dX6_cellOf_44 : decode cX6_cellOf 44 = .ok (.iload_n 2, 1) := by decide +kernel
theorem dX6_cellOf_45 : decode cX6_cellOf 45 = .ok (.iconst 1, 1) := by decide +kernel
theorem dX6_cellOf_46 : decode cX6_cellOf 46 = .ok (.isub, 1) := by decide +kernel
theorem dX6_cellOf_47 : decode cX6_cellOf 47 = .ok (.ireturn, 1) := by decide +kernel
abbrev rmX6_cellOf : Room := { frames := 1, cells := 0, slots := 0, locals := 22 }
set_option maxRecDepth 20000 in
theorem in_X6_cellOf_X6 : ∀ w ∈ wsX60, w ∈ wsX6_cellOf := by decide +kernel

set_option maxRecDepth 100000 in
set_option maxHeartbeats 4000000 in
theorem c_X6_cellOf {l : Launch} {g : Geo} {M : Nat → Nat → Int32} {P : Nat → Nat} {a : Int32} : Met l yX6_cellOf wsX6_cellOf rmX6_cellOf (cPre g [.ref (g.1 158), .int a] M P) (cQi g (fun r M' P' => (P = P' ∧ M = M') ∧ clQ (M 159) a r)) 0 0 (gA g) := by
  refine met_i (cc := cX6_cellOf) (maxL := 3) (by decide) rfl ⟨rfl, rfl⟩ (Nat.le_of_ble_eq_true rfl) (fun x hx h hret => ?_)
  replace h : Cxk x g cX6_cellOf 3 wsX6_cellOf RX6 rmX6_cellOf := h
  show X x 0 [(0, .ref (g.1 158)), (1, .int a)] [] M P
  refine x_iload_n h 1 dX6_cellOf_0 rfl rfl ?_
  refine x_iconst h (nI 0) dX6_cellOf_1 (by decide) ?_
  refine x_sipush h (nI 161) dX6_cellOf_2 (by decide) ?_
  refine x_callS h (As := [.int a, .int (nI 0), .int (nI 161)]) 3 hx (c_X6_in) gX6_cellOf_X6_in rfl ⟨rfl, rfl⟩ (by decide +kernel) rfl (by decide) (Nat.le_of_ble_eq_true rfl) dX6_cellOf_5 (fun rv M' P' hp => ?_)
  obtain ⟨⟨rfl, rfl⟩, hp⟩ := hp
  rcases hp with ⟨iy5, rfl⟩ | ⟨in5, rfl⟩
  · -- in
    obtain ⟨k5, hk5, rfl⟩ := (InR_in2 (N := 161) (by omega)).mp iy5
    refine x_if_ne h 14 dX6_cellOf_8 (by decide) (fun _ => ?_) (fun c => absurd c (by decide))
    refine x_aload_n h 0 dX6_cellOf_14 rfl rfl ?_
    refine xg_X6_0 h in_X6_cellOf_X6 (by decide +kernel) dX6_cellOf_15 ?_
    refine x_bipush h (nI 7) dX6_cellOf_18 (by decide) ?_
    refine x_iload_n h 1 dX6_cellOf_20 rfl rfl ?_
    refine x_iadd_n h dX6_cellOf_21 ?_
    refine xl_159 h dX6_cellOf_22 (by omega) ?_
    refine x_istore_n h [(2, .int (M 159 (7 + k5))), (0, .ref (g.1 158)), (1, .int (nI k5))] dX6_cellOf_23 rfl (by decide) rfl ?_
    refine x_iload_n h 0 dX6_cellOf_24 rfl rfl ?_
    refine x_if_ne h 33 dX6_cellOf_25 (by decide) (fun c_25 => ?_) (fun c_25 => ?_)
    · -- 25 true
      refine x_iload_n h 0 dX6_cellOf_33 rfl rfl ?_
      refine x_bipush h (nI 20) dX6_cellOf_34 (by decide) ?_
      refine x_icmp_ne h 44 dX6_cellOf_36 (by decide) (fun c_36 => ?_) (fun c_36 => ?_)
      · -- 36 true
        refine x_iload_n h 0 dX6_cellOf_44 rfl rfl ?_
        refine x_iconst h (nI 1) dX6_cellOf_45 (by decide) ?_
        refine x_isub h dX6_cellOf_46 ?_
        exact hret _ _ _ _ _ dX6_cellOf_47 (by exact ⟨⟨rfl, rfl⟩, Or.inr ⟨k5, by omega, rfl, by first | exact (if_pos c_25).symm | exact ((if_neg (show ¬ M 159 (7 + k5) = nI 0 from c_25)).trans (if_pos c_36)).symm | exact ((if_neg (show ¬ M 159 (7 + k5) = nI 0 from c_25)).trans (if_neg c_36)).symm⟩⟩)
      · -- 36 false
        refine x_bipush h (nI 20) dX6_cellOf_39 (by decide) ?_
        refine x_goto h 47 dX6_cellOf_41 (by decide) ?_
        exact hret _ _ _ _ _ dX6_cellOf_47 (by exact ⟨⟨rfl, rfl⟩, Or.inr ⟨k5, by omega, rfl, by first | exact (if_pos c_25).symm | exact ((if_neg (show ¬ M 159 (7 + k5) = nI 0 from c_25)).trans (if_pos c_36)).symm | exact ((if_neg (show ¬ M 159 (7 + k5) = nI 0 from c_25)).trans (if_neg c_36)).symm⟩⟩)
    · -- 25 false
      refine x_ldc h ((-1000004)) (by decide +kernel) dX6_cellOf_28 ?_
      refine x_goto h 47 dX6_cellOf_30 (by decide) ?_
      exact hret _ _ _ _ _ dX6_cellOf_47 (by exact ⟨⟨rfl, rfl⟩, Or.inr ⟨k5, by omega, rfl, by first | exact (if_pos c_25).symm | exact ((if_neg (show ¬ M 159 (7 + k5) = nI 0 from c_25)).trans (if_pos c_36)).symm | exact ((if_neg (show ¬ M 159 (7 + k5) = nI 0 from c_25)).trans (if_neg c_36)).symm⟩⟩)
  · -- out
    have nk5 := fun q => in5 ((InR_in2 (N := 161) (by omega)).mpr q)
    refine x_if_ne h 14 dX6_cellOf_8 (by decide) (fun c => absurd c (by decide)) (fun _ => ?_)
    refine x_ldc h ((-1000001)) (by decide +kernel) dX6_cellOf_11 ?_
    exact hret _ _ _ _ _ dX6_cellOf_13 (by exact ⟨⟨rfl, rfl⟩, Or.inl ⟨nk5, rfl⟩⟩)

set_option maxRecDepth 20000 in
theorem ggX6_wireAt_X6_isNet : GoodIn wsX6_wireAt wsX6_isNet := goodIn_r _ [8, 2, 9, 10, 7, 11, 12, 13, 14, 15, 16, 17, 18, 19, 20, 21, 22, 23, 24, 25, 26, 27, 28, 29, 30] (by decide +kernel) (by decide +kernel)
set_option maxRecDepth 20000 in
theorem gX6_wireAt_X6_isNet : GoodIn wsX6_wireAt (wsV RX6 77 RX6 yX6_isNet wsX6_isNet) := goodIn_app (goodIn_of _ (by decide +kernel)) ggX6_wireAt_X6_isNet
theorem dX6_wireAt_0 : decode cX6_wireAt 0 = .ok (.aload_n 0, 1) := by decide +kernel
theorem dX6_wireAt_1 : decode cX6_wireAt 1 = .ok (.iload_n 1, 1) := by decide +kernel
theorem dX6_wireAt_2 : decode cX6_wireAt 2 = .ok (.invokevirtual 77, 3) := by decide +kernel
theorem dX6_wireAt_5 : decode cX6_wireAt 5 = .ok (.ifCond .eq 7, 3) := by decide +kernel
theorem dX6_wireAt_8 : decode cX6_wireAt 8 = .ok (.iload_n 2, 1) := by decide +kernel
theorem dX6_wireAt_9 : decode cX6_wireAt 9 = .ok (.ifCond .ge 6, 3) := by decide +kernel
theorem dX6_wireAt_12 : decode cX6_wireAt 12 = .ok (.ldc 61, 2) := by decide +kernel
theorem dX6_wireAt_14 : decode cX6_wireAt 14 = .ok (.ireturn, 1) := by decide +kernel
theorem dX6_wireAt_15 : decode cX6_wireAt 15 = .ok (.iload_n 2, 1) := by decide +kernel
theorem dX6_wireAt_16 : decode cX6_wireAt 16 = .ok (.istore_n 3, 1) := by decide +kernel
theorem dX6_wireAt_17 : decode cX6_wireAt 17 = .ok (.iconst 0, 1) := by decide +kernel
theorem dX6_wireAt_18 : decode cX6_wireAt 18 = .ok (.istore 4, 2) := by decide +kernel
theorem dX6_wireAt_20 : decode cX6_wireAt 20 = .ok (.iload 4, 2) := by decide +kernel
theorem dX6_wireAt_22 : decode cX6_wireAt 22 = .ok (.sipush 162, 3) := by decide +kernel
theorem dX6_wireAt_25 : decode cX6_wireAt 25 = .ok (.if_icmp .ge 35, 3) := by decide +kernel
theorem dX6_wireAt_28 : decode cX6_wireAt 28 = .ok (.aload_n 0, 1) := by decide +kernel
theorem dX6_wireAt_29 : decode cX6_wireAt 29 = .ok (.getfield 7, 3) := by decide +kernel
theorem dX6_wireAt_32 : decode cX6_wireAt 32 = .ok (.bipush 7, 2) := by decide +kernel
theorem dX6_wireAt_34 : decode cX6_wireAt 34 = .ok (.iload 4, 2) := by decide +kernel
theorem dX6_wireAt_36 : decode cX6_wireAt 36 = .ok (.iadd, 1) := by decide +kernel
theorem dX6_wireAt_37 : decode cX6_wireAt 37 = .ok (.iaload, 1) := by decide +kernel
theorem dX6_wireAt_38 : decode cX6_wireAt 38 = .ok (.iconst 1, 1) := by decide +kernel
theorem dX6_wireAt_39 : decode cX6_wireAt 39 = .ok (.iload_n 1, 1) := by decide +kernel
theorem dX6_wireAt_40 : decode cX6_wireAt 40 = .ok (.iadd, 1) := by decide +kernel
theorem dX6_wireAt_41 : decode cX6_wireAt 41 = .ok (.if_icmp .ne 13, 3) := by decide +kernel
theorem dX6_wireAt_44 : decode cX6_wireAt 44 = .ok (.iload_n 3, 1) := by decide +kernel
theorem dX6_wireAt_45 : decode cX6_wireAt 45 = .ok (.ifCond .ne 6, 3) := by decide +kernel
theorem dX6_wireAt_48 : decode cX6_wireAt 48 = .ok (.iload 4, 2) := by decide +kernel
theorem dX6_wireAt_50 : decode cX6_wireAt 50 = .ok (.ireturn, 1) := by decide +kernel
theorem dX6_wireAt_51 : decode cX6_wireAt 51 = .ok (.iinc 3 (-1), 3) := by decide +kernel
theorem dX6_wireAt_54 : decode cX6_wireAt 54 = .ok (.iinc 4 1, 3) := by decide +kernel
theorem dX6_wireAt_57 : decode cX6_wireAt 57 = .ok (.goto (-37), 3) := by decide +kernel
theorem dX6_wireAt_60 : decode cX6_wireAt 60 = .ok (.ldc 85, 2) := by decide +kernel
theorem dX6_wireAt_62 : decode cX6_wireAt 62 = .ok (.ireturn, 1) := by decide +kernel
abbrev rmX6_wireAt : Room := { frames := 2, cells := 0, slots := 0, locals := 43 }
set_option maxRecDepth 20000 in
theorem in_X6_wireAt_X6 : ∀ w ∈ wsX60, w ∈ wsX6_wireAt := by decide +kernel

set_option maxRecDepth 100000 in
set_option maxHeartbeats 4000000 in
theorem c_X6_wireAt {l : Launch} {g : Geo} {M : Nat → Nat → Int32} {P : Nat → Nat} {N K B : Nat} (hI : InvX eM (M 159) N K B) {n a : Int32} : Met l yX6_wireAt wsX6_wireAt rmX6_wireAt (cPre g [.ref (g.1 158), .int n, .int a] M P) (cQi g (fun r M' P' => (P = P' ∧ M = M') ∧ ((¬ (InR N n ∧ ¬ a < 0) ∧ r = -1000001) ∨ ∃ k j, k < N ∧ n = nI k ∧ j < 2 ^ 31 ∧ a = nI j ∧ r = (match fnd (waP (M 159) (nI (1 + k)) j) 162 with | some a => nI a | none => -1000004)))) 0 0 (gA g) := by
  refine met_i (cc := cX6_wireAt) (maxL := 5) (by decide) rfl ⟨rfl, rfl⟩ (Nat.le_of_ble_eq_true rfl) (fun x hx h hret => ?_)
  replace h : Cxk x g cX6_wireAt 5 wsX6_wireAt RX6 rmX6_wireAt := h
  show X x 0 [(0, .ref (g.1 158)), (1, .int n), (2, .int a)] [] M P
  have hN := hI.1.1
  have hN6 := hI.1.2.1
  have hK := hI.1.2.2.1
  have hK12 := hI.1.2.2.2.1
  refine x_aload_n h 0 dX6_wireAt_0 rfl rfl ?_
  refine x_iload_n h 1 dX6_wireAt_1 rfl rfl ?_
  refine x_callV h (As := [.int n]) 1 hx (c_X6_isNet hI) gX6_wireAt_X6_isNet rfl ⟨rfl, rfl⟩ (by decide +kernel) rfl (by decide) (by decide) E_158 rfl rfl (Nat.le_of_ble_eq_true rfl) dX6_wireAt_2 (fun rv M' P' hp => ?_)
  obtain ⟨⟨rfl, rfl⟩, hp⟩ := hp
  rcases hp with ⟨⟨k2, hk2, rfl⟩, rfl⟩ | ⟨nk2, rfl⟩
  · -- call 2
    refine x_if_eq h 12 dX6_wireAt_5 (by decide) (fun c => absurd c (by decide)) (fun _ => ?_)
    refine x_iload_n h 2 dX6_wireAt_8 rfl rfl ?_
    refine x_if_ge h 15 dX6_wireAt_9 (by decide) (fun c_9 => ?_) (fun c_9 => ?_)
    · -- 9 true
      obtain ⟨ix, hix, rfl⟩ := nI_of (x := a) (Int32.not_lt.mpr c_9)
      refine x_iload_n h 2 dX6_wireAt_15 rfl rfl ?_
      refine x_istore_n h [(3, .int (nI ix)), (0, .ref (g.1 158)), (1, .int (nI k2)), (2, .int (nI ix))] dX6_wireAt_16 rfl (by decide) rfl ?_
      refine x_iconst h (nI 0) dX6_wireAt_17 (by decide) ?_
      refine x_istore h [(4, .int (nI 0)), (3, .int (nI ix)), (0, .ref (g.1 158)), (1, .int (nI k2)), (2, .int (nI ix))] dX6_wireAt_18 (by decide) rfl ?_
      have L20 : ∀ (fu : Nat) (i : Nat) (q : Nat), (162 - i) < fu → (i ≤ 162) → (cnt (fun b => decide (M 159 (7 + b) = nI (1 + k2))) i + q = ix) → (∀ j, j < i → waP (M 159) (nI (1 + k2)) ix j = false) → X x 20 [(0, .ref (g.1 158)), (1, .int (nI k2)), (3, .int (nI q)), (4, .int (nI i))] [] M P := by
        intro fu
        induction fu with
        | zero => intro i q hmu20; exact absurd hmu20 (Nat.not_lt_zero _)
        | succ fu ih20 =>
          intro i q hmu20 hi hq hno
          refine x_iload h 3 dX6_wireAt_20 rfl ?_
          refine x_sipush h (nI 162) dX6_wireAt_22 (by decide) ?_
          refine x_icmp_ge_n h 60 dX6_wireAt_25 (by decide) (by omega) (by decide) (fun c_25 => ?_) (fun c_25 => ?_)
          · -- 25 true
            refine x_ldc h ((-1000004)) (by decide +kernel) dX6_wireAt_60 ?_
            exact hret _ _ _ _ _ dX6_wireAt_62 (by refine ⟨⟨rfl, rfl⟩, Or.inr ⟨k2, ix, hk2, rfl, hix, rfl, ?_⟩⟩; obtain rfl : i = 162 := (by omega); rw [fnd_none hno])
          · -- 25 false
            refine x_aload_n h 0 dX6_wireAt_28 rfl rfl ?_
            refine xg_X6_0 h in_X6_wireAt_X6 (by decide +kernel) dX6_wireAt_29 ?_
            refine x_bipush h (nI 7) dX6_wireAt_32 (by decide) ?_
            refine x_iload h 3 dX6_wireAt_34 rfl ?_
            refine x_iadd_n h dX6_wireAt_36 ?_
            refine xl_159 h dX6_wireAt_37 (by omega) ?_
            refine x_iconst h (nI 1) dX6_wireAt_38 (by decide) ?_
            refine x_iload_n h 1 dX6_wireAt_39 rfl rfl ?_
            refine x_iadd_n h dX6_wireAt_40 ?_
            refine x_icmp_ne h 54 dX6_wireAt_41 (by decide) (fun c_41 => ?_) (fun c_41 => ?_)
            · -- 41 true
              refine x_iinc_n h 3 (n := 1) [(4, .int (nI (i + 1))), (0, .ref (g.1 158)), (1, .int (nI k2)), (3, .int (nI q))] dX6_wireAt_54 rfl (by decide) rfl ?_
              refine x_goto h 20 dX6_wireAt_57 (by decide) ?_
              exact x_lv (ih20 (i + 1) q (by omega) (by omega) (by first | (rw [cnt_s (p := fun b => decide (M 159 (7 + b) = nI (1 + k2))) (decide_eq_true c_41)]; omega) | (rw [cnt_n (p := fun b => decide (M 159 (7 + b) = nI (1 + k2))) (decide_eq_false c_41)]; omega)) (by (intro j hj; rcases Nat.lt_succ_iff_lt_or_eq.mp hj with e | rfl; exact hno j e; refine decide_eq_false ?_; rintro ⟨e1, e2⟩; first | exact c_41 e1 | omega))) [1, 2, 3, 0] rfl
            · -- 41 false
              refine x_iload_n h 2 dX6_wireAt_44 rfl rfl ?_
              refine x_if_ne_n h 51 dX6_wireAt_45 (by decide) (by omega) (fun c_45 => ?_) (fun c_45 => ?_)
              · -- 45 true
                refine x_iinc h 2 (v := nI (q - 1)) [(3, .int (nI (q - 1))), (0, .ref (g.1 158)), (1, .int (nI k2)), (4, .int (nI i))] dX6_wireAt_51 rfl (dec_n (by omega)) (by decide) rfl ?_
                refine x_iinc_n h 3 (n := 1) [(4, .int (nI (i + 1))), (3, .int (nI (q - 1))), (0, .ref (g.1 158)), (1, .int (nI k2))] dX6_wireAt_54 rfl (by decide) rfl ?_
                refine x_goto h 20 dX6_wireAt_57 (by decide) ?_
                exact x_lv (ih20 (i + 1) (q - 1) (by omega) (by omega) (by first | (rw [cnt_s (p := fun b => decide (M 159 (7 + b) = nI (1 + k2))) (decide_eq_true c_41)]; omega) | (rw [cnt_n (p := fun b => decide (M 159 (7 + b) = nI (1 + k2))) (decide_eq_false c_41)]; omega)) (by (intro j hj; rcases Nat.lt_succ_iff_lt_or_eq.mp hj with e | rfl; exact hno j e; refine decide_eq_false ?_; rintro ⟨e1, e2⟩; first | exact c_41 e1 | omega))) [2, 3, 1, 0] rfl
              · -- 45 false
                refine x_iload h 3 dX6_wireAt_48 rfl ?_
                exact hret _ _ _ _ _ dX6_wireAt_50 (by refine ⟨⟨rfl, rfl⟩, Or.inr ⟨k2, ix, hk2, rfl, hix, rfl, ?_⟩⟩; rw [fnd_some (i := i) (by omega) (decide_eq_true ⟨c_41, by omega⟩) hno])
      exact x_lv (L20 _ 0 ix (Nat.lt_succ_self _) (by omega) (by exact Nat.zero_add ix) (by exact fun j hj => absurd hj (Nat.not_lt_zero j))) [2, 3, 1, 0] rfl
    · -- 9 false
      refine x_ldc h ((-1000001)) (by decide +kernel) dX6_wireAt_12 ?_
      exact hret _ _ _ _ _ dX6_wireAt_14 (by exact ⟨⟨rfl, rfl⟩, Or.inl ⟨fun q => (by first | exact nk2 q.1 | exact q.2 (Int32.not_le.mp c_9)), rfl⟩⟩)
  · -- call 2
    refine x_if_eq h 12 dX6_wireAt_5 (by decide) (fun _ => ?_) (fun c => absurd (by decide) c)
    refine x_ldc h ((-1000001)) (by decide +kernel) dX6_wireAt_12 ?_
    exact hret _ _ _ _ _ dX6_wireAt_14 (by exact ⟨⟨rfl, rfl⟩, Or.inl ⟨fun q => (by first | exact nk2 q.1 | exact q.2 (Int32.not_le.mp c_9)), rfl⟩⟩)

set_option maxRecDepth 20000 in
theorem ggX6_docketAt_X6_heard : GoodIn wsX6_docketAt wsX6_heard := goodIn_r _ [6, 7, 8, 9, 10, 11, 5, 12, 13, 14, 15, 16, 17, 18, 19, 20, 21, 22, 23, 24, 25, 26, 27, 28, 29, 30, 31, 32, 33, 34, 35] (by decide +kernel) (by decide +kernel)
set_option maxRecDepth 20000 in
theorem gX6_docketAt_X6_heard : GoodIn wsX6_docketAt (wsV RX6 189 RX6 yX6_heard wsX6_heard) := goodIn_app (goodIn_of _ (by decide +kernel)) ggX6_docketAt_X6_heard
theorem dX6_docketAt_0 : decode cX6_docketAt 0 = .ok (.iload_n 1, 1) := by decide +kernel
theorem dX6_docketAt_1 : decode cX6_docketAt 1 = .ok (.ifCond .ge 8, 3) := by decide +kernel
theorem dX6_docketAt_4 : decode cX6_docketAt 4 = .ok (.ldc 61, 2) := by decide +kernel
theorem dX6_docketAt_6 : decode cX6_docketAt 6 = .ok (.goto 8, 3) := by decide +kernel
theorem dX6_docketAt_9 : decode cX6_docketAt 9 = .ok (.aload_n 0, 1) := by decide +kernel
theorem dX6_docketAt_10 : decode cX6_docketAt 10 = .ok (.iload_n 1, 1) := by decide +kernel
theorem dX6_docketAt_11 : decode cX6_docketAt 11 = .ok (.invokevirtual 189, 3) := by decide +kernel
theorem dX6_docketAt_14 : decode cX6_docketAt 14 = .ok (.ireturn, 1) := by decide +kernel
abbrev rmX6_docketAt : Room := { frames := 3, cells := 0, slots := 0, locals := 68 }

set_option maxRecDepth 100000 in
set_option maxHeartbeats 4000000 in
theorem c_X6_docketAt {l : Launch} {g : Geo} {M : Nat → Nat → Int32} {P : Nat → Nat} {N K B : Nat} (hI : InvX eM (M 159) N K B) {a : Int32} : Met l yX6_docketAt wsX6_docketAt rmX6_docketAt (cPre g [.ref (g.1 158), .int a] M P) (cQi g (fun r M' P' => (P = P' ∧ M = M') ∧ ((a < 0 ∧ r = -1000001) ∨ (¬ a < 0 ∧ r = (match hd1 (M 159) K a with | some i => nI i | none => -1000004))))) 0 0 (gA g) := by
  refine met_i (cc := cX6_docketAt) (maxL := 2) (by decide) rfl ⟨rfl, rfl⟩ (Nat.le_of_ble_eq_true rfl) (fun x hx h hret => ?_)
  replace h : Cxk x g cX6_docketAt 2 wsX6_docketAt RX6 rmX6_docketAt := h
  show X x 0 [(0, .ref (g.1 158)), (1, .int a)] [] M P
  refine x_iload_n h 1 dX6_docketAt_0 rfl rfl ?_
  refine x_if_ge h 9 dX6_docketAt_1 (by decide) (fun c_1 => ?_) (fun c_1 => ?_)
  · -- 1 true
    refine x_aload_n h 0 dX6_docketAt_9 rfl rfl ?_
    refine x_iload_n h 1 dX6_docketAt_10 rfl rfl ?_
    refine x_callV h (As := [.int a]) 1 hx (c_X6_heard hI) gX6_docketAt_X6_heard rfl ⟨rfl, rfl⟩ (by decide +kernel) rfl (by decide) (by decide) E_158 rfl rfl (Nat.le_of_ble_eq_true rfl) dX6_docketAt_11 (fun rv M' P' hp => ?_)
    obtain ⟨⟨rfl, rfl⟩, hQ⟩ := hp
    exact hret _ _ _ _ _ dX6_docketAt_14 (by exact ⟨⟨rfl, rfl⟩, Or.inr ⟨by first | exact c_1 | exact Int32.not_lt.mpr c_1, hQ⟩⟩)
  · -- 1 false
    refine x_ldc h ((-1000001)) (by decide +kernel) dX6_docketAt_4 ?_
    refine x_goto h 14 dX6_docketAt_6 (by decide) ?_
    exact hret _ _ _ _ _ dX6_docketAt_14 (by exact ⟨⟨rfl, rfl⟩, Or.inl ⟨by first | exact c_1 | exact Int32.not_le.mp c_1, rfl⟩⟩)

set_option maxRecDepth 20000 in
theorem ggX6_claimOf_X6_isClaim : GoodIn wsX6_claimOf wsX6_isClaim := goodIn_r _ [6, 7, 8, 9, 5, 10, 23, 24, 25, 26, 27, 28, 29, 30, 31, 32, 33, 34, 35, 36, 37, 38, 39, 40, 41] (by decide +kernel) (by decide +kernel)
set_option maxRecDepth 20000 in
theorem gX6_claimOf_X6_isClaim : GoodIn wsX6_claimOf (wsV RX6 171 RX6 yX6_isClaim wsX6_isClaim) := goodIn_app (goodIn_of _ (by decide +kernel)) ggX6_claimOf_X6_isClaim
set_option maxRecDepth 20000 in
theorem ggX6_claimOf_X6_in : GoodIn wsX6_claimOf wsX6_in := goodIn_r _ [10] (by decide +kernel) (by decide +kernel)
set_option maxRecDepth 20000 in
theorem gX6_claimOf_X6_in : GoodIn wsX6_claimOf (va_wsS RX6 38 yX6_in wsX6_in) := goodIn_app (goodIn_of _ (by decide +kernel)) ggX6_claimOf_X6_in
set_option maxRecDepth 20000 in
theorem ggX6_claimOf_X6_claimAt : GoodIn wsX6_claimOf wsX6_claimAt := goodIn_r _ [14, 7, 23, 24, 25, 26, 27, 28, 29, 30, 31, 32, 33, 34, 35, 36, 37, 38, 39, 40, 41] (by decide +kernel) (by decide +kernel)
set_option maxRecDepth 20000 in
theorem gX6_claimOf_X6_claimAt : GoodIn wsX6_claimOf (wsV RX6 168 RX6 yX6_claimAt wsX6_claimAt) := goodIn_app (goodIn_of _ (by decide +kernel)) ggX6_claimOf_X6_claimAt
set_option maxRecDepth 20000 in
theorem ggX6_claimOf_X6_loss : GoodIn wsX6_claimOf wsX6_loss := goodIn_r _ [18, 7, 11, 12, 13, 5, 14, 23, 24, 25, 26, 27, 28, 29, 30, 31, 32, 33, 34, 35, 36, 37, 38, 39, 40, 41] (by decide +kernel) (by decide +kernel)
set_option maxRecDepth 20000 in
theorem gX6_claimOf_X6_loss : GoodIn wsX6_claimOf (wsV RX6 183 RX6 yX6_loss wsX6_loss) := goodIn_app (goodIn_of _ (by decide +kernel)) ggX6_claimOf_X6_loss
set_option maxRecDepth 20000 in
theorem ggX6_claimOf_X6_since : GoodIn wsX6_claimOf wsX6_since := goodIn_r _ [22, 7, 11, 12, 13, 5, 14, 23, 24, 25, 26, 27, 28, 29, 30, 31, 32, 33, 34, 35, 36, 37, 38, 39, 40, 41] (by decide +kernel) (by decide +kernel)
set_option maxRecDepth 20000 in
theorem gX6_claimOf_X6_since : GoodIn wsX6_claimOf (wsV RX6 174 RX6 yX6_since wsX6_since) := goodIn_app (goodIn_of _ (by decide +kernel)) ggX6_claimOf_X6_since
theorem dX6_claimOf_0 : decode cX6_claimOf 0 = .ok (.aload_n 0, 1) := by decide +kernel
theorem dX6_claimOf_1 : decode cX6_claimOf 1 = .ok (.iload_n 1, 1) := by decide +kernel
theorem dX6_claimOf_2 : decode cX6_claimOf 2 = .ok (.invokevirtual 171, 3) := by decide +kernel
theorem dX6_claimOf_5 : decode cX6_claimOf 5 = .ok (.ifCond .eq 13, 3) := by decide +kernel
theorem dX6_claimOf_8 : decode cX6_claimOf 8 = .ok (.iload_n 2, 1) := by decide +kernel
theorem dX6_claimOf_9 : decode cX6_claimOf 9 = .ok (.iconst 0, 1) := by decide +kernel
theorem dX6_claimOf_10 : decode cX6_claimOf 10 = .ok (.bipush 7, 2) := by decide +kernel
theorem dX6_claimOf_12 : decode cX6_claimOf 12 = .ok (.invokestatic 38, 3) := by decide +kernel
theorem dX6_claimOf_15 : decode cX6_claimOf 15 = .ok (.ifCond .ne 6, 3) := by decide +kernel
theorem dX6_claimOf_18 : decode cX6_claimOf 18 = .ok (.ldc 61, 2) := by decide +kernel
theorem dX6_claimOf_20 : decode cX6_claimOf 20 = .ok (.ireturn, 1) := by decide +kernel
theorem dX6_claimOf_21 : decode cX6_claimOf 21 = .ok (.iload_n 2, 1) := by decide +kernel
theorem dX6_claimOf_22 : decode cX6_claimOf 22 = .ok (.iconst 5, 1) := by decide +kernel
theorem dX6_claimOf_23 : decode cX6_claimOf 23 = .ok (.if_icmp .ge 12, 3) := by decide +kernel
theorem dX6_claimOf_26 : decode cX6_claimOf 26 = .ok (.aload_n 0, 1) := by decide +kernel
theorem dX6_claimOf_27 : decode cX6_claimOf 27 = .ok (.iload_n 1, 1) := by decide +kernel
theorem dX6_claimOf_28 : decode cX6_claimOf 28 = .ok (.iload_n 2, 1) := by decide +kernel
theorem dX6_claimOf_29 : decode cX6_claimOf 29 = .ok (.invokevirtual 168, 3) := by decide +kernel
theorem dX6_claimOf_32 : decode cX6_claimOf 32 = .ok (.goto 36, 3) := by decide +kernel
theorem dX6_claimOf_35 : decode cX6_claimOf 35 = .ok (.iload_n 2, 1) := by decide +kernel
theorem dX6_claimOf_36 : decode cX6_claimOf 36 = .ok (.iconst 5, 1) := by decide +kernel
theorem dX6_claimOf_37 : decode cX6_claimOf 37 = .ok (.if_icmp .ne 11, 3) := by decide +kernel
theorem dX6_claimOf_40 : decode cX6_claimOf 40 = .ok (.aload_n 0, 1) := by decide +kernel
theorem dX6_claimOf_41 : decode cX6_claimOf 41 = .ok (.iload_n 1, 1) := by decide +kernel
theorem dX6_claimOf_42 : decode cX6_claimOf 42 = .ok (.invokevirtual 183, 3) := by decide +kernel
theorem dX6_claimOf_45 : decode cX6_claimOf 45 = .ok (.goto 23, 3) := by decide +kernel
theorem dX6_claimOf_48 : decode cX6_claimOf 48 = .ok (.iload_n 2, 1) := by decide +kernel
theorem dX6_claimOf_49 : decode cX6_claimOf 49 = .ok (.bipush 6, 2) := by decide +kernel
theorem dX6_claimOf_51 : decode cX6_claimOf 51 = .ok (.if_icmp .ne 12, 3) := by decide +kernel
theorem dX6_claimOf_54 : decode cX6_claimOf 54 = .ok (.aload_n 0, 1) := by decide +kernel
theorem dX6_claimOf_55 : decode cX6_claimOf 55 = .ok (.iload_n 1, 1) := by decide +kernel
theorem dX6_claimOf_56 : decode cX6_claimOf 56 = .ok (.iconst 5, 1) := by decide +kernel
theorem dX6_claimOf_57 : decode cX6_claimOf 57 = .ok (.invokevirtual 168, 3) := by decide +kernel
theorem dX6_claimOf_60 : decode cX6_claimOf 60 = .ok (.goto 8, 3) := by decide +kernel
theorem dX6_claimOf_63 : decode cX6_claimOf 63 = .ok (.aload_n 0, 1) := by decide +kernel
theorem dX6_claimOf_64 : decode cX6_claimOf 64 = .ok (.iload_n 1, 1) := by decide +kernel
theorem dX6_claimOf_65 : decode cX6_claimOf 65 = .ok (.invokevirtual 174, 3) := by decide +kernel
theorem dX6_claimOf_68 : decode cX6_claimOf 68 = .ok (.ireturn, 1) := by decide +kernel
abbrev rmX6_claimOf : Room := { frames := 2, cells := 0, slots := 0, locals := 43 }

set_option maxRecDepth 100000 in
set_option maxHeartbeats 4000000 in
theorem c_X6_claimOf {l : Launch} {g : Geo} {M : Nat → Nat → Int32} {P : Nat → Nat} {N K B : Nat} (hI : InvX eM (M 159) N K B) {n w : Int32} : Met l yX6_claimOf wsX6_claimOf rmX6_claimOf (cPre g [.ref (g.1 158), .int n, .int w] M P) (cQi g (fun r M' P' => (P = P' ∧ M = M') ∧ ((¬ (InR K n ∧ InR 8 w) ∧ r = -1000001) ∨ ∃ i j, i < K ∧ n = nI i ∧ j < 8 ∧ w = nI j ∧ r = fClm (M 159) i j))) 0 0 (gA g) := by
  refine met_i (cc := cX6_claimOf) (maxL := 3) (by decide) rfl ⟨rfl, rfl⟩ (Nat.le_of_ble_eq_true rfl) (fun x hx h hret => ?_)
  replace h : Cxk x g cX6_claimOf 3 wsX6_claimOf RX6 rmX6_claimOf := h
  show X x 0 [(0, .ref (g.1 158)), (1, .int n), (2, .int w)] [] M P
  have hN := hI.1.1
  have hN6 := hI.1.2.1
  have hK := hI.1.2.2.1
  have hK12 := hI.1.2.2.2.1
  refine x_aload_n h 0 dX6_claimOf_0 rfl rfl ?_
  refine x_iload_n h 1 dX6_claimOf_1 rfl rfl ?_
  refine x_callV h (As := [.int n]) 1 hx (c_X6_isClaim hI) gX6_claimOf_X6_isClaim rfl ⟨rfl, rfl⟩ (by decide +kernel) rfl (by decide) (by decide) E_158 rfl rfl (Nat.le_of_ble_eq_true rfl) dX6_claimOf_2 (fun rv M' P' hp => ?_)
  obtain ⟨⟨rfl, rfl⟩, hp⟩ := hp
  rcases hp with ⟨⟨k2, hk2, rfl⟩, rfl⟩ | ⟨nk2, rfl⟩
  · -- call 2
    refine x_if_eq h 18 dX6_claimOf_5 (by decide) (fun c => absurd c (by decide)) (fun _ => ?_)
    refine x_iload_n h 2 dX6_claimOf_8 rfl rfl ?_
    refine x_iconst h (nI 0) dX6_claimOf_9 (by decide) ?_
    refine x_bipush h (nI 7) dX6_claimOf_10 (by decide) ?_
    refine x_callS h (As := [.int w, .int (nI 0), .int (nI 7)]) 3 hx (c_X6_in) gX6_claimOf_X6_in rfl ⟨rfl, rfl⟩ (by decide +kernel) rfl (by decide) (Nat.le_of_ble_eq_true rfl) dX6_claimOf_12 (fun rv M' P' hp => ?_)
    obtain ⟨⟨rfl, rfl⟩, hp⟩ := hp
    rcases hp with ⟨iy12, rfl⟩ | ⟨in12, rfl⟩
    · -- in
      obtain ⟨k12, hk12, rfl⟩ := (InR_in2 (N := 7) (by omega)).mp iy12
      refine x_if_ne h 21 dX6_claimOf_15 (by decide) (fun _ => ?_) (fun c => absurd c (by decide))
      refine x_iload_n h 2 dX6_claimOf_21 rfl rfl ?_
      refine x_iconst h (nI 5) dX6_claimOf_22 (by decide) ?_
      refine x_icmp_ge_n h 35 dX6_claimOf_23 (by decide) (by omega) (by decide) (fun c_23 => ?_) (fun c_23 => ?_)
      · -- 23 true
        refine x_iload_n h 2 dX6_claimOf_35 rfl rfl ?_
        refine x_iconst h (nI 5) dX6_claimOf_36 (by decide) ?_
        refine x_icmp_ne_n h 48 dX6_claimOf_37 (by decide) (by omega) (by decide) (fun c_37 => ?_) (fun c_37 => ?_)
        · -- 37 true
          refine x_iload_n h 2 dX6_claimOf_48 rfl rfl ?_
          refine x_bipush h (nI 6) dX6_claimOf_49 (by decide) ?_
          refine x_icmp_ne_n h 63 dX6_claimOf_51 (by decide) (by omega) (by decide) (fun c_51 => ?_) (fun c_51 => ?_)
          · -- 51 true
            refine x_aload_n h 0 dX6_claimOf_63 rfl rfl ?_
            refine x_iload_n h 1 dX6_claimOf_64 rfl rfl ?_
            refine x_callV h (As := [.int (nI k2)]) 1 hx (c_X6_since (by omega)) gX6_claimOf_X6_since rfl ⟨rfl, rfl⟩ (by decide +kernel) rfl (by decide) (by decide) E_158 rfl rfl (Nat.le_of_ble_eq_true rfl) dX6_claimOf_65 (fun rv M' P' hp => ?_)
            obtain ⟨⟨rfl, rfl⟩, rfl⟩ := hp
            exact hret _ _ _ _ _ dX6_claimOf_68 (by 
                              refine ⟨⟨rfl, rfl⟩, Or.inr ⟨k2, k12, hk2, rfl, by omega, rfl, ?_⟩⟩
                              first | (rcases (show k12 = 0 ∨ k12 = 1 ∨ k12 = 2 ∨ k12 = 3 ∨ k12 = 4 by omega) with rfl | rfl | rfl | rfl | rfl <;> rfl) | (obtain rfl : k12 = 5 := (by omega); rfl) | (obtain rfl : k12 = 6 := (by omega); rfl) | (obtain rfl : k12 = 7 := (by omega); rfl))
          · -- 51 false
            refine x_aload_n h 0 dX6_claimOf_54 rfl rfl ?_
            refine x_iload_n h 1 dX6_claimOf_55 rfl rfl ?_
            refine x_iconst h (nI 5) dX6_claimOf_56 (by decide) ?_
            refine x_callV h (As := [.int (nI k2), .int (nI 5)]) 2 hx (c_X6_claimAt (by omega) (by decide)) gX6_claimOf_X6_claimAt rfl ⟨rfl, rfl⟩ (by decide +kernel) rfl (by decide) (by decide) E_158 rfl rfl (Nat.le_of_ble_eq_true rfl) dX6_claimOf_57 (fun rv M' P' hp => ?_)
            obtain ⟨⟨rfl, rfl⟩, rfl⟩ := hp
            refine x_goto h 68 dX6_claimOf_60 (by decide) ?_
            exact hret _ _ _ _ _ dX6_claimOf_68 (by 
                              refine ⟨⟨rfl, rfl⟩, Or.inr ⟨k2, k12, hk2, rfl, by omega, rfl, ?_⟩⟩
                              first | (rcases (show k12 = 0 ∨ k12 = 1 ∨ k12 = 2 ∨ k12 = 3 ∨ k12 = 4 by omega) with rfl | rfl | rfl | rfl | rfl <;> rfl) | (obtain rfl : k12 = 5 := (by omega); rfl) | (obtain rfl : k12 = 6 := (by omega); rfl) | (obtain rfl : k12 = 7 := (by omega); rfl))
        · -- 37 false
          refine x_aload_n h 0 dX6_claimOf_40 rfl rfl ?_
          refine x_iload_n h 1 dX6_claimOf_41 rfl rfl ?_
          refine x_callV h (As := [.int (nI k2)]) 1 hx (c_X6_loss (by omega)) gX6_claimOf_X6_loss rfl ⟨rfl, rfl⟩ (by decide +kernel) rfl (by decide) (by decide) E_158 rfl rfl (Nat.le_of_ble_eq_true rfl) dX6_claimOf_42 (fun rv M' P' hp => ?_)
          obtain ⟨⟨rfl, rfl⟩, rfl⟩ := hp
          refine x_goto h 68 dX6_claimOf_45 (by decide) ?_
          exact hret _ _ _ _ _ dX6_claimOf_68 (by 
                          refine ⟨⟨rfl, rfl⟩, Or.inr ⟨k2, k12, hk2, rfl, by omega, rfl, ?_⟩⟩
                          first | (rcases (show k12 = 0 ∨ k12 = 1 ∨ k12 = 2 ∨ k12 = 3 ∨ k12 = 4 by omega) with rfl | rfl | rfl | rfl | rfl <;> rfl) | (obtain rfl : k12 = 5 := (by omega); rfl) | (obtain rfl : k12 = 6 := (by omega); rfl) | (obtain rfl : k12 = 7 := (by omega); rfl))
      · -- 23 false
        refine x_aload_n h 0 dX6_claimOf_26 rfl rfl ?_
        refine x_iload_n h 1 dX6_claimOf_27 rfl rfl ?_
        refine x_iload_n h 2 dX6_claimOf_28 rfl rfl ?_
        refine x_callV h (As := [.int (nI k2), .int (nI k12)]) 2 hx (c_X6_claimAt (by omega) (by omega)) gX6_claimOf_X6_claimAt rfl ⟨rfl, rfl⟩ (by decide +kernel) rfl (by decide) (by decide) E_158 rfl rfl (Nat.le_of_ble_eq_true rfl) dX6_claimOf_29 (fun rv M' P' hp => ?_)
        obtain ⟨⟨rfl, rfl⟩, rfl⟩ := hp
        refine x_goto h 68 dX6_claimOf_32 (by decide) ?_
        exact hret _ _ _ _ _ dX6_claimOf_68 (by 
                      refine ⟨⟨rfl, rfl⟩, Or.inr ⟨k2, k12, hk2, rfl, by omega, rfl, ?_⟩⟩
                      first | (rcases (show k12 = 0 ∨ k12 = 1 ∨ k12 = 2 ∨ k12 = 3 ∨ k12 = 4 by omega) with rfl | rfl | rfl | rfl | rfl <;> rfl) | (obtain rfl : k12 = 5 := (by omega); rfl) | (obtain rfl : k12 = 6 := (by omega); rfl) | (obtain rfl : k12 = 7 := (by omega); rfl))
    · -- out
      have nk12 := fun q => in12 ((InR_in2 (N := 7) (by omega)).mpr q)
      refine x_if_ne h 21 dX6_claimOf_15 (by decide) (fun c => absurd c (by decide)) (fun _ => ?_)
      refine x_ldc h ((-1000001)) (by decide +kernel) dX6_claimOf_18 ?_
      exact hret _ _ _ _ _ dX6_claimOf_20 (by exact ⟨⟨rfl, rfl⟩, Or.inl ⟨fun q => (by first | exact nk2 q.1 | exact nk12 q.2), rfl⟩⟩)
  · -- call 2
    refine x_if_eq h 18 dX6_claimOf_5 (by decide) (fun _ => ?_) (fun c => absurd (by decide) c)
    refine x_ldc h ((-1000001)) (by decide +kernel) dX6_claimOf_18 ?_
    exact hret _ _ _ _ _ dX6_claimOf_20 (by exact ⟨⟨rfl, rfl⟩, Or.inl ⟨fun q => (by first | exact nk2 q.1 | exact nk12 q.2), rfl⟩⟩)

set_option maxRecDepth 20000 in
theorem ggX6_wronged_X6_claimAt : GoodIn wsX6_wronged wsX6_claimAt := goodIn_r _ [6, 1, 19, 20, 21, 22, 23, 24, 25, 26, 27, 28, 29, 30, 31, 32, 33, 34, 35, 36, 37] (by decide +kernel) (by decide +kernel)
set_option maxRecDepth 20000 in
theorem gX6_wronged_X6_claimAt : GoodIn wsX6_wronged (wsV RX6 168 RX6 yX6_claimAt wsX6_claimAt) := goodIn_app (goodIn_of _ (by decide +kernel)) ggX6_wronged_X6_claimAt
set_option maxRecDepth 20000 in
theorem ggX6_wronged_X6_isJoined : GoodIn wsX6_wronged wsX6_isJoined := goodIn_r _ [10, 11, 12, 13, 5, 14, 1, 19, 20, 21, 22, 23, 24, 25, 26, 27, 28, 29, 30, 31, 32, 33, 34, 35, 36, 37] (by decide +kernel) (by decide +kernel)
set_option maxRecDepth 20000 in
theorem gX6_wronged_X6_isJoined : GoodIn wsX6_wronged (wsV RX6 131 RX6 yX6_isJoined wsX6_isJoined) := goodIn_app (goodIn_of _ (by decide +kernel)) ggX6_wronged_X6_isJoined
set_option maxRecDepth 20000 in
theorem ggX6_wronged_X6_loss : GoodIn wsX6_wronged wsX6_loss := goodIn_r _ [18, 1, 2, 3, 4, 5, 6, 19, 20, 21, 22, 23, 24, 25, 26, 27, 28, 29, 30, 31, 32, 33, 34, 35, 36, 37] (by decide +kernel) (by decide +kernel)
set_option maxRecDepth 20000 in
theorem gX6_wronged_X6_loss : GoodIn wsX6_wronged (wsV RX6 183 RX6 yX6_loss wsX6_loss) := goodIn_app (goodIn_of _ (by decide +kernel)) ggX6_wronged_X6_loss
theorem dX6_wronged_0 : decode cX6_wronged 0 = .ok (.iconst 0, 1) := by decide +kernel
theorem dX6_wronged_1 : decode cX6_wronged 1 = .ok (.istore_n 1, 1) := by decide +kernel
theorem dX6_wronged_2 : decode cX6_wronged 2 = .ok (.iconst 0, 1) := by decide +kernel
theorem dX6_wronged_3 : decode cX6_wronged 3 = .ok (.istore_n 2, 1) := by decide +kernel
theorem dX6_wronged_4 : decode cX6_wronged 4 = .ok (.iload_n 2, 1) := by decide +kernel
theorem dX6_wronged_5 : decode cX6_wronged 5 = .ok (.aload_n 0, 1) := by decide +kernel
theorem dX6_wronged_6 : decode cX6_wronged 6 = .ok (.getfield 7, 3) := by decide +kernel
theorem dX6_wronged_9 : decode cX6_wronged 9 = .ok (.bipush 6, 2) := by decide +kernel
theorem dX6_wronged_11 : decode cX6_wronged 11 = .ok (.iaload, 1) := by decide +kernel
theorem dX6_wronged_12 : decode cX6_wronged 12 = .ok (.if_icmp .ge 48, 3) := by decide +kernel
theorem dX6_wronged_15 : decode cX6_wronged 15 = .ok (.aload_n 0, 1) := by decide +kernel
theorem dX6_wronged_16 : decode cX6_wronged 16 = .ok (.iload_n 2, 1) := by decide +kernel
theorem dX6_wronged_17 : decode cX6_wronged 17 = .ok (.iconst 0, 1) := by decide +kernel
theorem dX6_wronged_18 : decode cX6_wronged 18 = .ok (.invokevirtual 168, 3) := by decide +kernel
theorem dX6_wronged_21 : decode cX6_wronged 21 = .ok (.istore_n 3, 1) := by decide +kernel
theorem dX6_wronged_22 : decode cX6_wronged 22 = .ok (.iload_n 1, 1) := by decide +kernel
theorem dX6_wronged_23 : decode cX6_wronged 23 = .ok (.aload_n 0, 1) := by decide +kernel
theorem dX6_wronged_24 : decode cX6_wronged 24 = .ok (.iload_n 3, 1) := by decide +kernel
theorem dX6_wronged_25 : decode cX6_wronged 25 = .ok (.invokevirtual 131, 3) := by decide +kernel
theorem dX6_wronged_28 : decode cX6_wronged 28 = .ok (.ifCond .ne 23, 3) := by decide +kernel
theorem dX6_wronged_31 : decode cX6_wronged 31 = .ok (.aload_n 0, 1) := by decide +kernel
theorem dX6_wronged_32 : decode cX6_wronged 32 = .ok (.iload_n 2, 1) := by decide +kernel
theorem dX6_wronged_33 : decode cX6_wronged 33 = .ok (.iconst 4, 1) := by decide +kernel
theorem dX6_wronged_34 : decode cX6_wronged 34 = .ok (.invokevirtual 168, 3) := by decide +kernel
theorem dX6_wronged_37 : decode cX6_wronged 37 = .ok (.aload_n 0, 1) := by decide +kernel
theorem dX6_wronged_38 : decode cX6_wronged 38 = .ok (.iload_n 2, 1) := by decide +kernel
theorem dX6_wronged_39 : decode cX6_wronged 39 = .ok (.invokevirtual 183, 3) := by decide +kernel
theorem dX6_wronged_42 : decode cX6_wronged 42 = .ok (.if_icmp .ge 9, 3) := by decide +kernel
theorem dX6_wronged_45 : decode cX6_wronged 45 = .ok (.iconst 1, 1) := by decide +kernel
theorem dX6_wronged_46 : decode cX6_wronged 46 = .ok (.iload_n 3, 1) := by decide +kernel
theorem dX6_wronged_47 : decode cX6_wronged 47 = .ok (.ishl, 1) := by decide +kernel
theorem dX6_wronged_48 : decode cX6_wronged 48 = .ok (.goto 4, 3) := by decide +kernel
theorem dX6_wronged_51 : decode cX6_wronged 51 = .ok (.iconst 0, 1) := by decide +kernel
theorem dX6_wronged_52 : decode cX6_wronged 52 = .ok (.ior, 1) := by decide +kernel
theorem dX6_wronged_53 : decode cX6_wronged 53 = .ok (.istore_n 1, 1) := by decide +kernel
theorem dX6_wronged_54 : decode cX6_wronged 54 = .ok (.iinc 2 1, 3) := by decide +kernel
theorem dX6_wronged_57 : decode cX6_wronged 57 = .ok (.goto (-53), 3) := by decide +kernel
theorem dX6_wronged_60 : decode cX6_wronged 60 = .ok (.iload_n 1, 1) := by decide +kernel
theorem dX6_wronged_61 : decode cX6_wronged 61 = .ok (.ireturn, 1) := by decide +kernel
abbrev rmX6_wronged : Room := { frames := 2, cells := 0, slots := 0, locals := 43 }
set_option maxRecDepth 20000 in
theorem in_X6_wronged_X6 : ∀ w ∈ wsX60, w ∈ wsX6_wronged := by decide +kernel

set_option maxRecDepth 100000 in
set_option maxHeartbeats 4000000 in
theorem c_X6_wronged {l : Launch} {g : Geo} {M : Nat → Nat → Int32} {P : Nat → Nat} {N K B : Nat} (hI : InvX eM (M 159) N K B) : Met l yX6_wronged wsX6_wronged rmX6_wronged (cPre g [.ref (g.1 158)] M P) (cQi g (fun r M' P' => (P = P' ∧ M = M') ∧ r = wrg (M 159) K)) 0 0 (gA g) := by
  refine met_i (cc := cX6_wronged) (maxL := 4) (by decide) rfl ⟨rfl, rfl⟩ (Nat.le_of_ble_eq_true rfl) (fun x hx h hret => ?_)
  replace h : Cxk x g cX6_wronged 4 wsX6_wronged RX6 rmX6_wronged := h
  show X x 0 [(0, .ref (g.1 158))] [] M P
  have hN := hI.1.1
  have hN6 := hI.1.2.1
  have hK := hI.1.2.2.1
  have hK12 := hI.1.2.2.2.1
  refine x_iconst h (nI 0) dX6_wronged_0 (by decide) ?_
  refine x_istore_n h [(1, .int (nI 0)), (0, .ref (g.1 158))] dX6_wronged_1 rfl (by decide) rfl ?_
  refine x_iconst h (nI 0) dX6_wronged_2 (by decide) ?_
  refine x_istore_n h [(2, .int (nI 0)), (1, .int (nI 0)), (0, .ref (g.1 158))] dX6_wronged_3 rfl (by decide) rfl ?_
  have L4 : ∀ (fu : Nat) (i : Nat) (z : Int32), (K - i) < fu → (i ≤ K) → (z = wrg (M 159) i) → X x 4 [(0, .ref (g.1 158)), (1, .int z), (2, .int (nI i))] [] M P := by
    intro fu
    induction fu with
    | zero => intro i z hmu4; exact absurd hmu4 (Nat.not_lt_zero _)
    | succ fu ih4 =>
      intro i z hmu4 hi hz
      refine x_iload_n h 2 dX6_wronged_4 rfl rfl ?_
      refine x_aload_n h 0 dX6_wronged_5 rfl rfl ?_
      refine xg_X6_0 h in_X6_wronged_X6 (by decide +kernel) dX6_wronged_6 ?_
      refine x_bipush h (nI 6) dX6_wronged_9 (by decide) ?_
      refine xl_159 h dX6_wronged_11 (by decide) ?_
      refine x_top (nI K) (hK) ?_
      refine x_icmp_ge_n h 60 dX6_wronged_12 (by decide) (by omega) (by omega) (fun c_12 => ?_) (fun c_12 => ?_)
      · -- 12 true
        refine x_iload_n h 1 dX6_wronged_60 rfl rfl ?_
        exact hret _ _ _ _ _ dX6_wronged_61 (by obtain rfl : i = K := (by omega); subst hz; exact ⟨⟨rfl, rfl⟩, rfl⟩)
      · -- 12 false
        refine x_aload_n h 0 dX6_wronged_15 rfl rfl ?_
        refine x_iload_n h 2 dX6_wronged_16 rfl rfl ?_
        refine x_iconst h (nI 0) dX6_wronged_17 (by decide) ?_
        refine x_callV h (As := [.int (nI i), .int (nI 0)]) 2 hx (c_X6_claimAt (by omega) (by decide)) gX6_wronged_X6_claimAt rfl ⟨rfl, rfl⟩ (by decide +kernel) rfl (by decide) (by decide) E_158 rfl rfl (Nat.le_of_ble_eq_true rfl) dX6_wronged_18 (fun rv M' P' hp => ?_)
        obtain ⟨⟨rfl, rfl⟩, rfl⟩ := hp
        obtain ⟨hh, hhN, eh⟩ := (hI.1.2.2.2.2.2.2.2 i (by omega)).1
        refine x_top (nI hh) eh ?_
        refine x_istore_n h [(3, .int (nI hh)), (0, .ref (g.1 158)), (1, .int z), (2, .int (nI i))] dX6_wronged_21 rfl (by decide) rfl ?_
        refine x_iload_n h 2 dX6_wronged_22 rfl rfl ?_
        refine x_aload_n h 1 dX6_wronged_23 rfl rfl ?_
        refine x_iload_n h 0 dX6_wronged_24 rfl rfl ?_
        refine x_callV h (As := [.int (nI hh)]) 1 hx (c_X6_isJoined (by omega)) gX6_wronged_X6_isJoined rfl ⟨rfl, rfl⟩ (by decide +kernel) rfl (by decide) (by decide) E_158 rfl rfl (Nat.le_of_ble_eq_true rfl) dX6_wronged_25 (fun rv M' P' hp => ?_)
        obtain ⟨⟨rfl, rfl⟩, hp⟩ := hp
        rcases hp with ⟨j25, rfl⟩ | ⟨nj25, rfl⟩
        · -- call 25
          refine x_if_ne h 51 dX6_wronged_28 (by decide) (fun _ => ?_) (fun c => absurd c (by decide))
          refine x_iconst h (nI 0) dX6_wronged_51 (by decide) ?_
          refine x_ior h dX6_wronged_52 ?_
          refine x_istore_n h [(1, .int (z ||| (nI 0))), (3, .int (nI hh)), (0, .ref (g.1 158)), (2, .int (nI i))] dX6_wronged_53 rfl (by decide) rfl ?_
          refine x_iinc_n h 3 (n := 1) [(2, .int (nI (i + 1))), (1, .int (z ||| (nI 0))), (3, .int (nI hh)), (0, .ref (g.1 158))] dX6_wronged_54 rfl (by decide) rfl ?_
          refine x_goto h 4 dX6_wronged_57 (by decide) ?_
          exact x_lv (ih4 (i + 1) (z ||| (nI 0)) (by omega) (by omega) (by first | exact wrg_y hz (Int32.not_le.mp c_42) eh (by omega) ((hI.j5 hhN).elim id (fun q => absurd q nj25)) | exact wrg_n hz eh (by omega) (Or.inl (Int32.not_lt.mpr c_42)) | exact wrg_n hz eh (by omega) (Or.inr (fun q => by rw [j25] at q; exact absurd q (by decide))))) [3, 1, 0] rfl
        · -- call 25
          refine x_if_ne h 51 dX6_wronged_28 (by decide) (fun c => absurd c (by decide)) (fun _ => ?_)
          refine x_aload_n h 1 dX6_wronged_31 rfl rfl ?_
          refine x_iload_n h 3 dX6_wronged_32 rfl rfl ?_
          refine x_iconst h (nI 4) dX6_wronged_33 (by decide) ?_
          refine x_callV h (As := [.int (nI i), .int (nI 4)]) 2 hx (c_X6_claimAt (by omega) (by decide)) gX6_wronged_X6_claimAt rfl ⟨rfl, rfl⟩ (by decide +kernel) rfl (by decide) (by decide) E_158 rfl rfl (Nat.le_of_ble_eq_true rfl) dX6_wronged_34 (fun rv M' P' hp => ?_)
          obtain ⟨⟨rfl, rfl⟩, rfl⟩ := hp
          refine x_aload_n h 1 dX6_wronged_37 rfl rfl ?_
          refine x_iload_n h 3 dX6_wronged_38 rfl rfl ?_
          refine x_callV h (As := [.int (nI i)]) 1 hx (c_X6_loss (by omega)) gX6_wronged_X6_loss rfl ⟨rfl, rfl⟩ (by decide +kernel) rfl (by decide) (by decide) E_158 rfl rfl (Nat.le_of_ble_eq_true rfl) dX6_wronged_39 (fun rv M' P' hp => ?_)
          obtain ⟨⟨rfl, rfl⟩, rfl⟩ := hp
          refine x_icmp_ge h 51 dX6_wronged_42 (by decide) (fun c_42 => ?_) (fun c_42 => ?_)
          · -- 42 true
            refine x_iconst h (nI 0) dX6_wronged_51 (by decide) ?_
            refine x_ior h dX6_wronged_52 ?_
            refine x_istore_n h [(1, .int (z ||| (nI 0))), (3, .int (nI hh)), (0, .ref (g.1 158)), (2, .int (nI i))] dX6_wronged_53 rfl (by decide) rfl ?_
            refine x_iinc_n h 3 (n := 1) [(2, .int (nI (i + 1))), (1, .int (z ||| (nI 0))), (3, .int (nI hh)), (0, .ref (g.1 158))] dX6_wronged_54 rfl (by decide) rfl ?_
            refine x_goto h 4 dX6_wronged_57 (by decide) ?_
            exact x_lv (ih4 (i + 1) (z ||| (nI 0)) (by omega) (by omega) (by first | exact wrg_y hz (Int32.not_le.mp c_42) eh (by omega) ((hI.j5 hhN).elim id (fun q => absurd q nj25)) | exact wrg_n hz eh (by omega) (Or.inl (Int32.not_lt.mpr c_42)) | exact wrg_n hz eh (by omega) (Or.inr (fun q => by rw [j25] at q; exact absurd q (by decide))))) [3, 1, 0] rfl
          · -- 42 false
            refine x_iconst h (nI 1) dX6_wronged_45 (by decide) ?_
            refine x_iload_n h 0 dX6_wronged_46 rfl rfl ?_
            refine x_ishl h dX6_wronged_47 ?_
            refine x_goto h 52 dX6_wronged_48 (by decide) ?_
            refine x_ior h dX6_wronged_52 ?_
            refine x_istore_n h [(1, .int (z ||| ((nI 1) <<< ((nI hh) &&& 31)))), (3, .int (nI hh)), (0, .ref (g.1 158)), (2, .int (nI i))] dX6_wronged_53 rfl (by decide) rfl ?_
            refine x_iinc_n h 3 (n := 1) [(2, .int (nI (i + 1))), (1, .int (z ||| ((nI 1) <<< ((nI hh) &&& 31)))), (3, .int (nI hh)), (0, .ref (g.1 158))] dX6_wronged_54 rfl (by decide) rfl ?_
            refine x_goto h 4 dX6_wronged_57 (by decide) ?_
            exact x_lv (ih4 (i + 1) (z ||| ((nI 1) <<< ((nI hh) &&& 31))) (by omega) (by omega) (by first | exact wrg_y hz (Int32.not_le.mp c_42) eh (by omega) ((hI.j5 hhN).elim id (fun q => absurd q nj25)) | exact wrg_n hz eh (by omega) (Or.inl (Int32.not_lt.mpr c_42)) | exact wrg_n hz eh (by omega) (Or.inr (fun q => by rw [j25] at q; exact absurd q (by decide))))) [3, 1, 0] rfl
  exact x_lv (L4 _ 0 (nI 0) (Nat.lt_succ_self _) (by omega) (by rfl)) [2, 1, 0] rfl

set_option maxRecDepth 20000 in
theorem ggX6_overNets_X6_of : GoodIn wsX6_overNets wsX6_of := goodIn_r _ [6, 1, 7, 8, 9, 10, 11, 12, 13, 14, 15, 16, 17, 18, 19, 20, 21, 22, 23, 24, 25] (by decide +kernel) (by decide +kernel)
set_option maxRecDepth 20000 in
theorem gX6_overNets_X6_of : GoodIn wsX6_overNets (wsV RX6 42 RX6 yX6_of wsX6_of) := goodIn_app (goodIn_of _ (by decide +kernel)) ggX6_overNets_X6_of
theorem dX6_overNets_0 : decode cX6_overNets 0 = .ok (.iconst 0, 1) := by decide +kernel
theorem dX6_overNets_1 : decode cX6_overNets 1 = .ok (.istore_n 2, 1) := by decide +kernel
theorem dX6_overNets_2 : decode cX6_overNets 2 = .ok (.iconst 0, 1) := by decide +kernel
theorem dX6_overNets_3 : decode cX6_overNets 3 = .ok (.istore_n 3, 1) := by decide +kernel
theorem dX6_overNets_4 : decode cX6_overNets 4 = .ok (.iload_n 3, 1) := by decide +kernel
theorem dX6_overNets_5 : decode cX6_overNets 5 = .ok (.aload_n 0, 1) := by decide +kernel
theorem dX6_overNets_6 : decode cX6_overNets 6 = .ok (.getfield 7, 3) := by decide +kernel
theorem dX6_overNets_9 : decode cX6_overNets 9 = .ok (.iconst 5, 1) := by decide +kernel
theorem dX6_overNets_10 : decode cX6_overNets 10 = .ok (.iaload, 1) := by decide +kernel
theorem dX6_overNets_11 : decode cX6_overNets 11 = .ok (.if_icmp .ge 18, 3) := by decide +kernel
theorem dX6_overNets_14 : decode cX6_overNets 14 = .ok (.iload_n 2, 1) := by decide +kernel
theorem dX6_overNets_15 : decode cX6_overNets 15 = .ok (.aload_n 0, 1) := by decide +kernel
theorem dX6_overNets_16 : decode cX6_overNets 16 = .ok (.iload_n 3, 1) := by decide +kernel
theorem dX6_overNets_17 : decode cX6_overNets 17 = .ok (.iload_n 1, 1) := by decide +kernel
theorem dX6_overNets_18 : decode cX6_overNets 18 = .ok (.invokevirtual 42, 3) := by decide +kernel
theorem dX6_overNets_21 : decode cX6_overNets 21 = .ok (.iadd, 1) := by decide +kernel
theorem dX6_overNets_22 : decode cX6_overNets 22 = .ok (.istore_n 2, 1) := by decide +kernel
theorem dX6_overNets_23 : decode cX6_overNets 23 = .ok (.iinc 3 1, 3) := by decide +kernel
theorem dX6_overNets_26 : decode cX6_overNets 26 = .ok (.goto (-22), 3) := by decide +kernel
theorem dX6_overNets_29 : decode cX6_overNets 29 = .ok (.iload_n 2, 1) := by decide +kernel
theorem dX6_overNets_30 : decode cX6_overNets 30 = .ok (.ireturn, 1) := by decide +kernel
abbrev rmX6_overNets : Room := { frames := 1, cells := 0, slots := 0, locals := 22 }
set_option maxRecDepth 20000 in
theorem in_X6_overNets_X6 : ∀ w ∈ wsX60, w ∈ wsX6_overNets := by decide +kernel

set_option maxRecDepth 100000 in
set_option maxHeartbeats 4000000 in
theorem c_X6_overNets {l : Launch} {g : Geo} {M : Nat → Nat → Int32} {P : Nat → Nat} {N K B : Nat} (hI : InvX eM (M 159) N K B) {w : Nat} (hw : w < 9) : Met l yX6_overNets wsX6_overNets rmX6_overNets (cPre g [.ref (g.1 158), .int (nI w)] M P) (cQi g (fun r M' P' => (P = P' ∧ M = M') ∧ r = sumI (fun k => M 159 (169 + 9 * k + w)) N)) 0 0 (gA g) := by
  refine met_i (cc := cX6_overNets) (maxL := 4) (by decide) rfl ⟨rfl, rfl⟩ (Nat.le_of_ble_eq_true rfl) (fun x hx h hret => ?_)
  replace h : Cxk x g cX6_overNets 4 wsX6_overNets RX6 rmX6_overNets := h
  show X x 0 [(0, .ref (g.1 158)), (1, .int (nI w))] [] M P
  have hN := hI.1.1
  have hN6 := hI.1.2.1
  have hK := hI.1.2.2.1
  have hK12 := hI.1.2.2.2.1
  refine x_iconst h (nI 0) dX6_overNets_0 (by decide) ?_
  refine x_istore_n h [(2, .int (nI 0)), (0, .ref (g.1 158)), (1, .int (nI w))] dX6_overNets_1 rfl (by decide) rfl ?_
  refine x_iconst h (nI 0) dX6_overNets_2 (by decide) ?_
  refine x_istore_n h [(3, .int (nI 0)), (2, .int (nI 0)), (0, .ref (g.1 158)), (1, .int (nI w))] dX6_overNets_3 rfl (by decide) rfl ?_
  have L4 : ∀ (fu : Nat) (i : Nat) (z : Int32), (N - i) < fu → (i ≤ N) → (z = sumI (fun k => M 159 (169 + 9 * k + w)) i) → X x 4 [(0, .ref (g.1 158)), (1, .int (nI w)), (2, .int z), (3, .int (nI i))] [] M P := by
    intro fu
    induction fu with
    | zero => intro i z hmu4; exact absurd hmu4 (Nat.not_lt_zero _)
    | succ fu ih4 =>
      intro i z hmu4 hi hz
      refine x_iload_n h 3 dX6_overNets_4 rfl rfl ?_
      refine x_aload_n h 0 dX6_overNets_5 rfl rfl ?_
      refine xg_X6_0 h in_X6_overNets_X6 (by decide +kernel) dX6_overNets_6 ?_
      refine x_iconst h (nI 5) dX6_overNets_9 (by decide) ?_
      refine xl_159 h dX6_overNets_10 (by decide) ?_
      refine x_top (nI N) (hN) ?_
      refine x_icmp_ge_n h 29 dX6_overNets_11 (by decide) (by omega) (by omega) (fun c_11 => ?_) (fun c_11 => ?_)
      · -- 11 true
        refine x_iload_n h 2 dX6_overNets_29 rfl rfl ?_
        exact hret _ _ _ _ _ dX6_overNets_30 (by obtain rfl : i = N := (by omega); subst hz; exact ⟨⟨rfl, rfl⟩, rfl⟩)
      · -- 11 false
        refine x_iload_n h 2 dX6_overNets_14 rfl rfl ?_
        refine x_aload_n h 0 dX6_overNets_15 rfl rfl ?_
        refine x_iload_n h 3 dX6_overNets_16 rfl rfl ?_
        refine x_iload_n h 1 dX6_overNets_17 rfl rfl ?_
        refine x_callV h (As := [.int (nI i), .int (nI w)]) 2 hx (c_X6_of (by omega) hw) gX6_overNets_X6_of rfl ⟨rfl, rfl⟩ (by decide +kernel) rfl (by decide) (by decide) E_158 rfl rfl (Nat.le_of_ble_eq_true rfl) dX6_overNets_18 (fun rv M' P' hp => ?_)
        obtain ⟨⟨rfl, rfl⟩, rfl⟩ := hp
        refine x_iadd h dX6_overNets_21 ?_
        refine x_istore_n h [(2, .int (z + (M 159 (169 + 9 * i + w)))), (0, .ref (g.1 158)), (1, .int (nI w)), (3, .int (nI i))] dX6_overNets_22 rfl (by decide) rfl ?_
        refine x_iinc_n h 3 (n := 1) [(3, .int (nI (i + 1))), (2, .int (z + (M 159 (169 + 9 * i + w)))), (0, .ref (g.1 158)), (1, .int (nI w))] dX6_overNets_23 rfl (by decide) rfl ?_
        refine x_goto h 4 dX6_overNets_26 (by decide) ?_
        exact x_lv (ih4 (i + 1) (z + (M 159 (169 + 9 * i + w))) (by omega) (by omega) (by rw [hz]; rfl)) [2, 3, 1, 0] rfl
  exact x_lv (L4 _ 0 (nI 0) (Nat.lt_succ_self _) (by omega) (by rfl)) [2, 3, 1, 0] rfl

set_option maxRecDepth 20000 in
theorem ggX6_cellsThat_X6_in : GoodIn wsX6_cellsThat wsX6_in := goodIn_r _ [5] (by decide +kernel) (by decide +kernel)
set_option maxRecDepth 20000 in
theorem gX6_cellsThat_X6_in : GoodIn wsX6_cellsThat (va_wsS RX6 38 yX6_in wsX6_in) := goodIn_app (goodIn_of _ (by decide +kernel)) ggX6_cellsThat_X6_in
theorem dX6_cellsThat_0 : decode cX6_cellsThat 0 = .ok (.iconst 0, 1) := by decide +kernel
theorem dX6_cellsThat_1 : decode cX6_cellsThat 1 = .ok (.istore_n 3, 1) := by decide +kernel
theorem dX6_cellsThat_2 : decode cX6_cellsThat 2 = .ok (.iconst 0, 1) := by decide +kernel
theorem dX6_cellsThat_3 : decode cX6_cellsThat 3 = .ok (.istore 4, 2) := by decide +kernel
theorem dX6_cellsThat_5 : decode cX6_cellsThat 5 = .ok (.iload 4, 2) := by decide +kernel
theorem dX6_cellsThat_7 : decode cX6_cellsThat 7 = .ok (.sipush 162, 3) := by decide +kernel
theorem dX6_cellsThat_10 : decode cX6_cellsThat 10 = .ok (.if_icmp .ge 35, 3) := by decide +kernel
theorem dX6_cellsThat_13 : decode cX6_cellsThat 13 = .ok (.iload_n 3, 1) := by decide +kernel
theorem dX6_cellsThat_14 : decode cX6_cellsThat 14 = .ok (.aload_n 0, 1) := by decide +kernel
theorem dX6_cellsThat_15 : decode cX6_cellsThat 15 = .ok (.getfield 7, 3) := by decide +kernel
theorem dX6_cellsThat_18 : decode cX6_cellsThat 18 = .ok (.bipush 7, 2) := by decide +kernel
theorem dX6_cellsThat_20 : decode cX6_cellsThat 20 = .ok (.iload 4, 2) := by decide +kernel
theorem dX6_cellsThat_22 : decode cX6_cellsThat 22 = .ok (.iadd, 1) := by decide +kernel
theorem dX6_cellsThat_23 : decode cX6_cellsThat 23 = .ok (.iaload, 1) := by decide +kernel
theorem dX6_cellsThat_24 : decode cX6_cellsThat 24 = .ok (.iload_n 1, 1) := by decide +kernel
theorem dX6_cellsThat_25 : decode cX6_cellsThat 25 = .ok (.iload_n 2, 1) := by decide +kernel
theorem dX6_cellsThat_26 : decode cX6_cellsThat 26 = .ok (.invokestatic 38, 3) := by decide +kernel
theorem dX6_cellsThat_29 : decode cX6_cellsThat 29 = .ok (.ifCond .eq 7, 3) := by decide +kernel
theorem dX6_cellsThat_32 : decode cX6_cellsThat 32 = .ok (.iconst 1, 1) := by decide +kernel
theorem dX6_cellsThat_33 : decode cX6_cellsThat 33 = .ok (.goto 4, 3) := by decide +kernel
theorem dX6_cellsThat_36 : decode cX6_cellsThat 36 = .ok (.iconst 0, 1) := by decide +kernel
theorem dX6_cellsThat_37 : decode cX6_cellsThat 37 = .ok (.iadd, 1) := by decide +kernel
theorem dX6_cellsThat_38 : decode cX6_cellsThat 38 = .ok (.istore_n 3, 1) := by decide +kernel
theorem dX6_cellsThat_39 : decode cX6_cellsThat 39 = .ok (.iinc 4 1, 3) := by decide +kernel
theorem dX6_cellsThat_42 : decode cX6_cellsThat 42 = .ok (.goto (-37), 3) := by decide +kernel
theorem dX6_cellsThat_45 : decode cX6_cellsThat 45 = .ok (.iload_n 3, 1) := by decide +kernel
theorem dX6_cellsThat_46 : decode cX6_cellsThat 46 = .ok (.ireturn, 1) := by decide +kernel
abbrev rmX6_cellsThat : Room := { frames := 1, cells := 0, slots := 0, locals := 22 }
set_option maxRecDepth 20000 in
theorem in_X6_cellsThat_X6 : ∀ w ∈ wsX60, w ∈ wsX6_cellsThat := by decide +kernel

set_option maxRecDepth 100000 in
set_option maxHeartbeats 4000000 in
theorem c_X6_cellsThat {l : Launch} {g : Geo} {M : Nat → Nat → Int32} {P : Nat → Nat} {lo hi2 : Int32} : Met l yX6_cellsThat wsX6_cellsThat rmX6_cellsThat (cPre g [.ref (g.1 158), .int lo, .int hi2] M P) (cQi g (fun r M' P' => (P = P' ∧ M = M') ∧ r = nI (cnt (fun a => decide (lo ≤ M 159 (7 + a) ∧ M 159 (7 + a) ≤ hi2)) 162))) 0 0 (gA g) := by
  refine met_i (cc := cX6_cellsThat) (maxL := 5) (by decide) rfl ⟨rfl, rfl⟩ (Nat.le_of_ble_eq_true rfl) (fun x hx h hret => ?_)
  replace h : Cxk x g cX6_cellsThat 5 wsX6_cellsThat RX6 rmX6_cellsThat := h
  show X x 0 [(0, .ref (g.1 158)), (1, .int lo), (2, .int hi2)] [] M P
  refine x_iconst h (nI 0) dX6_cellsThat_0 (by decide) ?_
  refine x_istore_n h [(3, .int (nI 0)), (0, .ref (g.1 158)), (1, .int lo), (2, .int hi2)] dX6_cellsThat_1 rfl (by decide) rfl ?_
  refine x_iconst h (nI 0) dX6_cellsThat_2 (by decide) ?_
  refine x_istore h [(4, .int (nI 0)), (3, .int (nI 0)), (0, .ref (g.1 158)), (1, .int lo), (2, .int hi2)] dX6_cellsThat_3 (by decide) rfl ?_
  have L5 : ∀ (fu : Nat) (i : Nat) (q : Nat), (162 - i) < fu → (i ≤ 162) → (q = cnt (fun a => decide (lo ≤ M 159 (7 + a) ∧ M 159 (7 + a) ≤ hi2)) i) → X x 5 [(0, .ref (g.1 158)), (1, .int lo), (2, .int hi2), (3, .int (nI q)), (4, .int (nI i))] [] M P := by
    intro fu
    induction fu with
    | zero => intro i q hmu5; exact absurd hmu5 (Nat.not_lt_zero _)
    | succ fu ih5 =>
      intro i q hmu5 hi hq
      refine x_iload h 4 dX6_cellsThat_5 rfl ?_
      refine x_sipush h (nI 162) dX6_cellsThat_7 (by decide) ?_
      refine x_icmp_ge_n h 45 dX6_cellsThat_10 (by decide) (by omega) (by decide) (fun c_10 => ?_) (fun c_10 => ?_)
      · -- 10 true
        refine x_iload_n h 3 dX6_cellsThat_45 rfl rfl ?_
        exact hret _ _ _ _ _ dX6_cellsThat_46 (by obtain rfl : i = 162 := (by omega); subst hq; exact ⟨⟨rfl, rfl⟩, rfl⟩)
      · -- 10 false
        refine x_iload_n h 3 dX6_cellsThat_13 rfl rfl ?_
        refine x_aload_n h 0 dX6_cellsThat_14 rfl rfl ?_
        refine xg_X6_0 h in_X6_cellsThat_X6 (by decide +kernel) dX6_cellsThat_15 ?_
        refine x_bipush h (nI 7) dX6_cellsThat_18 (by decide) ?_
        refine x_iload h 4 dX6_cellsThat_20 rfl ?_
        refine x_iadd_n h dX6_cellsThat_22 ?_
        refine xl_159 h dX6_cellsThat_23 (by omega) ?_
        refine x_iload_n h 1 dX6_cellsThat_24 rfl rfl ?_
        refine x_iload_n h 2 dX6_cellsThat_25 rfl rfl ?_
        refine x_callS h (As := [.int (M 159 (7 + i)), .int lo, .int hi2]) 3 hx (c_X6_in) gX6_cellsThat_X6_in rfl ⟨rfl, rfl⟩ (by decide +kernel) rfl (by decide) (Nat.le_of_ble_eq_true rfl) dX6_cellsThat_26 (fun rv M' P' hp => ?_)
        obtain ⟨⟨rfl, rfl⟩, hp⟩ := hp
        rcases hp with ⟨i26, rfl⟩ | ⟨ni26, rfl⟩
        · -- call 26
          refine x_if_eq h 36 dX6_cellsThat_29 (by decide) (fun c => absurd c (by decide)) (fun _ => ?_)
          refine x_iconst h (nI 1) dX6_cellsThat_32 (by decide) ?_
          refine x_goto h 37 dX6_cellsThat_33 (by decide) ?_
          refine x_iadd_n h dX6_cellsThat_37 ?_
          refine x_istore_n h [(3, .int (nI (q + 1))), (0, .ref (g.1 158)), (1, .int lo), (2, .int hi2), (4, .int (nI i))] dX6_cellsThat_38 rfl (by decide) rfl ?_
          refine x_iinc_n h 4 (n := 1) [(4, .int (nI (i + 1))), (3, .int (nI (q + 1))), (0, .ref (g.1 158)), (1, .int lo), (2, .int hi2)] dX6_cellsThat_39 rfl (by decide) rfl ?_
          refine x_goto h 5 dX6_cellsThat_42 (by decide) ?_
          exact x_lv (ih5 (i + 1) (q + 1) (by omega) (by omega) (by first | (rw [hq]; exact (cnt_s (p := fun a => decide (lo ≤ M 159 (7 + a) ∧ M 159 (7 + a) ≤ hi2)) (decide_eq_true i26)).symm) | (rw [hq]; exact (cnt_n (p := fun a => decide (lo ≤ M 159 (7 + a) ∧ M 159 (7 + a) ≤ hi2)) (decide_eq_false ni26)).symm))) [2, 3, 4, 1, 0] rfl
        · -- call 26
          refine x_if_eq h 36 dX6_cellsThat_29 (by decide) (fun _ => ?_) (fun c => absurd (by decide) c)
          refine x_iconst h (nI 0) dX6_cellsThat_36 (by decide) ?_
          refine x_iadd_n h dX6_cellsThat_37 ?_
          refine x_istore_n h [(3, .int (nI (q + 0))), (0, .ref (g.1 158)), (1, .int lo), (2, .int hi2), (4, .int (nI i))] dX6_cellsThat_38 rfl (by decide) rfl ?_
          refine x_iinc_n h 4 (n := 1) [(4, .int (nI (i + 1))), (3, .int (nI (q + 0))), (0, .ref (g.1 158)), (1, .int lo), (2, .int hi2)] dX6_cellsThat_39 rfl (by decide) rfl ?_
          refine x_goto h 5 dX6_cellsThat_42 (by decide) ?_
          exact x_lv (ih5 (i + 1) (q + 0) (by omega) (by omega) (by first | (rw [hq]; exact (cnt_s (p := fun a => decide (lo ≤ M 159 (7 + a) ∧ M 159 (7 + a) ≤ hi2)) (decide_eq_true i26)).symm) | (rw [hq]; exact (cnt_n (p := fun a => decide (lo ≤ M 159 (7 + a) ∧ M 159 (7 + a) ≤ hi2)) (decide_eq_false ni26)).symm))) [2, 3, 4, 1, 0] rfl
  exact x_lv (L5 _ 0 0 (Nat.lt_succ_self _) (by omega) (by rfl)) [2, 3, 4, 1, 0] rfl

set_option maxRecDepth 20000 in
theorem ggX6_crossings_X6_in : GoodIn wsX6_crossings wsX6_in := goodIn_r _ [5] (by decide +kernel) (by decide +kernel)
set_option maxRecDepth 20000 in
theorem gX6_crossings_X6_in : GoodIn wsX6_crossings (va_wsS RX6 38 yX6_in wsX6_in) := goodIn_app (goodIn_of _ (by decide +kernel)) ggX6_crossings_X6_in
theorem dX6_crossings_0 : decode cX6_crossings 0 = .ok (.iconst 0, 1) := by decide +kernel
theorem dX6_crossings_1 : decode cX6_crossings 1 = .ok (.istore_n 1, 1) := by decide +kernel
theorem dX6_crossings_2 : decode cX6_crossings 2 = .ok (.iconst 0, 1) := by decide +kernel
theorem dX6_crossings_3 : decode cX6_crossings 3 = .ok (.istore_n 2, 1) := by decide +kernel
theorem dX6_crossings_4 : decode cX6_crossings 4 = .ok (.iload_n 2, 1) := by decide +kernel
theorem dX6_crossings_5 : decode cX6_crossings 5 = .ok (.bipush 81, 2) := by decide +kernel
theorem dX6_crossings_7 : decode cX6_crossings 7 = .ok (.if_icmp .ge 65, 3) := by decide +kernel
theorem dX6_crossings_10 : decode cX6_crossings 10 = .ok (.aload_n 0, 1) := by decide +kernel
theorem dX6_crossings_11 : decode cX6_crossings 11 = .ok (.getfield 7, 3) := by decide +kernel
theorem dX6_crossings_14 : decode cX6_crossings 14 = .ok (.bipush 7, 2) := by decide +kernel
theorem dX6_crossings_16 : decode cX6_crossings 16 = .ok (.iload_n 2, 1) := by decide +kernel
theorem dX6_crossings_17 : decode cX6_crossings 17 = .ok (.iadd, 1) := by decide +kernel
theorem dX6_crossings_18 : decode cX6_crossings 18 = .ok (.iaload, 1) := by decide +kernel
theorem dX6_crossings_19 : decode cX6_crossings 19 = .ok (.istore_n 3, 1) := by decide +kernel
theorem dX6_crossings_20 : decode cX6_crossings 20 = .ok (.aload_n 0, 1) := by decide +kernel
theorem dX6_crossings_21 : decode cX6_crossings 21 = .ok (.getfield 7, 3) := by decide +kernel
theorem dX6_crossings_24 : decode cX6_crossings 24 = .ok (.bipush 88, 2) := by decide +kernel
theorem dX6_crossings_26 : decode cX6_crossings 26 = .ok (.iload_n 2, 1) := by decide +kernel
theorem dX6_crossings_27 : decode cX6_crossings 27 = .ok (.iadd, 1) := by decide +kernel
theorem dX6_crossings_28 : decode cX6_crossings 28 = .ok (.iaload, 1) := by decide +kernel
theorem dX6_crossings_29 : decode cX6_crossings 29 = .ok (.istore 4, 2) := by decide +kernel
theorem dX6_crossings_31 : decode cX6_crossings 31 = .ok (.iload_n 1, 1) := by decide +kernel
theorem dX6_crossings_32 : decode cX6_crossings 32 = .ok (.iload_n 3, 1) := by decide +kernel
theorem dX6_crossings_33 : decode cX6_crossings 33 = .ok (.iconst 1, 1) := by decide +kernel
theorem dX6_crossings_34 : decode cX6_crossings 34 = .ok (.bipush 6, 2) := by decide +kernel
theorem dX6_crossings_36 : decode cX6_crossings 36 = .ok (.invokestatic 38, 3) := by decide +kernel
theorem dX6_crossings_39 : decode cX6_crossings 39 = .ok (.ifCond .eq 24, 3) := by decide +kernel
theorem dX6_crossings_42 : decode cX6_crossings 42 = .ok (.iload 4, 2) := by decide +kernel
theorem dX6_crossings_44 : decode cX6_crossings 44 = .ok (.iconst 1, 1) := by decide +kernel
theorem dX6_crossings_45 : decode cX6_crossings 45 = .ok (.bipush 6, 2) := by decide +kernel
theorem dX6_crossings_47 : decode cX6_crossings 47 = .ok (.invokestatic 38, 3) := by decide +kernel
theorem dX6_crossings_50 : decode cX6_crossings 50 = .ok (.ifCond .eq 13, 3) := by decide +kernel
theorem dX6_crossings_53 : decode cX6_crossings 53 = .ok (.iload_n 3, 1) := by decide +kernel
theorem dX6_crossings_54 : decode cX6_crossings 54 = .ok (.iload 4, 2) := by decide +kernel
theorem dX6_crossings_56 : decode cX6_crossings 56 = .ok (.if_icmp .eq 7, 3) := by decide +kernel
theorem dX6_crossings_59 : decode cX6_crossings 59 = .ok (.iconst 1, 1) := by decide +kernel
theorem dX6_crossings_60 : decode cX6_crossings 60 = .ok (.goto 4, 3) := by decide +kernel
theorem dX6_crossings_63 : decode cX6_crossings 63 = .ok (.iconst 0, 1) := by decide +kernel
theorem dX6_crossings_64 : decode cX6_crossings 64 = .ok (.iadd, 1) := by decide +kernel
theorem dX6_crossings_65 : decode cX6_crossings 65 = .ok (.istore_n 1, 1) := by decide +kernel
theorem dX6_crossings_66 : decode cX6_crossings 66 = .ok (.iinc 2 1, 3) := by decide +kernel
theorem dX6_crossings_69 : decode cX6_crossings 69 = .ok (.goto (-65), 3) := by decide +kernel
theorem dX6_crossings_72 : decode cX6_crossings 72 = .ok (.iload_n 1, 1) := by decide +kernel
theorem dX6_crossings_73 : decode cX6_crossings 73 = .ok (.ireturn, 1) := by decide +kernel
abbrev rmX6_crossings : Room := { frames := 1, cells := 0, slots := 0, locals := 22 }
set_option maxRecDepth 20000 in
theorem in_X6_crossings_X6 : ∀ w ∈ wsX60, w ∈ wsX6_crossings := by decide +kernel

set_option maxRecDepth 100000 in
set_option maxHeartbeats 4000000 in
theorem c_X6_crossings {l : Launch} {g : Geo} {M : Nat → Nat → Int32} {P : Nat → Nat} {N K B : Nat} (hI : InvX eM (M 159) N K B) : Met l yX6_crossings wsX6_crossings rmX6_crossings (cPre g [.ref (g.1 158)] M P) (cQi g (fun r M' P' => (P = P' ∧ M = M') ∧ r = nI (cross eM (M 159) N))) 0 0 (gA g) := by
  refine met_i (cc := cX6_crossings) (maxL := 5) (by decide) rfl ⟨rfl, rfl⟩ (Nat.le_of_ble_eq_true rfl) (fun x hx h hret => ?_)
  replace h : Cxk x g cX6_crossings 5 wsX6_crossings RX6 rmX6_crossings := h
  show X x 0 [(0, .ref (g.1 158))] [] M P
  have hN := hI.1.1
  have hN6 := hI.1.2.1
  have hK := hI.1.2.2.1
  have hK12 := hI.1.2.2.2.1
  refine x_iconst h (nI 0) dX6_crossings_0 (by decide) ?_
  refine x_istore_n h [(1, .int (nI 0)), (0, .ref (g.1 158))] dX6_crossings_1 rfl (by decide) rfl ?_
  refine x_iconst h (nI 0) dX6_crossings_2 (by decide) ?_
  refine x_istore_n h [(2, .int (nI 0)), (1, .int (nI 0)), (0, .ref (g.1 158))] dX6_crossings_3 rfl (by decide) rfl ?_
  have L4 : ∀ (fu : Nat) (i : Nat) (q : Nat), (81 - i) < fu → (i ≤ 81) → (q = cnt (fun a => decide ((∃ k, k < N ∧ M 159 (7 + a) = eM.2.1 k) ∧ (∃ k, k < N ∧ M 159 (7 + (a + 81)) = eM.2.1 k) ∧ ¬ M 159 (7 + a) = M 159 (7 + (a + 81)))) i) → X x 4 [(0, .ref (g.1 158)), (1, .int (nI q)), (2, .int (nI i))] [] M P := by
    intro fu
    induction fu with
    | zero => intro i q hmu4; exact absurd hmu4 (Nat.not_lt_zero _)
    | succ fu ih4 =>
      intro i q hmu4 hi hq
      refine x_iload_n h 2 dX6_crossings_4 rfl rfl ?_
      refine x_bipush h (nI 81) dX6_crossings_5 (by decide) ?_
      refine x_icmp_ge_n h 72 dX6_crossings_7 (by decide) (by omega) (by decide) (fun c_7 => ?_) (fun c_7 => ?_)
      · -- 7 true
        refine x_iload_n h 1 dX6_crossings_72 rfl rfl ?_
        exact hret _ _ _ _ _ dX6_crossings_73 (by obtain rfl : i = 81 := (by omega); subst hq; exact ⟨⟨rfl, rfl⟩, rfl⟩)
      · -- 7 false
        refine x_aload_n h 0 dX6_crossings_10 rfl rfl ?_
        refine xg_X6_0 h in_X6_crossings_X6 (by decide +kernel) dX6_crossings_11 ?_
        refine x_bipush h (nI 7) dX6_crossings_14 (by decide) ?_
        refine x_iload_n h 2 dX6_crossings_16 rfl rfl ?_
        refine x_iadd_n h dX6_crossings_17 ?_
        refine xl_159 h dX6_crossings_18 (by omega) ?_
        refine x_istore_n h [(3, .int (M 159 (7 + i))), (0, .ref (g.1 158)), (1, .int (nI q)), (2, .int (nI i))] dX6_crossings_19 rfl (by decide) rfl ?_
        refine x_aload_n h 1 dX6_crossings_20 rfl rfl ?_
        refine xg_X6_0 h in_X6_crossings_X6 (by decide +kernel) dX6_crossings_21 ?_
        refine x_bipush h (nI 88) dX6_crossings_24 (by decide) ?_
        refine x_iload_n h 3 dX6_crossings_26 rfl rfl ?_
        refine x_iadd_n h dX6_crossings_27 ?_
        refine xl_159 h dX6_crossings_28 (by omega) ?_
        refine x_top ((M 159 (7 + (i + 81)))) (by rw [show 88 + i = 7 + (i + 81) by omega]) ?_
        refine x_istore h [(4, .int (M 159 (7 + (i + 81)))), (3, .int (M 159 (7 + i))), (0, .ref (g.1 158)), (1, .int (nI q)), (2, .int (nI i))] dX6_crossings_29 (by decide) rfl ?_
        refine x_iload_n h 3 dX6_crossings_31 rfl rfl ?_
        refine x_iload_n h 1 dX6_crossings_32 rfl rfl ?_
        refine x_iconst h (nI 1) dX6_crossings_33 (by decide) ?_
        refine x_bipush h (nI 6) dX6_crossings_34 (by decide) ?_
        refine x_callS h (As := [.int (M 159 (7 + i)), .int (nI 1), .int (nI 6)]) 3 hx (c_X6_in) gX6_crossings_X6_in rfl ⟨rfl, rfl⟩ (by decide +kernel) rfl (by decide) (Nat.le_of_ble_eq_true rfl) dX6_crossings_36 (fun rv M' P' hp => ?_)
        obtain ⟨⟨rfl, rfl⟩, hp⟩ := hp
        rcases hp with ⟨i36, rfl⟩ | ⟨ni36, rfl⟩
        · -- call 36
          refine x_if_eq h 63 dX6_crossings_39 (by decide) (fun c => absurd c (by decide)) (fun _ => ?_)
          refine x_iload h 0 dX6_crossings_42 rfl ?_
          refine x_iconst h (nI 1) dX6_crossings_44 (by decide) ?_
          refine x_bipush h (nI 6) dX6_crossings_45 (by decide) ?_
          refine x_callS h (As := [.int (M 159 (7 + (i + 81))), .int (nI 1), .int (nI 6)]) 3 hx (c_X6_in) gX6_crossings_X6_in rfl ⟨rfl, rfl⟩ (by decide +kernel) rfl (by decide) (Nat.le_of_ble_eq_true rfl) dX6_crossings_47 (fun rv M' P' hp => ?_)
          obtain ⟨⟨rfl, rfl⟩, hp⟩ := hp
          rcases hp with ⟨i47, rfl⟩ | ⟨ni47, rfl⟩
          · -- call 47
            refine x_if_eq h 63 dX6_crossings_50 (by decide) (fun c => absurd c (by decide)) (fun _ => ?_)
            refine x_iload_n h 1 dX6_crossings_53 rfl rfl ?_
            refine x_iload h 0 dX6_crossings_54 rfl ?_
            refine x_icmp_eq h 63 dX6_crossings_56 (by decide) (fun c_56 => ?_) (fun c_56 => ?_)
            · -- 56 true
              refine x_iconst h (nI 0) dX6_crossings_63 (by decide) ?_
              refine x_iadd_n h dX6_crossings_64 ?_
              refine x_istore_n h [(1, .int (nI (q + 0))), (4, .int (M 159 (7 + (i + 81)))), (3, .int (M 159 (7 + i))), (0, .ref (g.1 158)), (2, .int (nI i))] dX6_crossings_65 rfl (by decide) rfl ?_
              refine x_iinc_n h 4 (n := 1) [(2, .int (nI (i + 1))), (1, .int (nI (q + 0))), (4, .int (M 159 (7 + (i + 81)))), (3, .int (M 159 (7 + i))), (0, .ref (g.1 158))] dX6_crossings_66 rfl (by decide) rfl ?_
              refine x_goto h 4 dX6_crossings_69 (by decide) ?_
              exact x_lv (ih4 (i + 1) (q + 0) (by omega) (by omega) (by first | (rw [hq]; exact (cnt_s (p := fun a => decide ((∃ k, k < N ∧ M 159 (7 + a) = eM.2.1 k) ∧ (∃ k, k < N ∧ M 159 (7 + (a + 81)) = eM.2.1 k) ∧ ¬ M 159 (7 + a) = M 159 (7 + (a + 81)))) (decide_eq_true ⟨(in_wire hN6 hI.2.1 (by omega)).mp i36, (in_wire hN6 hI.2.1 (by omega)).mp i47, c_56⟩)).symm) | (rw [hq]; exact (cnt_n (p := fun a => decide ((∃ k, k < N ∧ M 159 (7 + a) = eM.2.1 k) ∧ (∃ k, k < N ∧ M 159 (7 + (a + 81)) = eM.2.1 k) ∧ ¬ M 159 (7 + a) = M 159 (7 + (a + 81)))) (decide_eq_false (fun z => by first | exact ni36 ((in_wire hN6 hI.2.1 (by omega)).mpr z.1) | exact ni47 ((in_wire hN6 hI.2.1 (by omega)).mpr z.2.1) | exact z.2.2 c_56))).symm))) [4, 1, 0] rfl
            · -- 56 false
              refine x_iconst h (nI 1) dX6_crossings_59 (by decide) ?_
              refine x_goto h 64 dX6_crossings_60 (by decide) ?_
              refine x_iadd_n h dX6_crossings_64 ?_
              refine x_istore_n h [(1, .int (nI (q + 1))), (4, .int (M 159 (7 + (i + 81)))), (3, .int (M 159 (7 + i))), (0, .ref (g.1 158)), (2, .int (nI i))] dX6_crossings_65 rfl (by decide) rfl ?_
              refine x_iinc_n h 4 (n := 1) [(2, .int (nI (i + 1))), (1, .int (nI (q + 1))), (4, .int (M 159 (7 + (i + 81)))), (3, .int (M 159 (7 + i))), (0, .ref (g.1 158))] dX6_crossings_66 rfl (by decide) rfl ?_
              refine x_goto h 4 dX6_crossings_69 (by decide) ?_
              exact x_lv (ih4 (i + 1) (q + 1) (by omega) (by omega) (by first | (rw [hq]; exact (cnt_s (p := fun a => decide ((∃ k, k < N ∧ M 159 (7 + a) = eM.2.1 k) ∧ (∃ k, k < N ∧ M 159 (7 + (a + 81)) = eM.2.1 k) ∧ ¬ M 159 (7 + a) = M 159 (7 + (a + 81)))) (decide_eq_true ⟨(in_wire hN6 hI.2.1 (by omega)).mp i36, (in_wire hN6 hI.2.1 (by omega)).mp i47, c_56⟩)).symm) | (rw [hq]; exact (cnt_n (p := fun a => decide ((∃ k, k < N ∧ M 159 (7 + a) = eM.2.1 k) ∧ (∃ k, k < N ∧ M 159 (7 + (a + 81)) = eM.2.1 k) ∧ ¬ M 159 (7 + a) = M 159 (7 + (a + 81)))) (decide_eq_false (fun z => by first | exact ni36 ((in_wire hN6 hI.2.1 (by omega)).mpr z.1) | exact ni47 ((in_wire hN6 hI.2.1 (by omega)).mpr z.2.1) | exact z.2.2 c_56))).symm))) [4, 1, 0] rfl
          · -- call 47
            refine x_if_eq h 63 dX6_crossings_50 (by decide) (fun _ => ?_) (fun c => absurd (by decide) c)
            refine x_iconst h (nI 0) dX6_crossings_63 (by decide) ?_
            refine x_iadd_n h dX6_crossings_64 ?_
            refine x_istore_n h [(1, .int (nI (q + 0))), (4, .int (M 159 (7 + (i + 81)))), (3, .int (M 159 (7 + i))), (0, .ref (g.1 158)), (2, .int (nI i))] dX6_crossings_65 rfl (by decide) rfl ?_
            refine x_iinc_n h 4 (n := 1) [(2, .int (nI (i + 1))), (1, .int (nI (q + 0))), (4, .int (M 159 (7 + (i + 81)))), (3, .int (M 159 (7 + i))), (0, .ref (g.1 158))] dX6_crossings_66 rfl (by decide) rfl ?_
            refine x_goto h 4 dX6_crossings_69 (by decide) ?_
            exact x_lv (ih4 (i + 1) (q + 0) (by omega) (by omega) (by first | (rw [hq]; exact (cnt_s (p := fun a => decide ((∃ k, k < N ∧ M 159 (7 + a) = eM.2.1 k) ∧ (∃ k, k < N ∧ M 159 (7 + (a + 81)) = eM.2.1 k) ∧ ¬ M 159 (7 + a) = M 159 (7 + (a + 81)))) (decide_eq_true ⟨(in_wire hN6 hI.2.1 (by omega)).mp i36, (in_wire hN6 hI.2.1 (by omega)).mp i47, c_56⟩)).symm) | (rw [hq]; exact (cnt_n (p := fun a => decide ((∃ k, k < N ∧ M 159 (7 + a) = eM.2.1 k) ∧ (∃ k, k < N ∧ M 159 (7 + (a + 81)) = eM.2.1 k) ∧ ¬ M 159 (7 + a) = M 159 (7 + (a + 81)))) (decide_eq_false (fun z => by first | exact ni36 ((in_wire hN6 hI.2.1 (by omega)).mpr z.1) | exact ni47 ((in_wire hN6 hI.2.1 (by omega)).mpr z.2.1) | exact z.2.2 c_56))).symm))) [4, 1, 0] rfl
        · -- call 36
          refine x_if_eq h 63 dX6_crossings_39 (by decide) (fun _ => ?_) (fun c => absurd (by decide) c)
          refine x_iconst h (nI 0) dX6_crossings_63 (by decide) ?_
          refine x_iadd_n h dX6_crossings_64 ?_
          refine x_istore_n h [(1, .int (nI (q + 0))), (4, .int (M 159 (7 + (i + 81)))), (3, .int (M 159 (7 + i))), (0, .ref (g.1 158)), (2, .int (nI i))] dX6_crossings_65 rfl (by decide) rfl ?_
          refine x_iinc_n h 4 (n := 1) [(2, .int (nI (i + 1))), (1, .int (nI (q + 0))), (4, .int (M 159 (7 + (i + 81)))), (3, .int (M 159 (7 + i))), (0, .ref (g.1 158))] dX6_crossings_66 rfl (by decide) rfl ?_
          refine x_goto h 4 dX6_crossings_69 (by decide) ?_
          exact x_lv (ih4 (i + 1) (q + 0) (by omega) (by omega) (by first | (rw [hq]; exact (cnt_s (p := fun a => decide ((∃ k, k < N ∧ M 159 (7 + a) = eM.2.1 k) ∧ (∃ k, k < N ∧ M 159 (7 + (a + 81)) = eM.2.1 k) ∧ ¬ M 159 (7 + a) = M 159 (7 + (a + 81)))) (decide_eq_true ⟨(in_wire hN6 hI.2.1 (by omega)).mp i36, (in_wire hN6 hI.2.1 (by omega)).mp i47, c_56⟩)).symm) | (rw [hq]; exact (cnt_n (p := fun a => decide ((∃ k, k < N ∧ M 159 (7 + a) = eM.2.1 k) ∧ (∃ k, k < N ∧ M 159 (7 + (a + 81)) = eM.2.1 k) ∧ ¬ M 159 (7 + a) = M 159 (7 + (a + 81)))) (decide_eq_false (fun z => by first | exact ni36 ((in_wire hN6 hI.2.1 (by omega)).mpr z.1) | exact ni47 ((in_wire hN6 hI.2.1 (by omega)).mpr z.2.1) | exact z.2.2 c_56))).symm))) [4, 1, 0] rfl
  exact x_lv (L4 _ 0 0 (Nat.lt_succ_self _) (by omega) (by rfl)) [2, 1, 0] rfl

set_option maxRecDepth 20000 in
theorem ggX6_count_X6_overNets : GoodIn wsX6_count wsX6_overNets := goodIn_r _ [9, 1, 10, 11, 12, 8, 13, 37, 38, 39, 40, 41, 42, 43, 44, 45, 46, 47, 48, 49, 50, 51, 52, 53, 54, 55] (by decide +kernel) (by decide +kernel)
set_option maxRecDepth 20000 in
theorem gX6_count_X6_overNets : GoodIn wsX6_count (wsV RX6 207 RX6 yX6_overNets wsX6_overNets) := goodIn_app (goodIn_of _ (by decide +kernel)) ggX6_count_X6_overNets
set_option maxRecDepth 20000 in
theorem ggX6_count_X6_blockedMany : GoodIn wsX6_count wsX6_blockedMany := goodIn_r _ [17, 1, 37, 38, 39, 40, 41, 42, 43, 44, 45, 46, 47, 48, 49, 50, 51, 52, 53, 54, 55] (by decide +kernel) (by decide +kernel)
set_option maxRecDepth 20000 in
theorem gX6_count_X6_blockedMany : GoodIn wsX6_count (wsV RX6 72 RX6 yX6_blockedMany wsX6_blockedMany) := goodIn_app (goodIn_of _ (by decide +kernel)) ggX6_count_X6_blockedMany
set_option maxRecDepth 20000 in
theorem ggX6_count_X6_cellsThat : GoodIn wsX6_count wsX6_cellsThat := goodIn_r _ [21, 1, 22, 23, 8, 24, 37, 38, 39, 40, 41, 42, 43, 44, 45, 46, 47, 48, 49, 50, 51, 52, 53, 54, 55] (by decide +kernel) (by decide +kernel)
set_option maxRecDepth 20000 in
theorem gX6_count_X6_cellsThat : GoodIn wsX6_count (wsV RX6 210 RX6 yX6_cellsThat wsX6_cellsThat) := goodIn_app (goodIn_of _ (by decide +kernel)) ggX6_count_X6_cellsThat
set_option maxRecDepth 20000 in
theorem ggX6_count_X6_appealMany : GoodIn wsX6_count wsX6_appealMany := goodIn_r _ [28, 1, 29, 30, 31, 8, 32, 37, 38, 39, 40, 41, 42, 43, 44, 45, 46, 47, 48, 49, 50, 51, 52, 53, 54, 55] (by decide +kernel) (by decide +kernel)
set_option maxRecDepth 20000 in
theorem gX6_count_X6_appealMany : GoodIn wsX6_count (wsV RX6 177 RX6 yX6_appealMany wsX6_appealMany) := goodIn_app (goodIn_of _ (by decide +kernel)) ggX6_count_X6_appealMany
set_option maxRecDepth 20000 in
theorem ggX6_count_X6_crossings : GoodIn wsX6_count wsX6_crossings := goodIn_r _ [36, 1, 22, 23, 8, 24, 37, 38, 39, 40, 41, 42, 43, 44, 45, 46, 47, 48, 49, 50, 51, 52, 53, 54, 55] (by decide +kernel) (by decide +kernel)
set_option maxRecDepth 20000 in
theorem gX6_count_X6_crossings : GoodIn wsX6_count (wsV RX6 213 RX6 yX6_crossings wsX6_crossings) := goodIn_app (goodIn_of _ (by decide +kernel)) ggX6_count_X6_crossings
theorem dX6_count_0 : decode cX6_count 0 = .ok (.iload_n 1, 1) := by decide +kernel
theorem dX6_count_1 : decode cX6_count 1 = .ok (.tableswitch 195 0 23 #[111, 118, 124, 129, 136, 144, 149, 156, 162, 170, 175, 180, 195, 195, 195, 195, 195, 195, 195, 195, 185, 185, 185, 185], 111) := by decide +kernel
theorem dX6_count_112 : decode cX6_count 112 = .ok (.aload_n 0, 1) := by decide +kernel
theorem dX6_count_113 : decode cX6_count 113 = .ok (.getfield 7, 3) := by decide +kernel
theorem dX6_count_116 : decode cX6_count 116 = .ok (.iconst 5, 1) := by decide +kernel
theorem dX6_count_117 : decode cX6_count 117 = .ok (.iaload, 1) := by decide +kernel
theorem dX6_count_118 : decode cX6_count 118 = .ok (.ireturn, 1) := by decide +kernel
theorem dX6_count_119 : decode cX6_count 119 = .ok (.aload_n 0, 1) := by decide +kernel
theorem dX6_count_120 : decode cX6_count 120 = .ok (.iconst 5, 1) := by decide +kernel
theorem dX6_count_121 : decode cX6_count 121 = .ok (.invokevirtual 207, 3) := by decide +kernel
theorem dX6_count_124 : decode cX6_count 124 = .ok (.ireturn, 1) := by decide +kernel
theorem dX6_count_125 : decode cX6_count 125 = .ok (.aload_n 0, 1) := by decide +kernel
theorem dX6_count_126 : decode cX6_count 126 = .ok (.invokevirtual 72, 3) := by decide +kernel
theorem dX6_count_129 : decode cX6_count 129 = .ok (.ireturn, 1) := by decide +kernel
theorem dX6_count_130 : decode cX6_count 130 = .ok (.aload_n 0, 1) := by decide +kernel
theorem dX6_count_131 : decode cX6_count 131 = .ok (.iconst 0, 1) := by decide +kernel
theorem dX6_count_132 : decode cX6_count 132 = .ok (.iconst 0, 1) := by decide +kernel
theorem dX6_count_133 : decode cX6_count 133 = .ok (.invokevirtual 210, 3) := by decide +kernel
theorem dX6_count_136 : decode cX6_count 136 = .ok (.ireturn, 1) := by decide +kernel
theorem dX6_count_137 : decode cX6_count 137 = .ok (.aload_n 0, 1) := by decide +kernel
theorem dX6_count_138 : decode cX6_count 138 = .ok (.getfield 7, 3) := by decide +kernel
theorem dX6_count_141 : decode cX6_count 141 = .ok (.bipush 6, 2) := by decide +kernel
theorem dX6_count_143 : decode cX6_count 143 = .ok (.iaload, 1) := by decide +kernel
theorem dX6_count_144 : decode cX6_count 144 = .ok (.ireturn, 1) := by decide +kernel
theorem dX6_count_145 : decode cX6_count 145 = .ok (.aload_n 0, 1) := by decide +kernel
theorem dX6_count_146 : decode cX6_count 146 = .ok (.invokevirtual 177, 3) := by decide +kernel
theorem dX6_count_149 : decode cX6_count 149 = .ok (.ireturn, 1) := by decide +kernel
theorem dX6_count_150 : decode cX6_count 150 = .ok (.aload_n 0, 1) := by decide +kernel
theorem dX6_count_151 : decode cX6_count 151 = .ok (.getfield 7, 3) := by decide +kernel
theorem dX6_count_154 : decode cX6_count 154 = .ok (.iconst 4, 1) := by decide +kernel
theorem dX6_count_155 : decode cX6_count 155 = .ok (.iaload, 1) := by decide +kernel
theorem dX6_count_156 : decode cX6_count 156 = .ok (.ireturn, 1) := by decide +kernel
theorem dX6_count_157 : decode cX6_count 157 = .ok (.aload_n 0, 1) := by decide +kernel
theorem dX6_count_158 : decode cX6_count 158 = .ok (.iconst 4, 1) := by decide +kernel
theorem dX6_count_159 : decode cX6_count 159 = .ok (.invokevirtual 207, 3) := by decide +kernel
theorem dX6_count_162 : decode cX6_count 162 = .ok (.ireturn, 1) := by decide +kernel
theorem dX6_count_163 : decode cX6_count 163 = .ok (.aload_n 0, 1) := by decide +kernel
theorem dX6_count_164 : decode cX6_count 164 = .ok (.iconst 1, 1) := by decide +kernel
theorem dX6_count_165 : decode cX6_count 165 = .ok (.bipush 6, 2) := by decide +kernel
theorem dX6_count_167 : decode cX6_count 167 = .ok (.invokevirtual 210, 3) := by decide +kernel
theorem dX6_count_170 : decode cX6_count 170 = .ok (.ireturn, 1) := by decide +kernel
theorem dX6_count_171 : decode cX6_count 171 = .ok (.aload_n 0, 1) := by decide +kernel
theorem dX6_count_172 : decode cX6_count 172 = .ok (.invokevirtual 213, 3) := by decide +kernel
theorem dX6_count_175 : decode cX6_count 175 = .ok (.ireturn, 1) := by decide +kernel
theorem dX6_count_176 : decode cX6_count 176 = .ok (.aload_n 0, 1) := by decide +kernel
theorem dX6_count_177 : decode cX6_count 177 = .ok (.getfield 50, 3) := by decide +kernel
theorem dX6_count_180 : decode cX6_count 180 = .ok (.ireturn, 1) := by decide +kernel
theorem dX6_count_181 : decode cX6_count 181 = .ok (.aload_n 0, 1) := by decide +kernel
theorem dX6_count_182 : decode cX6_count 182 = .ok (.getfield 216, 3) := by decide +kernel
theorem dX6_count_185 : decode cX6_count 185 = .ok (.ireturn, 1) := by decide +kernel
theorem dX6_count_186 : decode cX6_count 186 = .ok (.aload_n 0, 1) := by decide +kernel
theorem dX6_count_187 : decode cX6_count 187 = .ok (.getfield 7, 3) := by decide +kernel
theorem dX6_count_190 : decode cX6_count 190 = .ok (.iload_n 1, 1) := by decide +kernel
theorem dX6_count_191 : decode cX6_count 191 = .ok (.bipush 20, 2) := by decide +kernel
theorem dX6_count_193 : decode cX6_count 193 = .ok (.isub, 1) := by decide +kernel
theorem dX6_count_194 : decode cX6_count 194 = .ok (.iaload, 1) := by decide +kernel
theorem dX6_count_195 : decode cX6_count 195 = .ok (.ireturn, 1) := by decide +kernel
theorem dX6_count_196 : decode cX6_count 196 = .ok (.ldc 61, 2) := by decide +kernel
theorem dX6_count_198 : decode cX6_count 198 = .ok (.ireturn, 1) := by decide +kernel
abbrev rmX6_count : Room := { frames := 2, cells := 0, slots := 0, locals := 46 }
set_option maxRecDepth 20000 in
theorem in_X6_count_X6 : ∀ w ∈ wsX60, w ∈ wsX6_count := by decide +kernel

set_option maxRecDepth 100000 in
set_option maxHeartbeats 4000000 in
theorem c_X6_count {l : Launch} {g : Geo} {M : Nat → Nat → Int32} {P : Nat → Nat} {N K B : Nat} (hI : InvX eM (M 159) N K B) {many lt : Nat} (hm : M 158 5 = nI many) (hlt : M 158 7 = nI lt) {w : Int32} : Met l yX6_count wsX6_count rmX6_count (cPre g [.ref (g.1 158), .int w] M P) (cQi g (fun r M' P' => (P = P' ∧ M = M') ∧ ((w = nI 10 ∧ r = nI many) ∨ (w = nI 11 ∧ r = nI lt) ∨ (¬ w = nI 10 ∧ ¬ w = nI 11 ∧ ((∃ j, j < 24 ∧ w = nI j ∧ r = fCnt eM (M 159) N K j) ∨ (¬ InR 24 w ∧ r = -1000001)))))) 0 0 (gA g) := by
  refine met_i (cc := cX6_count) (maxL := 2) (by decide) rfl ⟨rfl, rfl⟩ (Nat.le_of_ble_eq_true rfl) (fun x hx h hret => ?_)
  replace h : Cxk x g cX6_count 2 wsX6_count RX6 rmX6_count := h
  show X x 0 [(0, .ref (g.1 158)), (1, .int w)] [] M P
  have hN := hI.1.1
  have hN6 := hI.1.2.1
  have hK := hI.1.2.2.1
  have hK12 := hI.1.2.2.2.1
  refine x_iload_n h 1 dX6_count_0 rfl rfl ?_
  by_cases hsw : w.toInt < 0 ∨ ((23 : Nat) : Int) < w.toInt
  · refine x_tableOut h 196 dX6_count_1 hsw (by decide) ?_
    refine x_ldc h ((-1000001)) (by decide +kernel) dX6_count_196 ?_
    exact hret _ _ _ _ _ dX6_count_198 (by exact ⟨⟨rfl, rfl⟩, Or.inr (Or.inr ⟨fun q => by rw [q] at hsw; exact absurd hsw (by decide), fun q => by rw [q] at hsw; exact absurd hsw (by decide), Or.inr ⟨sw_no hsw (by decide) (by decide), rfl⟩⟩)⟩)
  · obtain ⟨jsw, hjsw, rfl⟩ := sw_of hsw (by decide)
    rcases (show jsw = 0 ∨ jsw = 1 ∨ jsw = 2 ∨ jsw = 3 ∨ jsw = 4 ∨ jsw = 5 ∨ jsw = 6 ∨ jsw = 7 ∨ jsw = 8 ∨ jsw = 9 ∨ jsw = 10 ∨ jsw = 11 ∨ jsw = 12 ∨ jsw = 13 ∨ jsw = 14 ∨ jsw = 15 ∨ jsw = 16 ∨ jsw = 17 ∨ jsw = 18 ∨ jsw = 19 ∨ jsw = 20 ∨ jsw = 21 ∨ jsw = 22 ∨ jsw = 23 by omega) with rfl | rfl | rfl | rfl | rfl | rfl | rfl | rfl | rfl | rfl | rfl | rfl | rfl | rfl | rfl | rfl | rfl | rfl | rfl | rfl | rfl | rfl | rfl | rfl
    · refine x_tableIn h (111) 112 dX6_count_1 (by decide) (by decide) rfl (by decide) ?_
      refine x_aload_n h 0 dX6_count_112 rfl rfl ?_
      refine xg_X6_0 h in_X6_count_X6 (by decide +kernel) dX6_count_113 ?_
      refine x_iconst h (nI 5) dX6_count_116 (by decide) ?_
      refine xl_159 h dX6_count_117 (by decide) ?_
      refine x_top (nI N) (hN) ?_
      exact hret _ _ _ _ _ dX6_count_118 (by exact ⟨⟨rfl, rfl⟩, Or.inr (Or.inr ⟨by decide, by decide, Or.inl ⟨0, by decide, rfl, rfl⟩⟩)⟩)
    · refine x_tableIn h (118) 119 dX6_count_1 (by decide) (by decide) rfl (by decide) ?_
      refine x_aload_n h 0 dX6_count_119 rfl rfl ?_
      refine x_iconst h (nI 5) dX6_count_120 (by decide) ?_
      refine x_callV h (As := [.int (nI 5)]) 1 hx (c_X6_overNets hI (by decide)) gX6_count_X6_overNets rfl ⟨rfl, rfl⟩ (by decide +kernel) rfl (by decide) (by decide) E_158 rfl rfl (Nat.le_of_ble_eq_true rfl) dX6_count_121 (fun rv M' P' hp => ?_)
      obtain ⟨⟨rfl, rfl⟩, rfl⟩ := hp
      exact hret _ _ _ _ _ dX6_count_124 (by exact ⟨⟨rfl, rfl⟩, Or.inr (Or.inr ⟨by decide, by decide, Or.inl ⟨1, by decide, rfl, sumI_j (fun k hk => hI.j5 hk)⟩⟩)⟩)
    · refine x_tableIn h (124) 125 dX6_count_1 (by decide) (by decide) rfl (by decide) ?_
      refine x_aload_n h 0 dX6_count_125 rfl rfl ?_
      refine x_callV h (As := []) 0 hx (c_X6_blockedMany) gX6_count_X6_blockedMany rfl ⟨rfl, rfl⟩ (by decide +kernel) rfl (by decide) (by decide) E_158 rfl rfl (Nat.le_of_ble_eq_true rfl) dX6_count_126 (fun rv M' P' hp => ?_)
      obtain ⟨⟨rfl, rfl⟩, rfl⟩ := hp
      exact hret _ _ _ _ _ dX6_count_129 (by exact ⟨⟨rfl, rfl⟩, Or.inr (Or.inr ⟨by decide, by decide, Or.inl ⟨2, by decide, rfl, congrArg nI (blk_half hI.2.2.1)⟩⟩)⟩)
    · refine x_tableIn h (129) 130 dX6_count_1 (by decide) (by decide) rfl (by decide) ?_
      refine x_aload_n h 0 dX6_count_130 rfl rfl ?_
      refine x_iconst h (nI 0) dX6_count_131 (by decide) ?_
      refine x_iconst h (nI 0) dX6_count_132 (by decide) ?_
      refine x_callV h (As := [.int (nI 0), .int (nI 0)]) 2 hx (c_X6_cellsThat) gX6_count_X6_cellsThat rfl ⟨rfl, rfl⟩ (by decide +kernel) rfl (by decide) (by decide) E_158 rfl rfl (Nat.le_of_ble_eq_true rfl) dX6_count_133 (fun rv M' P' hp => ?_)
      obtain ⟨⟨rfl, rfl⟩, rfl⟩ := hp
      exact hret _ _ _ _ _ dX6_count_136 (by exact ⟨⟨rfl, rfl⟩, Or.inr (Or.inr ⟨by decide, by decide, Or.inl ⟨3, by decide, rfl, congrArg nI (free_in (M 159))⟩⟩)⟩)
    · refine x_tableIn h (136) 137 dX6_count_1 (by decide) (by decide) rfl (by decide) ?_
      refine x_aload_n h 0 dX6_count_137 rfl rfl ?_
      refine xg_X6_0 h in_X6_count_X6 (by decide +kernel) dX6_count_138 ?_
      refine x_bipush h (nI 6) dX6_count_141 (by decide) ?_
      refine xl_159 h dX6_count_143 (by decide) ?_
      refine x_top (nI K) (hK) ?_
      exact hret _ _ _ _ _ dX6_count_144 (by exact ⟨⟨rfl, rfl⟩, Or.inr (Or.inr ⟨by decide, by decide, Or.inl ⟨4, by decide, rfl, rfl⟩⟩)⟩)
    · refine x_tableIn h (144) 145 dX6_count_1 (by decide) (by decide) rfl (by decide) ?_
      refine x_aload_n h 0 dX6_count_145 rfl rfl ?_
      refine x_callV h (As := []) 0 hx (c_X6_appealMany hI) gX6_count_X6_appealMany rfl ⟨rfl, rfl⟩ (by decide +kernel) rfl (by decide) (by decide) E_158 rfl rfl (Nat.le_of_ble_eq_true rfl) dX6_count_146 (fun rv M' P' hp => ?_)
      obtain ⟨⟨rfl, rfl⟩, rfl⟩ := hp
      exact hret _ _ _ _ _ dX6_count_149 (by exact ⟨⟨rfl, rfl⟩, Or.inr (Or.inr ⟨by decide, by decide, Or.inl ⟨5, by decide, rfl, rfl⟩⟩)⟩)
    · refine x_tableIn h (149) 150 dX6_count_1 (by decide) (by decide) rfl (by decide) ?_
      refine x_aload_n h 0 dX6_count_150 rfl rfl ?_
      refine xg_X6_0 h in_X6_count_X6 (by decide +kernel) dX6_count_151 ?_
      refine x_iconst h (nI 4) dX6_count_154 (by decide) ?_
      refine xl_159 h dX6_count_155 (by decide) ?_
      exact hret _ _ _ _ _ dX6_count_156 (by exact ⟨⟨rfl, rfl⟩, Or.inr (Or.inr ⟨by decide, by decide, Or.inl ⟨6, by decide, rfl, rfl⟩⟩)⟩)
    · refine x_tableIn h (156) 157 dX6_count_1 (by decide) (by decide) rfl (by decide) ?_
      refine x_aload_n h 0 dX6_count_157 rfl rfl ?_
      refine x_iconst h (nI 4) dX6_count_158 (by decide) ?_
      refine x_callV h (As := [.int (nI 4)]) 1 hx (c_X6_overNets hI (by decide)) gX6_count_X6_overNets rfl ⟨rfl, rfl⟩ (by decide +kernel) rfl (by decide) (by decide) E_158 rfl rfl (Nat.le_of_ble_eq_true rfl) dX6_count_159 (fun rv M' P' hp => ?_)
      obtain ⟨⟨rfl, rfl⟩, rfl⟩ := hp
      exact hret _ _ _ _ _ dX6_count_162 (by exact ⟨⟨rfl, rfl⟩, Or.inr (Or.inr ⟨by decide, by decide, Or.inl ⟨7, by decide, rfl, rfl⟩⟩)⟩)
    · refine x_tableIn h (162) 163 dX6_count_1 (by decide) (by decide) rfl (by decide) ?_
      refine x_aload_n h 0 dX6_count_163 rfl rfl ?_
      refine x_iconst h (nI 1) dX6_count_164 (by decide) ?_
      refine x_bipush h (nI 6) dX6_count_165 (by decide) ?_
      refine x_callV h (As := [.int (nI 1), .int (nI 6)]) 2 hx (c_X6_cellsThat) gX6_count_X6_cellsThat rfl ⟨rfl, rfl⟩ (by decide +kernel) rfl (by decide) (by decide) E_158 rfl rfl (Nat.le_of_ble_eq_true rfl) dX6_count_167 (fun rv M' P' hp => ?_)
      obtain ⟨⟨rfl, rfl⟩, rfl⟩ := hp
      exact hret _ _ _ _ _ dX6_count_170 (by exact ⟨⟨rfl, rfl⟩, Or.inr (Or.inr ⟨by decide, by decide, Or.inl ⟨8, by decide, rfl, congrArg nI (wires_in hN6 hI.2.1)⟩⟩)⟩)
    · refine x_tableIn h (170) 171 dX6_count_1 (by decide) (by decide) rfl (by decide) ?_
      refine x_aload_n h 0 dX6_count_171 rfl rfl ?_
      refine x_callV h (As := []) 0 hx (c_X6_crossings hI) gX6_count_X6_crossings rfl ⟨rfl, rfl⟩ (by decide +kernel) rfl (by decide) (by decide) E_158 rfl rfl (Nat.le_of_ble_eq_true rfl) dX6_count_172 (fun rv M' P' hp => ?_)
      obtain ⟨⟨rfl, rfl⟩, rfl⟩ := hp
      exact hret _ _ _ _ _ dX6_count_175 (by exact ⟨⟨rfl, rfl⟩, Or.inr (Or.inr ⟨by decide, by decide, Or.inl ⟨9, by decide, rfl, rfl⟩⟩)⟩)
    · refine x_tableIn h (175) 176 dX6_count_1 (by decide) (by decide) rfl (by decide) ?_
      refine x_aload_n h 0 dX6_count_176 rfl rfl ?_
      refine xg_X6_5 h in_X6_count_X6 (by decide +kernel) dX6_count_177 ?_
      refine x_top (nI many) (hm) ?_
      exact hret _ _ _ _ _ dX6_count_180 (by exact ⟨⟨rfl, rfl⟩, Or.inl ⟨rfl, rfl⟩⟩)
    · refine x_tableIn h (180) 181 dX6_count_1 (by decide) (by decide) rfl (by decide) ?_
      refine x_aload_n h 0 dX6_count_181 rfl rfl ?_
      refine xg_X6_7 h in_X6_count_X6 (by decide +kernel) dX6_count_182 ?_
      refine x_top (nI lt) (hlt) ?_
      exact hret _ _ _ _ _ dX6_count_185 (by exact ⟨⟨rfl, rfl⟩, Or.inr (Or.inl ⟨rfl, rfl⟩)⟩)
    · refine x_tableIn h (195) 196 dX6_count_1 (by decide) (by decide) rfl (by decide) ?_
      refine x_ldc h ((-1000001)) (by decide +kernel) dX6_count_196 ?_
      exact hret _ _ _ _ _ dX6_count_198 (by exact ⟨⟨rfl, rfl⟩, Or.inr (Or.inr ⟨by decide, by decide, Or.inl ⟨12, by decide, rfl, rfl⟩⟩)⟩)
    · refine x_tableIn h (195) 196 dX6_count_1 (by decide) (by decide) rfl (by decide) ?_
      refine x_ldc h ((-1000001)) (by decide +kernel) dX6_count_196 ?_
      exact hret _ _ _ _ _ dX6_count_198 (by exact ⟨⟨rfl, rfl⟩, Or.inr (Or.inr ⟨by decide, by decide, Or.inl ⟨13, by decide, rfl, rfl⟩⟩)⟩)
    · refine x_tableIn h (195) 196 dX6_count_1 (by decide) (by decide) rfl (by decide) ?_
      refine x_ldc h ((-1000001)) (by decide +kernel) dX6_count_196 ?_
      exact hret _ _ _ _ _ dX6_count_198 (by exact ⟨⟨rfl, rfl⟩, Or.inr (Or.inr ⟨by decide, by decide, Or.inl ⟨14, by decide, rfl, rfl⟩⟩)⟩)
    · refine x_tableIn h (195) 196 dX6_count_1 (by decide) (by decide) rfl (by decide) ?_
      refine x_ldc h ((-1000001)) (by decide +kernel) dX6_count_196 ?_
      exact hret _ _ _ _ _ dX6_count_198 (by exact ⟨⟨rfl, rfl⟩, Or.inr (Or.inr ⟨by decide, by decide, Or.inl ⟨15, by decide, rfl, rfl⟩⟩)⟩)
    · refine x_tableIn h (195) 196 dX6_count_1 (by decide) (by decide) rfl (by decide) ?_
      refine x_ldc h ((-1000001)) (by decide +kernel) dX6_count_196 ?_
      exact hret _ _ _ _ _ dX6_count_198 (by exact ⟨⟨rfl, rfl⟩, Or.inr (Or.inr ⟨by decide, by decide, Or.inl ⟨16, by decide, rfl, rfl⟩⟩)⟩)
    · refine x_tableIn h (195) 196 dX6_count_1 (by decide) (by decide) rfl (by decide) ?_
      refine x_ldc h ((-1000001)) (by decide +kernel) dX6_count_196 ?_
      exact hret _ _ _ _ _ dX6_count_198 (by exact ⟨⟨rfl, rfl⟩, Or.inr (Or.inr ⟨by decide, by decide, Or.inl ⟨17, by decide, rfl, rfl⟩⟩)⟩)
    · refine x_tableIn h (195) 196 dX6_count_1 (by decide) (by decide) rfl (by decide) ?_
      refine x_ldc h ((-1000001)) (by decide +kernel) dX6_count_196 ?_
      exact hret _ _ _ _ _ dX6_count_198 (by exact ⟨⟨rfl, rfl⟩, Or.inr (Or.inr ⟨by decide, by decide, Or.inl ⟨18, by decide, rfl, rfl⟩⟩)⟩)
    · refine x_tableIn h (195) 196 dX6_count_1 (by decide) (by decide) rfl (by decide) ?_
      refine x_ldc h ((-1000001)) (by decide +kernel) dX6_count_196 ?_
      exact hret _ _ _ _ _ dX6_count_198 (by exact ⟨⟨rfl, rfl⟩, Or.inr (Or.inr ⟨by decide, by decide, Or.inl ⟨19, by decide, rfl, rfl⟩⟩)⟩)
    · refine x_tableIn h (185) 186 dX6_count_1 (by decide) (by decide) rfl (by decide) ?_
      refine x_aload_n h 0 dX6_count_186 rfl rfl ?_
      refine xg_X6_0 h in_X6_count_X6 (by decide +kernel) dX6_count_187 ?_
      refine x_iload_n h 1 dX6_count_190 rfl rfl ?_
      refine x_bipush h (nI 20) dX6_count_191 (by decide) ?_
      refine x_isub_n h dX6_count_193 (by decide) ?_
      refine xl_159 h dX6_count_194 (by decide) ?_
      exact hret _ _ _ _ _ dX6_count_195 (by exact ⟨⟨rfl, rfl⟩, Or.inr (Or.inr ⟨by decide, by decide, Or.inl ⟨20, by decide, rfl, rfl⟩⟩)⟩)
    · refine x_tableIn h (185) 186 dX6_count_1 (by decide) (by decide) rfl (by decide) ?_
      refine x_aload_n h 0 dX6_count_186 rfl rfl ?_
      refine xg_X6_0 h in_X6_count_X6 (by decide +kernel) dX6_count_187 ?_
      refine x_iload_n h 1 dX6_count_190 rfl rfl ?_
      refine x_bipush h (nI 20) dX6_count_191 (by decide) ?_
      refine x_isub_n h dX6_count_193 (by decide) ?_
      refine xl_159 h dX6_count_194 (by decide) ?_
      exact hret _ _ _ _ _ dX6_count_195 (by exact ⟨⟨rfl, rfl⟩, Or.inr (Or.inr ⟨by decide, by decide, Or.inl ⟨21, by decide, rfl, rfl⟩⟩)⟩)
    · refine x_tableIn h (185) 186 dX6_count_1 (by decide) (by decide) rfl (by decide) ?_
      refine x_aload_n h 0 dX6_count_186 rfl rfl ?_
      refine xg_X6_0 h in_X6_count_X6 (by decide +kernel) dX6_count_187 ?_
      refine x_iload_n h 1 dX6_count_190 rfl rfl ?_
      refine x_bipush h (nI 20) dX6_count_191 (by decide) ?_
      refine x_isub_n h dX6_count_193 (by decide) ?_
      refine xl_159 h dX6_count_194 (by decide) ?_
      exact hret _ _ _ _ _ dX6_count_195 (by exact ⟨⟨rfl, rfl⟩, Or.inr (Or.inr ⟨by decide, by decide, Or.inl ⟨22, by decide, rfl, rfl⟩⟩)⟩)
    · refine x_tableIn h (185) 186 dX6_count_1 (by decide) (by decide) rfl (by decide) ?_
      refine x_aload_n h 0 dX6_count_186 rfl rfl ?_
      refine xg_X6_0 h in_X6_count_X6 (by decide +kernel) dX6_count_187 ?_
      refine x_iload_n h 1 dX6_count_190 rfl rfl ?_
      refine x_bipush h (nI 20) dX6_count_191 (by decide) ?_
      refine x_isub_n h dX6_count_193 (by decide) ?_
      refine xl_159 h dX6_count_194 (by decide) ?_
      exact hret _ _ _ _ _ dX6_count_195 (by exact ⟨⟨rfl, rfl⟩, Or.inr (Or.inr ⟨by decide, by decide, Or.inl ⟨23, by decide, rfl, rfl⟩⟩)⟩)

set_option maxRecDepth 20000 in
theorem ggX6_type_X6_in : GoodIn wsX6_type wsX6_in := goodIn_r _ [8] (by decide +kernel) (by decide +kernel)
set_option maxRecDepth 20000 in
theorem gX6_type_X6_in : GoodIn wsX6_type (va_wsS RX6 38 yX6_in wsX6_in) := goodIn_app (goodIn_of _ (by decide +kernel)) ggX6_type_X6_in
theorem dX6_type_0 : decode cX6_type 0 = .ok (.iload_n 1, 1) := by decide +kernel
theorem dX6_type_1 : decode cX6_type 1 = .ok (.bipush 32, 2) := by decide +kernel
theorem dX6_type_3 : decode cX6_type 3 = .ok (.bipush 126, 2) := by decide +kernel
theorem dX6_type_5 : decode cX6_type 5 = .ok (.invokestatic 38, 3) := by decide +kernel
theorem dX6_type_8 : decode cX6_type 8 = .ok (.ifCond .ne 6, 3) := by decide +kernel
theorem dX6_type_11 : decode cX6_type 11 = .ok (.ldc 61, 2) := by decide +kernel
theorem dX6_type_13 : decode cX6_type 13 = .ok (.ireturn, 1) := by decide +kernel
theorem dX6_type_14 : decode cX6_type 14 = .ok (.aload_n 0, 1) := by decide +kernel
theorem dX6_type_15 : decode cX6_type 15 = .ok (.getfield 216, 3) := by decide +kernel
theorem dX6_type_18 : decode cX6_type 18 = .ok (.bipush 60, 2) := by decide +kernel
theorem dX6_type_20 : decode cX6_type 20 = .ok (.if_icmp .ne 6, 3) := by decide +kernel
theorem dX6_type_23 : decode cX6_type 23 = .ok (.ldc 76, 2) := by decide +kernel
theorem dX6_type_25 : decode cX6_type 25 = .ok (.ireturn, 1) := by decide +kernel
theorem dX6_type_26 : decode cX6_type 26 = .ok (.aload_n 0, 1) := by decide +kernel
theorem dX6_type_27 : decode cX6_type 27 = .ok (.getfield 22, 3) := by decide +kernel
theorem dX6_type_30 : decode cX6_type 30 = .ok (.aload_n 0, 1) := by decide +kernel
theorem dX6_type_31 : decode cX6_type 31 = .ok (.getfield 216, 3) := by decide +kernel
theorem dX6_type_34 : decode cX6_type 34 = .ok (.iload_n 1, 1) := by decide +kernel
theorem dX6_type_35 : decode cX6_type 35 = .ok (.iastore, 1) := by decide +kernel
theorem dX6_type_36 : decode cX6_type 36 = .ok (.aload_n 0, 1) := by decide +kernel
theorem dX6_type_37 : decode cX6_type 37 = .ok (.dup, 1) := by decide +kernel
theorem dX6_type_38 : decode cX6_type 38 = .ok (.getfield 216, 3) := by decide +kernel
theorem dX6_type_41 : decode cX6_type 41 = .ok (.iconst 1, 1) := by decide +kernel
theorem dX6_type_42 : decode cX6_type 42 = .ok (.iadd, 1) := by decide +kernel
theorem dX6_type_43 : decode cX6_type 43 = .ok (.putfield 216, 3) := by decide +kernel
theorem dX6_type_46 : decode cX6_type 46 = .ok (.aload_n 0, 1) := by decide +kernel
theorem dX6_type_47 : decode cX6_type 47 = .ok (.getfield 216, 3) := by decide +kernel
theorem dX6_type_50 : decode cX6_type 50 = .ok (.ireturn, 1) := by decide +kernel
abbrev rmX6_type : Room := { frames := 1, cells := 0, slots := 0, locals := 22 }
set_option maxRecDepth 20000 in
theorem in_X6_type_X6 : ∀ w ∈ wsX60, w ∈ wsX6_type := by decide +kernel

set_option maxRecDepth 100000 in
set_option maxHeartbeats 4000000 in
theorem c_X6_type {l : Launch} {g : Geo} {M : Nat → Nat → Int32} {P : Nat → Nat} {tx : Nat → Nat} {ln : Nat} (hln : M 158 7 = nI ln) (hl60 : ln ≤ 60) {a : Int32} : Met l yX6_type wsX6_type rmX6_type (cPre g [.ref (g.1 158), .int a] M P) (cQi g (fun r M' P' => P = P' ∧ ((¬ (nI 32 ≤ a ∧ a ≤ nI 126) ∧ r = -1000001 ∧ M = M') ∨ ((nI 32 ≤ a ∧ a ≤ nI 126) ∧ ((60 ≤ ln ∧ r = -1000003 ∧ M = M') ∨ (ln < 60 ∧ r = nI (ln + 1) ∧ M' = st2 (st2 M 163 ln a) 158 7 (nI (ln + 1)))))))) 0 0 (gA g) := by
  refine met_i (cc := cX6_type) (maxL := 2) (by decide) rfl ⟨rfl, rfl⟩ (Nat.le_of_ble_eq_true rfl) (fun x hx h hret => ?_)
  replace h : Cxk x g cX6_type 2 wsX6_type RX6 rmX6_type := h
  show X x 0 [(0, .ref (g.1 158)), (1, .int a)] [] M P
  refine x_iload_n h 1 dX6_type_0 rfl rfl ?_
  refine x_bipush h (nI 32) dX6_type_1 (by decide) ?_
  refine x_bipush h (nI 126) dX6_type_3 (by decide) ?_
  refine x_callS h (As := [.int a, .int (nI 32), .int (nI 126)]) 3 hx (c_X6_in) gX6_type_X6_in rfl ⟨rfl, rfl⟩ (by decide +kernel) rfl (by decide) (Nat.le_of_ble_eq_true rfl) dX6_type_5 (fun rv M' P' hp => ?_)
  obtain ⟨⟨rfl, rfl⟩, hp⟩ := hp
  rcases hp with ⟨i5, rfl⟩ | ⟨ni5, rfl⟩
  · -- call 5
    refine x_if_ne h 14 dX6_type_8 (by decide) (fun _ => ?_) (fun c => absurd c (by decide))
    refine x_aload_n h 0 dX6_type_14 rfl rfl ?_
    refine xg_X6_7 h in_X6_type_X6 (by decide +kernel) dX6_type_15 ?_
    refine x_top (nI ln) (hln) ?_
    refine x_bipush h (nI 60) dX6_type_18 (by decide) ?_
    refine x_icmp_ne_n h 26 dX6_type_20 (by decide) (by omega) (by decide) (fun c_20 => ?_) (fun c_20 => ?_)
    · -- 20 true
      refine x_aload_n h 0 dX6_type_26 rfl rfl ?_
      refine xg_X6_4 h in_X6_type_X6 (by decide +kernel) dX6_type_27 ?_
      refine x_aload_n h 0 dX6_type_30 rfl rfl ?_
      refine xg_X6_7 h in_X6_type_X6 (by decide +kernel) dX6_type_31 ?_
      refine x_top (nI ln) (hln) ?_
      refine x_iload_n h 1 dX6_type_34 rfl rfl ?_
      refine xs_163 h dX6_type_35 (by omega) ?_
      refine x_aload_n h 0 dX6_type_36 rfl rfl ?_
      refine x_dup h dX6_type_37 rfl ?_
      refine xg_X6_7 h in_X6_type_X6 (by decide +kernel) dX6_type_38 ?_
      refine x_top (nI ln) (by rw [st2_n _ _ _ (by decide)]; exact hln) ?_
      refine x_iconst h (nI 1) dX6_type_41 (by decide) ?_
      refine x_iadd_n h dX6_type_42 ?_
      refine xp_X6_7 h in_X6_type_X6 (by decide +kernel) dX6_type_43 ?_
      refine x_aload_n h 0 dX6_type_46 rfl rfl ?_
      refine xg_X6_7 h in_X6_type_X6 (by decide +kernel) dX6_type_47 ?_
      refine x_top (nI (ln + 1)) (by rw [st2_k, pk_us]) ?_
      exact hret _ _ _ _ _ dX6_type_50 (by exact ⟨rfl, Or.inr ⟨i5, Or.inr ⟨by omega, rfl, rfl⟩⟩⟩)
    · -- 20 false
      refine x_ldc h ((-1000003)) (by decide +kernel) dX6_type_23 ?_
      exact hret _ _ _ _ _ dX6_type_25 (by exact ⟨rfl, Or.inr ⟨i5, Or.inl ⟨by omega, rfl, rfl⟩⟩⟩)
  · -- call 5
    refine x_if_ne h 14 dX6_type_8 (by decide) (fun c => absurd c (by decide)) (fun _ => ?_)
    refine x_ldc h ((-1000001)) (by decide +kernel) dX6_type_11 ?_
    exact hret _ _ _ _ _ dX6_type_13 (by exact ⟨rfl, Or.inl ⟨ni5, rfl, rfl⟩⟩)

theorem dX6_clearText_0 : decode cX6_clearText 0 = .ok (.aload_n 0, 1) := by decide +kernel
theorem dX6_clearText_1 : decode cX6_clearText 1 = .ok (.getfield 216, 3) := by decide +kernel
theorem dX6_clearText_4 : decode cX6_clearText 4 = .ok (.istore_n 1, 1) := by decide +kernel
theorem dX6_clearText_5 : decode cX6_clearText 5 = .ok (.aload_n 0, 1) := by decide +kernel
theorem dX6_clearText_6 : decode cX6_clearText 6 = .ok (.iconst 0, 1) := by decide +kernel
theorem dX6_clearText_7 : decode cX6_clearText 7 = .ok (.putfield 216, 3) := by decide +kernel
theorem dX6_clearText_10 : decode cX6_clearText 10 = .ok (.iload_n 1, 1) := by decide +kernel
theorem dX6_clearText_11 : decode cX6_clearText 11 = .ok (.ireturn, 1) := by decide +kernel
abbrev rmX6_clearText : Room := { frames := 0, cells := 0, slots := 0, locals := 0 }
set_option maxRecDepth 20000 in
theorem in_X6_clearText_X6 : ∀ w ∈ wsX60, w ∈ wsX6_clearText := by decide +kernel

set_option maxRecDepth 100000 in
set_option maxHeartbeats 4000000 in
theorem c_X6_clearText {l : Launch} {g : Geo} {M : Nat → Nat → Int32} {P : Nat → Nat} {ln : Nat} (hln : M 158 7 = nI ln) : Met l yX6_clearText wsX6_clearText rmX6_clearText (cPre g [.ref (g.1 158)] M P) (cQi g (fun r M' P' => P = P' ∧ r = nI ln ∧ M' = st2 M 158 7 (nI 0))) 0 0 (gA g) := by
  refine met_i (cc := cX6_clearText) (maxL := 2) (by decide) rfl ⟨rfl, rfl⟩ (Nat.le_of_ble_eq_true rfl) (fun x hx h hret => ?_)
  replace h : Cxk x g cX6_clearText 2 wsX6_clearText RX6 rmX6_clearText := h
  show X x 0 [(0, .ref (g.1 158))] [] M P
  refine x_aload_n h 0 dX6_clearText_0 rfl rfl ?_
  refine xg_X6_7 h in_X6_clearText_X6 (by decide +kernel) dX6_clearText_1 ?_
  refine x_top (nI ln) (hln) ?_
  refine x_istore_n h [(1, .int (nI ln)), (0, .ref (g.1 158))] dX6_clearText_4 rfl (by decide) rfl ?_
  refine x_aload_n h 1 dX6_clearText_5 rfl rfl ?_
  refine x_iconst h (nI 0) dX6_clearText_6 (by decide) ?_
  refine xp_X6_7 h in_X6_clearText_X6 (by decide +kernel) dX6_clearText_7 ?_
  refine x_iload_n h 0 dX6_clearText_10 rfl rfl ?_
  exact hret _ _ _ _ _ dX6_clearText_11 (by exact ⟨rfl, rfl, rfl⟩)
