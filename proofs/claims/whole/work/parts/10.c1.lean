theorem dX0_hasNet_0 : decode cX0_hasNet 0 = .ok (.iload_n 1, 1) := by decide +kernel
theorem dX0_hasNet_1 : decode cX0_hasNet 1 = .ok (.ifCond .lt 21, 3) := by decide +kernel
theorem dX0_hasNet_4 : decode cX0_hasNet 4 = .ok (.iload_n 1, 1) := by decide +kernel
theorem dX0_hasNet_5 : decode cX0_hasNet 5 = .ok (.aload_n 0, 1) := by decide +kernel
theorem dX0_hasNet_6 : decode cX0_hasNet 6 = .ok (.getfield 41, 3) := by decide +kernel
theorem dX0_hasNet_9 : decode cX0_hasNet 9 = .ok (.if_icmp .ge 13, 3) := by decide +kernel
theorem dX0_hasNet_12 : decode cX0_hasNet 12 = .ok (.iload_n 1, 1) := by decide +kernel
theorem dX0_hasNet_13 : decode cX0_hasNet 13 = .ok (.bipush 6, 2) := by decide +kernel
theorem dX0_hasNet_15 : decode cX0_hasNet 15 = .ok (.if_icmp .ge 7, 3) := by decide +kernel
theorem dX0_hasNet_18 : decode cX0_hasNet 18 = .ok (.iconst 1, 1) := by decide +kernel
theorem dX0_hasNet_19 : decode cX0_hasNet 19 = .ok (.goto 4, 3) := by decide +kernel
theorem dX0_hasNet_22 : decode cX0_hasNet 22 = .ok (.iconst 0, 1) := by decide +kernel
theorem dX0_hasNet_23 : decode cX0_hasNet 23 = .ok (.ireturn, 1) := by decide +kernel
theorem dX0_hasClaim_0 : decode cX0_hasClaim 0 = .ok (.iload_n 1, 1) := by decide +kernel
theorem dX0_hasClaim_1 : decode cX0_hasClaim 1 = .ok (.ifCond .lt 21, 3) := by decide +kernel
theorem dX0_hasClaim_4 : decode cX0_hasClaim 4 = .ok (.iload_n 1, 1) := by decide +kernel
theorem dX0_hasClaim_5 : decode cX0_hasClaim 5 = .ok (.aload_n 0, 1) := by decide +kernel
theorem dX0_hasClaim_6 : decode cX0_hasClaim 6 = .ok (.getfield 49, 3) := by decide +kernel
theorem dX0_hasClaim_9 : decode cX0_hasClaim 9 = .ok (.if_icmp .ge 13, 3) := by decide +kernel
theorem dX0_hasClaim_12 : decode cX0_hasClaim 12 = .ok (.iload_n 1, 1) := by decide +kernel
theorem dX0_hasClaim_13 : decode cX0_hasClaim 13 = .ok (.bipush 12, 2) := by decide +kernel
theorem dX0_hasClaim_15 : decode cX0_hasClaim 15 = .ok (.if_icmp .ge 7, 3) := by decide +kernel
theorem dX0_hasClaim_18 : decode cX0_hasClaim 18 = .ok (.iconst 1, 1) := by decide +kernel
theorem dX0_hasClaim_19 : decode cX0_hasClaim 19 = .ok (.goto 4, 3) := by decide +kernel
theorem dX0_hasClaim_22 : decode cX0_hasClaim 22 = .ok (.iconst 0, 1) := by decide +kernel
theorem dX0_hasClaim_23 : decode cX0_hasClaim 23 = .ok (.ireturn, 1) := by decide +kernel
theorem dX0_cellsOwnedBy_0 : decode cX0_cellsOwnedBy 0 = .ok (.iconst 0, 1) := by decide +kernel
theorem dX0_cellsOwnedBy_1 : decode cX0_cellsOwnedBy 1 = .ok (.istore_n 2, 1) := by decide +kernel
theorem dX0_cellsOwnedBy_2 : decode cX0_cellsOwnedBy 2 = .ok (.iconst 0, 1) := by decide +kernel
theorem dX0_cellsOwnedBy_3 : decode cX0_cellsOwnedBy 3 = .ok (.istore_n 3, 1) := by decide +kernel
theorem dX0_cellsOwnedBy_4 : decode cX0_cellsOwnedBy 4 = .ok (.iload_n 3, 1) := by decide +kernel
theorem dX0_cellsOwnedBy_5 : decode cX0_cellsOwnedBy 5 = .ok (.sipush 162, 3) := by decide +kernel
theorem dX0_cellsOwnedBy_8 : decode cX0_cellsOwnedBy 8 = .ok (.if_icmp .ge 22, 3) := by decide +kernel
theorem dX0_cellsOwnedBy_11 : decode cX0_cellsOwnedBy 11 = .ok (.aload_n 0, 1) := by decide +kernel
theorem dX0_cellsOwnedBy_12 : decode cX0_cellsOwnedBy 12 = .ok (.getfield 15, 3) := by decide +kernel
theorem dX0_cellsOwnedBy_15 : decode cX0_cellsOwnedBy 15 = .ok (.iload_n 3, 1) := by decide +kernel
theorem dX0_cellsOwnedBy_16 : decode cX0_cellsOwnedBy 16 = .ok (.iaload, 1) := by decide +kernel
theorem dX0_cellsOwnedBy_17 : decode cX0_cellsOwnedBy 17 = .ok (.iload_n 1, 1) := by decide +kernel
theorem dX0_cellsOwnedBy_18 : decode cX0_cellsOwnedBy 18 = .ok (.if_icmp .ne 6, 3) := by decide +kernel
theorem dX0_cellsOwnedBy_21 : decode cX0_cellsOwnedBy 21 = .ok (.iinc 2 1, 3) := by decide +kernel
theorem dX0_cellsOwnedBy_24 : decode cX0_cellsOwnedBy 24 = .ok (.iinc 3 1, 3) := by decide +kernel
theorem dX0_cellsOwnedBy_27 : decode cX0_cellsOwnedBy 27 = .ok (.goto (-23), 3) := by decide +kernel
theorem dX0_cellsOwnedBy_30 : decode cX0_cellsOwnedBy 30 = .ok (.iload_n 2, 1) := by decide +kernel
theorem dX0_cellsOwnedBy_31 : decode cX0_cellsOwnedBy 31 = .ok (.ireturn, 1) := by decide +kernel
theorem dX0_viasOf_0 : decode cX0_viasOf 0 = .ok (.iconst 0, 1) := by decide +kernel
theorem dX0_viasOf_1 : decode cX0_viasOf 1 = .ok (.istore_n 2, 1) := by decide +kernel
theorem dX0_viasOf_2 : decode cX0_viasOf 2 = .ok (.iconst 0, 1) := by decide +kernel
theorem dX0_viasOf_3 : decode cX0_viasOf 3 = .ok (.istore_n 3, 1) := by decide +kernel
theorem dX0_viasOf_4 : decode cX0_viasOf 4 = .ok (.iload_n 3, 1) := by decide +kernel
theorem dX0_viasOf_5 : decode cX0_viasOf 5 = .ok (.bipush 81, 2) := by decide +kernel
theorem dX0_viasOf_7 : decode cX0_viasOf 7 = .ok (.if_icmp .ge 35, 3) := by decide +kernel
theorem dX0_viasOf_10 : decode cX0_viasOf 10 = .ok (.aload_n 0, 1) := by decide +kernel
theorem dX0_viasOf_11 : decode cX0_viasOf 11 = .ok (.getfield 15, 3) := by decide +kernel
theorem dX0_viasOf_14 : decode cX0_viasOf 14 = .ok (.iload_n 3, 1) := by decide +kernel
theorem dX0_viasOf_15 : decode cX0_viasOf 15 = .ok (.iaload, 1) := by decide +kernel
theorem dX0_viasOf_16 : decode cX0_viasOf 16 = .ok (.iload_n 1, 1) := by decide +kernel
theorem dX0_viasOf_17 : decode cX0_viasOf 17 = .ok (.if_icmp .ne 19, 3) := by decide +kernel
theorem dX0_viasOf_20 : decode cX0_viasOf 20 = .ok (.aload_n 0, 1) := by decide +kernel
theorem dX0_viasOf_21 : decode cX0_viasOf 21 = .ok (.getfield 15, 3) := by decide +kernel
theorem dX0_viasOf_24 : decode cX0_viasOf 24 = .ok (.iload_n 3, 1) := by decide +kernel
theorem dX0_viasOf_25 : decode cX0_viasOf 25 = .ok (.bipush 81, 2) := by decide +kernel
theorem dX0_viasOf_27 : decode cX0_viasOf 27 = .ok (.iadd, 1) := by decide +kernel
theorem dX0_viasOf_28 : decode cX0_viasOf 28 = .ok (.iaload, 1) := by decide +kernel
theorem dX0_viasOf_29 : decode cX0_viasOf 29 = .ok (.iload_n 1, 1) := by decide +kernel
theorem dX0_viasOf_30 : decode cX0_viasOf 30 = .ok (.if_icmp .ne 6, 3) := by decide +kernel
theorem dX0_viasOf_33 : decode cX0_viasOf 33 = .ok (.iinc 2 1, 3) := by decide +kernel
theorem dX0_viasOf_36 : decode cX0_viasOf 36 = .ok (.iinc 3 1, 3) := by decide +kernel
theorem dX0_viasOf_39 : decode cX0_viasOf 39 = .ok (.goto (-35), 3) := by decide +kernel
theorem dX0_viasOf_42 : decode cX0_viasOf 42 = .ok (.iload_n 2, 1) := by decide +kernel
theorem dX0_viasOf_43 : decode cX0_viasOf 43 = .ok (.ireturn, 1) := by decide +kernel
abbrev HN (N x : Int32) : Prop := ∃ n : Nat, n < 6 ∧ x = nI n ∧ nI n < N
abbrev HC (N x : Int32) : Prop := ∃ n : Nat, n < 12 ∧ x = nI n ∧ nI n < N
theorem HN_of {N x : Int32} (h1 : ¬ x < 0) (h2 : ¬ N ≤ x) (h3 : ¬ nI 6 ≤ x) : HN N x := by
  obtain ⟨j, hj, rfl⟩ := nI_of h1
  exact ⟨j, Nat.lt_of_not_le (fun e => h3 (nI_le e (by omega))), rfl, Int32.not_le.mp h2⟩
theorem HN_no1 {N x : Int32} (h : x < 0) : ¬ HN N x := by
  rintro ⟨j, hj, rfl, -⟩
  exact nI_pos (by omega) h
theorem HN_no2 {N x : Int32} (h : N ≤ x) : ¬ HN N x := by
  rintro ⟨j, hj, rfl, h2⟩
  exact Int32.not_le.mpr h2 h
theorem HN_no3 {N x : Int32} (h : nI 6 ≤ x) : ¬ HN N x := by
  rintro ⟨j, hj, rfl, -⟩
  have := (nI_leI (by decide) (by omega)).mp h
  omega
theorem HC_of {N x : Int32} (h1 : ¬ x < 0) (h2 : ¬ N ≤ x) (h3 : ¬ nI 12 ≤ x) : HC N x := by
  obtain ⟨j, hj, rfl⟩ := nI_of h1
  exact ⟨j, Nat.lt_of_not_le (fun e => h3 (nI_le e (by omega))), rfl, Int32.not_le.mp h2⟩
theorem HC_no1 {N x : Int32} (h : x < 0) : ¬ HC N x := by
  rintro ⟨j, hj, rfl, -⟩
  exact nI_pos (by omega) h
theorem HC_no2 {N x : Int32} (h : N ≤ x) : ¬ HC N x := by
  rintro ⟨j, hj, rfl, h2⟩
  exact Int32.not_le.mpr h2 h
theorem HC_no3 {N x : Int32} (h : nI 12 ≤ x) : ¬ HC N x := by
  rintro ⟨j, hj, rfl, -⟩
  have := (nI_leI (by decide) (by omega)).mp h
  omega
def wir (X : Nat → Int32) (n : Int32) : Nat := cnt (fun a => decide (X (7 + a) = n)) 162
def via (X : Nat → Int32) (n : Int32) : Nat := cnt (fun a => decide (X (7 + a) = n ∧ X (7 + (a + 81)) = n)) 81

abbrev rmX0_hasNet : Room := { frames := 0, cells := 0, slots := 0, locals := 0 }
set_option maxRecDepth 20000 in
theorem in_X0_hasNet_X0 : ∀ w ∈ wsX00, w ∈ wsX0_hasNet := by decide +kernel

set_option maxRecDepth 100000 in
set_option maxHeartbeats 4000000 in
theorem c_X0_hasNet {l : Launch} {g : Geo} {M : Nat → Nat → Int32} {P : Nat → Nat} {c : Nat} (hc : c < 6) {n : Int32} : Met l yX0_hasNet wsX0_hasNet rmX0_hasNet (cPre g [.ref (g.1 (24 * c)), .int n] M P) (cQi g (fun r M' P' => (P' = P ∧ M' = M) ∧ ((HN (M c 5) n ∧ r = nI 1) ∨ (¬ HN (M c 5) n ∧ r = nI 0)))) 0 0 (gA g) := by
  refine met_z (cc := cX0_hasNet) (maxL := 2) (by decide) rfl ⟨rfl, rfl⟩ (Nat.le_of_ble_eq_true rfl) (fun x hx h hret => ?_)
  replace h : Cxk x g cX0_hasNet 2 wsX0_hasNet RX0 rmX0_hasNet := h
  show X x 0 [(0, .ref (g.1 (24 * c))), (1, .int n)] [] M P
  refine x_iload_n h 1 dX0_hasNet_0 rfl rfl ?_
  refine x_if_lt h 22 dX0_hasNet_1 (by decide) (fun c_1 => ?_) (fun c_1 => ?_)
  · -- 1 true
    refine x_iconst h (nI 0) dX0_hasNet_22 (by decide) ?_
    exact hret _ _ _ _ _ dX0_hasNet_23 (by decide) (by exact ⟨⟨rfl, rfl⟩, Or.inr ⟨fun q => by first | exact HN_no1 c_1 q | exact HN_no2 c_9 q | exact HN_no3 c_15 q, rfl⟩⟩)
  · -- 1 false
    refine x_iload_n h 1 dX0_hasNet_4 rfl rfl ?_
    refine x_aload_n h 0 dX0_hasNet_5 rfl rfl ?_
    refine xg_X0_5 h hc in_X0_hasNet_X0 (by decide +kernel) dX0_hasNet_6 ?_
    refine x_icmp_ge h 22 dX0_hasNet_9 (by decide) (fun c_9 => ?_) (fun c_9 => ?_)
    · -- 9 true
      refine x_iconst h (nI 0) dX0_hasNet_22 (by decide) ?_
      exact hret _ _ _ _ _ dX0_hasNet_23 (by decide) (by exact ⟨⟨rfl, rfl⟩, Or.inr ⟨fun q => by first | exact HN_no1 c_1 q | exact HN_no2 c_9 q | exact HN_no3 c_15 q, rfl⟩⟩)
    · -- 9 false
      refine x_iload_n h 1 dX0_hasNet_12 rfl rfl ?_
      refine x_bipush h (nI 6) dX0_hasNet_13 (by decide) ?_
      refine x_icmp_ge h 22 dX0_hasNet_15 (by decide) (fun c_15 => ?_) (fun c_15 => ?_)
      · -- 15 true
        refine x_iconst h (nI 0) dX0_hasNet_22 (by decide) ?_
        exact hret _ _ _ _ _ dX0_hasNet_23 (by decide) (by exact ⟨⟨rfl, rfl⟩, Or.inr ⟨fun q => by first | exact HN_no1 c_1 q | exact HN_no2 c_9 q | exact HN_no3 c_15 q, rfl⟩⟩)
      · -- 15 false
        refine x_iconst h (nI 1) dX0_hasNet_18 (by decide) ?_
        refine x_goto h 23 dX0_hasNet_19 (by decide) ?_
        exact hret _ _ _ _ _ dX0_hasNet_23 (by decide) (by exact ⟨⟨rfl, rfl⟩, Or.inl ⟨HN_of c_1 c_9 c_15, rfl⟩⟩)

abbrev rmX0_hasClaim : Room := { frames := 0, cells := 0, slots := 0, locals := 0 }
set_option maxRecDepth 20000 in
theorem in_X0_hasClaim_X0 : ∀ w ∈ wsX00, w ∈ wsX0_hasClaim := by decide +kernel

set_option maxRecDepth 100000 in
set_option maxHeartbeats 4000000 in
theorem c_X0_hasClaim {l : Launch} {g : Geo} {M : Nat → Nat → Int32} {P : Nat → Nat} {c : Nat} (hc : c < 6) {n : Int32} : Met l yX0_hasClaim wsX0_hasClaim rmX0_hasClaim (cPre g [.ref (g.1 (24 * c)), .int n] M P) (cQi g (fun r M' P' => (P' = P ∧ M' = M) ∧ ((HC (M c 6) n ∧ r = nI 1) ∨ (¬ HC (M c 6) n ∧ r = nI 0)))) 0 0 (gA g) := by
  refine met_z (cc := cX0_hasClaim) (maxL := 2) (by decide) rfl ⟨rfl, rfl⟩ (Nat.le_of_ble_eq_true rfl) (fun x hx h hret => ?_)
  replace h : Cxk x g cX0_hasClaim 2 wsX0_hasClaim RX0 rmX0_hasClaim := h
  show X x 0 [(0, .ref (g.1 (24 * c))), (1, .int n)] [] M P
  refine x_iload_n h 1 dX0_hasClaim_0 rfl rfl ?_
  refine x_if_lt h 22 dX0_hasClaim_1 (by decide) (fun c_1 => ?_) (fun c_1 => ?_)
  · -- 1 true
    refine x_iconst h (nI 0) dX0_hasClaim_22 (by decide) ?_
    exact hret _ _ _ _ _ dX0_hasClaim_23 (by decide) (by exact ⟨⟨rfl, rfl⟩, Or.inr ⟨fun q => by first | exact HC_no1 c_1 q | exact HC_no2 c_9 q | exact HC_no3 c_15 q, rfl⟩⟩)
  · -- 1 false
    refine x_iload_n h 1 dX0_hasClaim_4 rfl rfl ?_
    refine x_aload_n h 0 dX0_hasClaim_5 rfl rfl ?_
    refine xg_X0_6 h hc in_X0_hasClaim_X0 (by decide +kernel) dX0_hasClaim_6 ?_
    refine x_icmp_ge h 22 dX0_hasClaim_9 (by decide) (fun c_9 => ?_) (fun c_9 => ?_)
    · -- 9 true
      refine x_iconst h (nI 0) dX0_hasClaim_22 (by decide) ?_
      exact hret _ _ _ _ _ dX0_hasClaim_23 (by decide) (by exact ⟨⟨rfl, rfl⟩, Or.inr ⟨fun q => by first | exact HC_no1 c_1 q | exact HC_no2 c_9 q | exact HC_no3 c_15 q, rfl⟩⟩)
    · -- 9 false
      refine x_iload_n h 1 dX0_hasClaim_12 rfl rfl ?_
      refine x_bipush h (nI 12) dX0_hasClaim_13 (by decide) ?_
      refine x_icmp_ge h 22 dX0_hasClaim_15 (by decide) (fun c_15 => ?_) (fun c_15 => ?_)
      · -- 15 true
        refine x_iconst h (nI 0) dX0_hasClaim_22 (by decide) ?_
        exact hret _ _ _ _ _ dX0_hasClaim_23 (by decide) (by exact ⟨⟨rfl, rfl⟩, Or.inr ⟨fun q => by first | exact HC_no1 c_1 q | exact HC_no2 c_9 q | exact HC_no3 c_15 q, rfl⟩⟩)
      · -- 15 false
        refine x_iconst h (nI 1) dX0_hasClaim_18 (by decide) ?_
        refine x_goto h 23 dX0_hasClaim_19 (by decide) ?_
        exact hret _ _ _ _ _ dX0_hasClaim_23 (by decide) (by exact ⟨⟨rfl, rfl⟩, Or.inl ⟨HC_of c_1 c_9 c_15, rfl⟩⟩)

abbrev rmX0_cellsOwnedBy : Room := { frames := 0, cells := 0, slots := 0, locals := 0 }
set_option maxRecDepth 20000 in
theorem in_X0_cellsOwnedBy_X0 : ∀ w ∈ wsX00, w ∈ wsX0_cellsOwnedBy := by decide +kernel

set_option maxRecDepth 100000 in
set_option maxHeartbeats 4000000 in
theorem c_X0_cellsOwnedBy {l : Launch} {g : Geo} {M : Nat → Nat → Int32} {P : Nat → Nat} {c : Nat} (hc : c < 6) {n : Int32} : Met l yX0_cellsOwnedBy wsX0_cellsOwnedBy rmX0_cellsOwnedBy (cPre g [.ref (g.1 (24 * c)), .int n] M P) (cQi g (fun r M' P' => (P' = P ∧ M' = M) ∧ r = nI (wir (M c) n))) 0 0 (gA g) := by
  refine met_i (cc := cX0_cellsOwnedBy) (maxL := 4) (by decide) rfl ⟨rfl, rfl⟩ (Nat.le_of_ble_eq_true rfl) (fun x hx h hret => ?_)
  replace h : Cxk x g cX0_cellsOwnedBy 4 wsX0_cellsOwnedBy RX0 rmX0_cellsOwnedBy := h
  show X x 0 [(0, .ref (g.1 (24 * c))), (1, .int n)] [] M P
  refine x_iconst h (nI 0) dX0_cellsOwnedBy_0 (by decide) ?_
  refine x_istore_n h [(2, .int (nI 0)), (0, .ref (g.1 (24 * c))), (1, .int n)] dX0_cellsOwnedBy_1 rfl (by decide) rfl ?_
  refine x_iconst h (nI 0) dX0_cellsOwnedBy_2 (by decide) ?_
  refine x_istore_n h [(3, .int (nI 0)), (2, .int (nI 0)), (0, .ref (g.1 (24 * c))), (1, .int n)] dX0_cellsOwnedBy_3 rfl (by decide) rfl ?_
  have L4 : ∀ (fu : Nat) (i : Nat) (k : Nat), (162 - i) < fu → (i ≤ 162) → (k = cnt (fun a => decide (M c (7 + a) = n)) i) → X x 4 [(0, .ref (g.1 (24 * c))), (1, .int n), (2, .int (nI k)), (3, .int (nI i))] [] M P := by
    intro fu
    induction fu with
    | zero => intro i k hmu4; exact absurd hmu4 (Nat.not_lt_zero _)
    | succ fu ih4 =>
      intro i k hmu4 hi hk
      refine x_iload_n h 3 dX0_cellsOwnedBy_4 rfl rfl ?_
      refine x_sipush h (nI 162) dX0_cellsOwnedBy_5 (by decide) ?_
      refine x_icmp_ge_n h 30 dX0_cellsOwnedBy_8 (by decide) (by omega) (by decide) (fun c_8 => ?_) (fun c_8 => ?_)
      · -- 8 true
        refine x_iload_n h 2 dX0_cellsOwnedBy_30 rfl rfl ?_
        exact hret _ _ _ _ _ dX0_cellsOwnedBy_31 (by obtain rfl : i = 162 := (by omega); subst hk; exact ⟨⟨rfl, rfl⟩, rfl⟩)
      · -- 8 false
        refine x_aload_n h 0 dX0_cellsOwnedBy_11 rfl rfl ?_
        refine xg_X0_1 h hc in_X0_cellsOwnedBy_X0 (by decide +kernel) dX0_cellsOwnedBy_12 ?_
        refine x_iload_n h 3 dX0_cellsOwnedBy_15 rfl rfl ?_
        refine xl_own h hc dX0_cellsOwnedBy_16 (by omega) ?_
        refine x_iload_n h 1 dX0_cellsOwnedBy_17 rfl rfl ?_
        refine x_icmp_ne h 24 dX0_cellsOwnedBy_18 (by decide) (fun c_18 => ?_) (fun c_18 => ?_)
        · -- 18 true
          refine x_iinc_n h 3 (n := 1) [(3, .int (nI (i + 1))), (0, .ref (g.1 (24 * c))), (1, .int n), (2, .int (nI k))] dX0_cellsOwnedBy_24 rfl (by decide) rfl ?_
          refine x_goto h 4 dX0_cellsOwnedBy_27 (by decide) ?_
          exact x_lv (ih4 (i + 1) k (by omega) (by omega) (by simp [cnt, hk, c_18])) [1, 2, 3, 0] rfl
        · -- 18 false
          refine x_iinc_n h 2 (n := 1) [(2, .int (nI (k + 1))), (0, .ref (g.1 (24 * c))), (1, .int n), (3, .int (nI i))] dX0_cellsOwnedBy_21 rfl (by decide) rfl ?_
          refine x_iinc_n h 3 (n := 1) [(3, .int (nI (i + 1))), (2, .int (nI (k + 1))), (0, .ref (g.1 (24 * c))), (1, .int n)] dX0_cellsOwnedBy_24 rfl (by decide) rfl ?_
          refine x_goto h 4 dX0_cellsOwnedBy_27 (by decide) ?_
          exact x_lv (ih4 (i + 1) (k + 1) (by omega) (by omega) (by simp [cnt, hk, c_18])) [2, 3, 1, 0] rfl
  exact x_lv (L4 _ 0 0 (Nat.lt_succ_self _) (by decide) (by rfl)) [2, 3, 1, 0] rfl

abbrev rmX0_viasOf : Room := { frames := 0, cells := 0, slots := 0, locals := 0 }
set_option maxRecDepth 20000 in
theorem in_X0_viasOf_X0 : ∀ w ∈ wsX00, w ∈ wsX0_viasOf := by decide +kernel

set_option maxRecDepth 100000 in
set_option maxHeartbeats 4000000 in
theorem c_X0_viasOf {l : Launch} {g : Geo} {M : Nat → Nat → Int32} {P : Nat → Nat} {c : Nat} (hc : c < 6) {n : Int32} : Met l yX0_viasOf wsX0_viasOf rmX0_viasOf (cPre g [.ref (g.1 (24 * c)), .int n] M P) (cQi g (fun r M' P' => (P' = P ∧ M' = M) ∧ r = nI (via (M c) n))) 0 0 (gA g) := by
  refine met_i (cc := cX0_viasOf) (maxL := 4) (by decide) rfl ⟨rfl, rfl⟩ (Nat.le_of_ble_eq_true rfl) (fun x hx h hret => ?_)
  replace h : Cxk x g cX0_viasOf 4 wsX0_viasOf RX0 rmX0_viasOf := h
  show X x 0 [(0, .ref (g.1 (24 * c))), (1, .int n)] [] M P
  refine x_iconst h (nI 0) dX0_viasOf_0 (by decide) ?_
  refine x_istore_n h [(2, .int (nI 0)), (0, .ref (g.1 (24 * c))), (1, .int n)] dX0_viasOf_1 rfl (by decide) rfl ?_
  refine x_iconst h (nI 0) dX0_viasOf_2 (by decide) ?_
  refine x_istore_n h [(3, .int (nI 0)), (2, .int (nI 0)), (0, .ref (g.1 (24 * c))), (1, .int n)] dX0_viasOf_3 rfl (by decide) rfl ?_
  have L4 : ∀ (fu : Nat) (i : Nat) (k : Nat), (81 - i) < fu → (i ≤ 81) → (k = cnt (fun a => decide (M c (7 + a) = n ∧ M c (7 + (a + 81)) = n)) i) → X x 4 [(0, .ref (g.1 (24 * c))), (1, .int n), (2, .int (nI k)), (3, .int (nI i))] [] M P := by
    intro fu
    induction fu with
    | zero => intro i k hmu4; exact absurd hmu4 (Nat.not_lt_zero _)
    | succ fu ih4 =>
      intro i k hmu4 hi hk
      refine x_iload_n h 3 dX0_viasOf_4 rfl rfl ?_
      refine x_bipush h (nI 81) dX0_viasOf_5 (by decide) ?_
      refine x_icmp_ge_n h 42 dX0_viasOf_7 (by decide) (by omega) (by decide) (fun c_7 => ?_) (fun c_7 => ?_)
      · -- 7 true
        refine x_iload_n h 2 dX0_viasOf_42 rfl rfl ?_
        exact hret _ _ _ _ _ dX0_viasOf_43 (by obtain rfl : i = 81 := (by omega); subst hk; exact ⟨⟨rfl, rfl⟩, rfl⟩)
      · -- 7 false
        refine x_aload_n h 0 dX0_viasOf_10 rfl rfl ?_
        refine xg_X0_1 h hc in_X0_viasOf_X0 (by decide +kernel) dX0_viasOf_11 ?_
        refine x_iload_n h 3 dX0_viasOf_14 rfl rfl ?_
        refine xl_own h hc dX0_viasOf_15 (by omega) ?_
        refine x_iload_n h 1 dX0_viasOf_16 rfl rfl ?_
        refine x_icmp_ne h 36 dX0_viasOf_17 (by decide) (fun c_17 => ?_) (fun c_17 => ?_)
        · -- 17 true
          refine x_iinc_n h 3 (n := 1) [(3, .int (nI (i + 1))), (0, .ref (g.1 (24 * c))), (1, .int n), (2, .int (nI k))] dX0_viasOf_36 rfl (by decide) rfl ?_
          refine x_goto h 4 dX0_viasOf_39 (by decide) ?_
          exact x_lv (ih4 (i + 1) k (by omega) (by omega) (by simp [cnt, hk, *])) [1, 2, 3, 0] rfl
        · -- 17 false
          refine x_aload_n h 0 dX0_viasOf_20 rfl rfl ?_
          refine xg_X0_1 h hc in_X0_viasOf_X0 (by decide +kernel) dX0_viasOf_21 ?_
          refine x_iload_n h 3 dX0_viasOf_24 rfl rfl ?_
          refine x_bipush h (nI 81) dX0_viasOf_25 (by decide) ?_
          refine x_iadd_n h dX0_viasOf_27 ?_
          refine xl_own h hc dX0_viasOf_28 (by omega) ?_
          refine x_iload_n h 1 dX0_viasOf_29 rfl rfl ?_
          refine x_icmp_ne h 36 dX0_viasOf_30 (by decide) (fun c_30 => ?_) (fun c_30 => ?_)
          · -- 30 true
            refine x_iinc_n h 3 (n := 1) [(3, .int (nI (i + 1))), (0, .ref (g.1 (24 * c))), (1, .int n), (2, .int (nI k))] dX0_viasOf_36 rfl (by decide) rfl ?_
            refine x_goto h 4 dX0_viasOf_39 (by decide) ?_
            exact x_lv (ih4 (i + 1) k (by omega) (by omega) (by simp [cnt, hk, *])) [1, 2, 3, 0] rfl
          · -- 30 false
            refine x_iinc_n h 2 (n := 1) [(2, .int (nI (k + 1))), (0, .ref (g.1 (24 * c))), (1, .int n), (3, .int (nI i))] dX0_viasOf_33 rfl (by decide) rfl ?_
            refine x_iinc_n h 3 (n := 1) [(3, .int (nI (i + 1))), (2, .int (nI (k + 1))), (0, .ref (g.1 (24 * c))), (1, .int n)] dX0_viasOf_36 rfl (by decide) rfl ?_
            refine x_goto h 4 dX0_viasOf_39 (by decide) ?_
            exact x_lv (ih4 (i + 1) (k + 1) (by omega) (by omega) (by simp [cnt, hk, *])) [2, 3, 1, 0] rfl
  exact x_lv (L4 _ 0 0 (Nat.lt_succ_self _) (by decide) (by rfl)) [2, 3, 1, 0] rfl
