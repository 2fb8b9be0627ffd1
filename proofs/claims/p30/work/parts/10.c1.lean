
abbrev InR (N : Nat) (x : Int32) : Prop := ∃ k : Nat, k < N ∧ x = nI k
theorem InR_of {N : Nat} {x : Int32} (hN : N < 2 ^ 31) (h1 : ¬ x < 0) (h2 : ¬ nI N ≤ x) : InR N x := by
  obtain ⟨j, hj, rfl⟩ := nI_of h1
  exact ⟨j, Nat.lt_of_not_le (fun e => h2 (nI_le e hj)), rfl⟩
theorem InR_no1 {N : Nat} {x : Int32} (hN : N < 2 ^ 31) (h : x < 0) : ¬ InR N x := by
  rintro ⟨j, hj, rfl⟩
  exact nI_pos (by omega) h
theorem InR_no2 {N : Nat} {x : Int32} (hN : N < 2 ^ 31) (h : nI N ≤ x) : ¬ InR N x := by
  rintro ⟨j, hj, rfl⟩
  have := (nI_leI hN (by omega)).mp h
  omega
theorem InR_no3 {N B : Nat} {x : Int32} (hN : N ≤ B) (hB : B < 2 ^ 31) (h : nI B ≤ x) : ¬ InR N x := by
  rintro ⟨j, hj, rfl⟩
  have := (nI_leI hB (by omega)).mp h
  omega
theorem st2_va (M : Nat → Nat → Int32) (k j : Nat) (v : Int32) : st2 M k j v = va_up M k (upd (M k) j v) := by
  funext a
  unfold st2 va_up
  by_cases h : a = k
  · subst h; simp
  · simp [h]
theorem va_up_up {α : Type} (M : Nat → α) (k : Nat) (f g : α) : va_up (va_up M k f) k g = va_up M k g := by
  funext a
  unfold va_up
  by_cases h : a = k
  · rw [if_pos h, if_pos h]
  · rw [if_neg h, if_neg h, if_neg h]
theorem va_up_k {α : Type} (M : Nat → α) (k : Nat) (f : α) : va_up M k f k = f := if_pos rfl
theorem va_up_n {α : Type} (M : Nat → α) {k a : Nat} (f : α) (h : a ≠ k) : va_up M k f a = M a := if_neg h
theorem va_up_id {α : Type} (M : Nat → α) (k : Nat) : va_up M k (M k) = M := by
  funext a
  unfold va_up
  by_cases h : a = k
  · rw [if_pos h, h]
  · rw [if_neg h]
def wir (X : Nat → Int32) (n : Int32) : Nat := cnt (fun a => decide (X (7 + a) = n)) 162
def via (X : Nat → Int32) (n : Int32) : Nat := cnt (fun a => decide (X (7 + a) = n ∧ X (7 + (a + 81)) = n)) 81
abbrev FP (X : Nat → Int32) (p : Int32) : Prop := ∃ j : Nat, j < 81 ∧ p = nI j ∧ X (7 + j) = -1 ∧ X (7 + (j + 81)) = -1
/-- the places of a row, one after the other, by F -/
def scan (o : Nat) (X : Nat → Int32) (F : Nat → Int32 → Int32) (i : Nat) : Nat → Int32 := fun j => if o ≤ j ∧ j < o + i then F (j - o) (X j) else X j
theorem scan_0 (o : Nat) (X : Nat → Int32) (F : Nat → Int32 → Int32) : scan o X F 0 = X := by
  funext j; unfold scan; rw [if_neg (by omega)]
theorem scan_at (o : Nat) (X : Nat → Int32) (F : Nat → Int32 → Int32) (i : Nat) : scan o X F i (o + i) = X (o + i) := by
  unfold scan; rw [if_neg (by omega)]
theorem scan_ge {o : Nat} (X : Nat → Int32) (F : Nat → Int32 → Int32) {i j : Nat} (h : j < o ∨ o + i ≤ j) : scan o X F i j = X j := by
  unfold scan; rw [if_neg (by omega)]
theorem scan_in {o : Nat} (X : Nat → Int32) (F : Nat → Int32 → Int32) {i j : Nat} (h : j < i) : scan o X F i (o + j) = F j (X (o + j)) := by
  unfold scan; rw [if_pos (by omega), Nat.add_sub_cancel_left]
theorem scan_s (o : Nat) (X : Nat → Int32) (F : Nat → Int32 → Int32) (i : Nat) {v : Int32} (hv : v = F i (X (o + i))) : upd (scan o X F i) (o + i) v = scan o X F (i + 1) := by
  funext j
  unfold upd scan
  by_cases h : j = o + i
  · subst h; rw [if_pos rfl, if_pos (by omega), hv, Nat.add_sub_cancel_left]
  · rw [if_neg h]
    by_cases h2 : o ≤ j ∧ j < o + i
    · rw [if_pos h2, if_pos (by omega)]
    · rw [if_neg h2, if_neg (by omega)]
theorem scan_n (o : Nat) (X : Nat → Int32) (F : Nat → Int32 → Int32) (i : Nat) (hv : F i (X (o + i)) = X (o + i)) : scan o X F i = scan o X F (i + 1) := by
  rw [← scan_s o X F i rfl, hv]
  funext j
  unfold upd
  by_cases h : j = o + i
  · subst h; rw [if_pos rfl, scan_at]
  · rw [if_neg h]
def loseX (X : Nat → Int32) (k : Nat) : Nat → Int32 := upd (scan 7 X (fun _ v => if v = nI k then -1 else v) 162) (169 + 9 * k + 5) (nI 0)
def tollX (X : Nat → Int32) (a : Nat) (n dg : Int32) (N : Nat) : Int32 := if X (7 + a) = -1 ∨ X (7 + a) = nI 10 + n then nI 0 else if dg = 0 ∨ ¬ InR N (X (7 + a)) then -1 else X 1 + X (169 + 9 * (X (7 + a)).toNatClampNeg + 3)
def lossX (X : Nat → Int32) (i : Nat) : Int32 := X 2 * X (223 + 13 * i + 2) + X 0 * X (223 + 13 * i + 3)
/-- bit i of v -/
abbrev bit1 (v : Int32) (i : Nat) : Prop := (v >>> (nI i &&& 31)) &&& nI 1 = nI 1
def fnd (p : Nat → Bool) (K : Nat) : Option Nat := (List.range K).find? p
theorem fnd_some {p : Nat → Bool} {K i : Nat} (hi : i < K) (h : p i = true) (hn : ∀ j, j < i → p j = false) : fnd p K = some i := by
  unfold fnd
  rw [List.find?_range_eq_some]
  exact ⟨h, List.mem_range.mpr hi, fun j hj => by simp [hn j hj]⟩
theorem fnd_none {p : Nat → Bool} {K : Nat} (hn : ∀ j, j < K → p j = false) : fnd p K = none := by
  unfold fnd
  rw [List.find?_eq_none]
  exact fun j hj => by simp [hn j (List.mem_range.mp hj)]

theorem dX0_isPlace_0 : decode cX0_isPlace 0 = .ok (.iload_n 0, 1) := by decide +kernel
theorem dX0_isPlace_1 : decode cX0_isPlace 1 = .ok (.ifCond .lt 13, 3) := by decide +kernel
theorem dX0_isPlace_4 : decode cX0_isPlace 4 = .ok (.iload_n 0, 1) := by decide +kernel
theorem dX0_isPlace_5 : decode cX0_isPlace 5 = .ok (.bipush 81, 2) := by decide +kernel
theorem dX0_isPlace_7 : decode cX0_isPlace 7 = .ok (.if_icmp .ge 7, 3) := by decide +kernel
theorem dX0_isPlace_10 : decode cX0_isPlace 10 = .ok (.iconst 1, 1) := by decide +kernel
theorem dX0_isPlace_11 : decode cX0_isPlace 11 = .ok (.goto 4, 3) := by decide +kernel
theorem dX0_isPlace_14 : decode cX0_isPlace 14 = .ok (.iconst 0, 1) := by decide +kernel
theorem dX0_isPlace_15 : decode cX0_isPlace 15 = .ok (.ireturn, 1) := by decide +kernel
abbrev rmX0_isPlace : Room := { frames := 0, cells := 0, slots := 0, locals := 0 }

set_option maxRecDepth 100000 in
set_option maxHeartbeats 4000000 in
theorem c_X0_isPlace {l : Launch} {g : Geo} {M : Nat → Nat → Int32} {P : Nat → Nat} {n : Int32} : Met l yX0_isPlace wsX0_isPlace rmX0_isPlace (cPre g [.int n] M P) (cQi g (fun r M' P' => (P = P' ∧ M = M') ∧ ((InR 81 n ∧ r = nI 1) ∨ (¬ InR 81 n ∧ r = nI 0)))) 0 0 (gA g) := by
  refine met_z (cc := cX0_isPlace) (maxL := 1) (by decide) rfl ⟨rfl, rfl⟩ (Nat.le_of_ble_eq_true rfl) (fun x hx h hret => ?_)
  replace h : Cxk x g cX0_isPlace 1 wsX0_isPlace RX0 rmX0_isPlace := h
  show X x 0 [(0, .int n)] [] M P
  refine x_iload_n h 0 dX0_isPlace_0 rfl rfl ?_
  refine x_if_lt h 14 dX0_isPlace_1 (by decide) (fun c_1 => ?_) (fun c_1 => ?_)
  · -- 1 true
    refine x_iconst h (nI 0) dX0_isPlace_14 (by decide) ?_
    exact hret _ _ _ _ _ dX0_isPlace_15 (by decide) (by exact ⟨⟨rfl, rfl⟩, Or.inr ⟨by first | exact InR_no1 (by decide) c_1 | exact InR_no2 (by decide) c_7, rfl⟩⟩)
  · -- 1 false
    refine x_iload_n h 0 dX0_isPlace_4 rfl rfl ?_
    refine x_bipush h (nI 81) dX0_isPlace_5 (by decide) ?_
    refine x_icmp_ge h 14 dX0_isPlace_7 (by decide) (fun c_7 => ?_) (fun c_7 => ?_)
    · -- 7 true
      refine x_iconst h (nI 0) dX0_isPlace_14 (by decide) ?_
      exact hret _ _ _ _ _ dX0_isPlace_15 (by decide) (by exact ⟨⟨rfl, rfl⟩, Or.inr ⟨by first | exact InR_no1 (by decide) c_1 | exact InR_no2 (by decide) c_7, rfl⟩⟩)
    · -- 7 false
      refine x_iconst h (nI 1) dX0_isPlace_10 (by decide) ?_
      refine x_goto h 15 dX0_isPlace_11 (by decide) ?_
      exact hret _ _ _ _ _ dX0_isPlace_15 (by decide) (by exact ⟨⟨rfl, rfl⟩, Or.inl ⟨InR_of (by decide) c_1 c_7, rfl⟩⟩)

theorem dX0_hasNet_0 : decode cX0_hasNet 0 = .ok (.iload_n 1, 1) := by decide +kernel
theorem dX0_hasNet_1 : decode cX0_hasNet 1 = .ok (.ifCond .lt 21, 3) := by decide +kernel
theorem dX0_hasNet_4 : decode cX0_hasNet 4 = .ok (.iload_n 1, 1) := by decide +kernel
theorem dX0_hasNet_5 : decode cX0_hasNet 5 = .ok (.aload_n 0, 1) := by decide +kernel
theorem dX0_hasNet_6 : decode cX0_hasNet 6 = .ok (.getfield 41, 3) := by decide +kernel
theorem dX0_hasNet_9 : decode cX0_hasNet 9 = .ok (.if_icmp .ge 13, 3) := by decide +kernel
theorem dX0_hasNet_12 : decode cX0_hasNet 12 = .ok (.iload_n 1, 1) := by decide +kernel
theorem dX0_hasNet_13 : decode cX0_hasNet 13 = .ok (.bipush 6, 2) := by decide +kernel
theorem dX0_hasNet_15 : decode cX0_hasNet 15 = .ok (.if_icmp .ge 7, 3) := by decide +kernel
theorem dX0_hasNet_18 : decode cX0_hasNet 18 = .ok (.iconst 1, 1) := by decide +kernel
theorem dX0_hasNet_19 : decode cX0_hasNet 19 = .ok (.goto 4, 3) := by decide +kernel
theorem dX0_hasNet_22 : decode cX0_hasNet 22 = .ok (.iconst 0, 1) := by decide +kernel
theorem dX0_hasNet_23 : decode cX0_hasNet 23 = .ok (.ireturn, 1) := by decide +kernel
abbrev rmX0_hasNet : Room := { frames := 0, cells := 0, slots := 0, locals := 0 }
set_option maxRecDepth 20000 in
theorem in_X0_hasNet_X0 : ∀ w ∈ wsX00, w ∈ wsX0_hasNet := by decide +kernel

set_option maxRecDepth 100000 in
set_option maxHeartbeats 4000000 in
theorem c_X0_hasNet {l : Launch} {g : Geo} {M : Nat → Nat → Int32} {P : Nat → Nat} {c : Nat} (hc : c < 6) {N : Nat} (hN : M c 5 = nI N) (hN6 : N ≤ 6) {n : Int32} : Met l yX0_hasNet wsX0_hasNet rmX0_hasNet (cPre g [.ref (g.1 (24 * c)), .int n] M P) (cQi g (fun r M' P' => (P = P' ∧ M = M') ∧ ((InR N n ∧ r = nI 1) ∨ (¬ InR N n ∧ r = nI 0)))) 0 0 (gA g) := by
  refine met_z (cc := cX0_hasNet) (maxL := 2) (by decide) rfl ⟨rfl, rfl⟩ (Nat.le_of_ble_eq_true rfl) (fun x hx h hret => ?_)
  replace h : Cxk x g cX0_hasNet 2 wsX0_hasNet RX0 rmX0_hasNet := h
  show X x 0 [(0, .ref (g.1 (24 * c))), (1, .int n)] [] M P
  refine x_iload_n h 1 dX0_hasNet_0 rfl rfl ?_
  refine x_if_lt h 22 dX0_hasNet_1 (by decide) (fun c_1 => ?_) (fun c_1 => ?_)
  · -- 1 true
    refine x_iconst h (nI 0) dX0_hasNet_22 (by decide) ?_
    exact hret _ _ _ _ _ dX0_hasNet_23 (by decide) (by exact ⟨⟨rfl, rfl⟩, Or.inr ⟨by first | exact InR_no1 (by omega) c_1 | exact InR_no2 (by omega) c_9 | exact InR_no3 (by omega) (by decide) c_15, rfl⟩⟩)
  · -- 1 false
    refine x_iload_n h 1 dX0_hasNet_4 rfl rfl ?_
    refine x_aload_n h 0 dX0_hasNet_5 rfl rfl ?_
    refine xg_X0_5 h hc in_X0_hasNet_X0 (by decide +kernel) dX0_hasNet_6 ?_
    refine x_top (nI N) (hN) ?_
    refine x_icmp_ge h 22 dX0_hasNet_9 (by decide) (fun c_9 => ?_) (fun c_9 => ?_)
    · -- 9 true
      refine x_iconst h (nI 0) dX0_hasNet_22 (by decide) ?_
      exact hret _ _ _ _ _ dX0_hasNet_23 (by decide) (by exact ⟨⟨rfl, rfl⟩, Or.inr ⟨by first | exact InR_no1 (by omega) c_1 | exact InR_no2 (by omega) c_9 | exact InR_no3 (by omega) (by decide) c_15, rfl⟩⟩)
    · -- 9 false
      refine x_iload_n h 1 dX0_hasNet_12 rfl rfl ?_
      refine x_bipush h (nI 6) dX0_hasNet_13 (by decide) ?_
      refine x_icmp_ge h 22 dX0_hasNet_15 (by decide) (fun c_15 => ?_) (fun c_15 => ?_)
      · -- 15 true
        refine x_iconst h (nI 0) dX0_hasNet_22 (by decide) ?_
        exact hret _ _ _ _ _ dX0_hasNet_23 (by decide) (by exact ⟨⟨rfl, rfl⟩, Or.inr ⟨by first | exact InR_no1 (by omega) c_1 | exact InR_no2 (by omega) c_9 | exact InR_no3 (by omega) (by decide) c_15, rfl⟩⟩)
      · -- 15 false
        refine x_iconst h (nI 1) dX0_hasNet_18 (by decide) ?_
        refine x_goto h 23 dX0_hasNet_19 (by decide) ?_
        exact hret _ _ _ _ _ dX0_hasNet_23 (by decide) (by exact ⟨⟨rfl, rfl⟩, Or.inl ⟨InR_of (by omega) c_1 c_9, rfl⟩⟩)

theorem dX0_hasClaim_0 : decode cX0_hasClaim 0 = .ok (.iload_n 1, 1) := by decide +kernel
theorem dX0_hasClaim_1 : decode cX0_hasClaim 1 = .ok (.ifCond .lt 21, 3) := by decide +kernel
theorem dX0_hasClaim_4 : decode cX0_hasClaim 4 = .ok (.iload_n 1, 1) := by decide +kernel
theorem dX0_hasClaim_5 : decode cX0_hasClaim 5 = .ok (.aload_n 0, 1) := by decide +kernel
theorem dX0_hasClaim_6 : decode cX0_hasClaim 6 = .ok (.getfield 49, 3) := by decide +kernel
theorem dX0_hasClaim_9 : decode cX0_hasClaim 9 = .ok (.if_icmp .ge 13, 3) := by decide +kernel
theorem dX0_hasClaim_12 : decode cX0_hasClaim 12 = .ok (.iload_n 1, 1) := by decide +kernel
theorem dX0_hasClaim_13 : decode cX0_hasClaim 13 = .ok (.bipush 12, 2) := by decide +kernel
theorem dX0_hasClaim_15 : decode cX0_hasClaim 15 = .ok (.if_icmp .ge 7, 3) := by decide +kernel
theorem dX0_hasClaim_18 : decode cX0_hasClaim 18 = .ok (.iconst 1, 1) := by decide +kernel
theorem dX0_hasClaim_19 : decode cX0_hasClaim 19 = .ok (.goto 4, 3) := by decide +kernel
theorem dX0_hasClaim_22 : decode cX0_hasClaim 22 = .ok (.iconst 0, 1) := by decide +kernel
theorem dX0_hasClaim_23 : decode cX0_hasClaim 23 = .ok (.ireturn, 1) := by decide +kernel
abbrev rmX0_hasClaim : Room := { frames := 0, cells := 0, slots := 0, locals := 0 }
set_option maxRecDepth 20000 in
theorem in_X0_hasClaim_X0 : ∀ w ∈ wsX00, w ∈ wsX0_hasClaim := by decide +kernel

set_option maxRecDepth 100000 in
set_option maxHeartbeats 4000000 in
theorem c_X0_hasClaim {l : Launch} {g : Geo} {M : Nat → Nat → Int32} {P : Nat → Nat} {c : Nat} (hc : c < 6) {K : Nat} (hK : M c 6 = nI K) (hK12 : K ≤ 12) {n : Int32} : Met l yX0_hasClaim wsX0_hasClaim rmX0_hasClaim (cPre g [.ref (g.1 (24 * c)), .int n] M P) (cQi g (fun r M' P' => (P = P' ∧ M = M') ∧ ((InR K n ∧ r = nI 1) ∨ (¬ InR K n ∧ r = nI 0)))) 0 0 (gA g) := by
  refine met_z (cc := cX0_hasClaim) (maxL := 2) (by decide) rfl ⟨rfl, rfl⟩ (Nat.le_of_ble_eq_true rfl) (fun x hx h hret => ?_)
  replace h : Cxk x g cX0_hasClaim 2 wsX0_hasClaim RX0 rmX0_hasClaim := h
  show X x 0 [(0, .ref (g.1 (24 * c))), (1, .int n)] [] M P
  refine x_iload_n h 1 dX0_hasClaim_0 rfl rfl ?_
  refine x_if_lt h 22 dX0_hasClaim_1 (by decide) (fun c_1 => ?_) (fun c_1 => ?_)
  · -- 1 true
    refine x_iconst h (nI 0) dX0_hasClaim_22 (by decide) ?_
    exact hret _ _ _ _ _ dX0_hasClaim_23 (by decide) (by exact ⟨⟨rfl, rfl⟩, Or.inr ⟨by first | exact InR_no1 (by omega) c_1 | exact InR_no2 (by omega) c_9 | exact InR_no3 (by omega) (by decide) c_15, rfl⟩⟩)
  · -- 1 false
    refine x_iload_n h 1 dX0_hasClaim_4 rfl rfl ?_
    refine x_aload_n h 0 dX0_hasClaim_5 rfl rfl ?_
    refine xg_X0_6 h hc in_X0_hasClaim_X0 (by decide +kernel) dX0_hasClaim_6 ?_
    refine x_top (nI K) (hK) ?_
    refine x_icmp_ge h 22 dX0_hasClaim_9 (by decide) (fun c_9 => ?_) (fun c_9 => ?_)
    · -- 9 true
      refine x_iconst h (nI 0) dX0_hasClaim_22 (by decide) ?_
      exact hret _ _ _ _ _ dX0_hasClaim_23 (by decide) (by exact ⟨⟨rfl, rfl⟩, Or.inr ⟨by first | exact InR_no1 (by omega) c_1 | exact InR_no2 (by omega) c_9 | exact InR_no3 (by omega) (by decide) c_15, rfl⟩⟩)
    · -- 9 false
      refine x_iload_n h 1 dX0_hasClaim_12 rfl rfl ?_
      refine x_bipush h (nI 12) dX0_hasClaim_13 (by decide) ?_
      refine x_icmp_ge h 22 dX0_hasClaim_15 (by decide) (fun c_15 => ?_) (fun c_15 => ?_)
      · -- 15 true
        refine x_iconst h (nI 0) dX0_hasClaim_22 (by decide) ?_
        exact hret _ _ _ _ _ dX0_hasClaim_23 (by decide) (by exact ⟨⟨rfl, rfl⟩, Or.inr ⟨by first | exact InR_no1 (by omega) c_1 | exact InR_no2 (by omega) c_9 | exact InR_no3 (by omega) (by decide) c_15, rfl⟩⟩)
      · -- 15 false
        refine x_iconst h (nI 1) dX0_hasClaim_18 (by decide) ?_
        refine x_goto h 23 dX0_hasClaim_19 (by decide) ?_
        exact hret _ _ _ _ _ dX0_hasClaim_23 (by decide) (by exact ⟨⟨rfl, rfl⟩, Or.inl ⟨InR_of (by omega) c_1 c_9, rfl⟩⟩)

theorem dX0_cellsOwnedBy_0 : decode cX0_cellsOwnedBy 0 = .ok (.iconst 0, 1) := by decide +kernel
theorem dX0_cellsOwnedBy_1 : decode cX0_cellsOwnedBy 1 = .ok (.istore_n 2, 1) := by decide +kernel
theorem dX0_cellsOwnedBy_2 : decode cX0_cellsOwnedBy 2 = .ok (.iconst 0, 1) := by decide +kernel
theorem dX0_cellsOwnedBy_3 : decode cX0_cellsOwnedBy 3 = .ok (.istore_n 3, 1) := by decide +kernel
theorem dX0_cellsOwnedBy_4 : decode cX0_cellsOwnedBy 4 = .ok (.iload_n 3, 1) := by decide +kernel
theorem dX0_cellsOwnedBy_5 : decode cX0_cellsOwnedBy 5 = .ok (.sipush 162, 3) := by decide +kernel
theorem dX0_cellsOwnedBy_8 : decode cX0_cellsOwnedBy 8 = .ok (.if_icmp .ge 22, 3) := by decide +kernel
theorem dX0_cellsOwnedBy_11 : decode cX0_cellsOwnedBy 11 = .ok (.aload_n 0, 1) := by decide +kernel
theorem dX0_cellsOwnedBy_12 : decode cX0_cellsOwnedBy 12 = .ok (.getfield 15, 3) := by decide +kernel
theorem dX0_cellsOwnedBy_15 : decode cX0_cellsOwnedBy 15 = .ok (.iload_n 3, 1) := by decide +kernel
theorem dX0_cellsOwnedBy_16 : decode cX0_cellsOwnedBy 16 = .ok (.iaload, 1) := by decide +kernel
theorem dX0_cellsOwnedBy_17 : decode cX0_cellsOwnedBy 17 = .ok (.iload_n 1, 1) := by decide +kernel
theorem dX0_cellsOwnedBy_18 : decode cX0_cellsOwnedBy 18 = .ok (.if_icmp .ne 6, 3) := by decide +kernel
theorem dX0_cellsOwnedBy_21 : decode cX0_cellsOwnedBy 21 = .ok (.iinc 2 1, 3) := by decide +kernel
theorem dX0_cellsOwnedBy_24 : decode cX0_cellsOwnedBy 24 = .ok (.iinc 3 1, 3) := by decide +kernel
theorem dX0_cellsOwnedBy_27 : decode cX0_cellsOwnedBy 27 = .ok (.goto (-23), 3) := by decide +kernel
theorem dX0_cellsOwnedBy_30 : decode cX0_cellsOwnedBy 30 = .ok (.iload_n 2, 1) := by decide +kernel
theorem dX0_cellsOwnedBy_31 : decode cX0_cellsOwnedBy 31 = .ok (.ireturn, 1) := by decide +kernel
abbrev rmX0_cellsOwnedBy : Room := { frames := 0, cells := 0, slots := 0, locals := 0 }
set_option maxRecDepth 20000 in
theorem in_X0_cellsOwnedBy_X0 : ∀ w ∈ wsX00, w ∈ wsX0_cellsOwnedBy := by decide +kernel

set_option maxRecDepth 100000 in
set_option maxHeartbeats 4000000 in
theorem c_X0_cellsOwnedBy {l : Launch} {g : Geo} {M : Nat → Nat → Int32} {P : Nat → Nat} {c : Nat} (hc : c < 6) {n : Int32} : Met l yX0_cellsOwnedBy wsX0_cellsOwnedBy rmX0_cellsOwnedBy (cPre g [.ref (g.1 (24 * c)), .int n] M P) (cQi g (fun r M' P' => (P = P' ∧ M = M') ∧ r = nI (wir (M c) n))) 0 0 (gA g) := by
  refine met_i (cc := cX0_cellsOwnedBy) (maxL := 4) (by decide) rfl ⟨rfl, rfl⟩ (Nat.le_of_ble_eq_true rfl) (fun x hx h hret => ?_)
  replace h : Cxk x g cX0_cellsOwnedBy 4 wsX0_cellsOwnedBy RX0 rmX0_cellsOwnedBy := h
  show X x 0 [(0, .ref (g.1 (24 * c))), (1, .int n)] [] M P
  refine x_iconst h (nI 0) dX0_cellsOwnedBy_0 (by decide) ?_
  refine x_istore_n h [(2, .int (nI 0)), (0, .ref (g.1 (24 * c))), (1, .int n)] dX0_cellsOwnedBy_1 rfl (by decide) rfl ?_
  refine x_iconst h (nI 0) dX0_cellsOwnedBy_2 (by decide) ?_
  refine x_istore_n h [(3, .int (nI 0)), (2, .int (nI 0)), (0, .ref (g.1 (24 * c))), (1, .int n)] dX0_cellsOwnedBy_3 rfl (by decide) rfl ?_
  have L4 : ∀ (fu : Nat) (i : Nat) (k : Nat), (162 - i) < fu → (i ≤ 162) → (k = cnt (fun a => decide (M c (7 + a) = n)) i) → X x 4 [(0, .ref (g.1 (24 * c))), (1, .int n), (2, .int (nI k)), (3, .int (nI i))] [] M P := by
    intro fu
    induction fu with
    | zero => intro i k hmu4; exact absurd hmu4 (Nat.not_lt_zero _)
    | succ fu ih4 =>
      intro i k hmu4 hi hk
      refine x_iload_n h 3 dX0_cellsOwnedBy_4 rfl rfl ?_
      refine x_sipush h (nI 162) dX0_cellsOwnedBy_5 (by decide) ?_
      refine x_icmp_ge_n h 30 dX0_cellsOwnedBy_8 (by decide) (by omega) (by decide) (fun c_8 => ?_) (fun c_8 => ?_)
      · -- 8 true
        refine x_iload_n h 2 dX0_cellsOwnedBy_30 rfl rfl ?_
        exact hret _ _ _ _ _ dX0_cellsOwnedBy_31 (by obtain rfl : i = 162 := (by omega); subst hk; exact ⟨⟨rfl, rfl⟩, rfl⟩)
      · -- 8 false
        refine x_aload_n h 0 dX0_cellsOwnedBy_11 rfl rfl ?_
        refine xg_X0_1 h hc in_X0_cellsOwnedBy_X0 (by decide +kernel) dX0_cellsOwnedBy_12 ?_
        refine x_iload_n h 3 dX0_cellsOwnedBy_15 rfl rfl ?_
        refine xl_own h hc dX0_cellsOwnedBy_16 (by omega) ?_
        refine x_iload_n h 1 dX0_cellsOwnedBy_17 rfl rfl ?_
        refine x_icmp_ne h 24 dX0_cellsOwnedBy_18 (by decide) (fun c_18 => ?_) (fun c_18 => ?_)
        · -- 18 true
          refine x_iinc_n h 3 (n := 1) [(3, .int (nI (i + 1))), (0, .ref (g.1 (24 * c))), (1, .int n), (2, .int (nI k))] dX0_cellsOwnedBy_24 rfl (by decide) rfl ?_
          refine x_goto h 4 dX0_cellsOwnedBy_27 (by decide) ?_
          exact x_lv (ih4 (i + 1) k (by omega) (by omega) (by simp [cnt, hk, c_18])) [1, 2, 3, 0] rfl
        · -- 18 false
          refine x_iinc_n h 2 (n := 1) [(2, .int (nI (k + 1))), (0, .ref (g.1 (24 * c))), (1, .int n), (3, .int (nI i))] dX0_cellsOwnedBy_21 rfl (by decide) rfl ?_
          refine x_iinc_n h 3 (n := 1) [(3, .int (nI (i + 1))), (2, .int (nI (k + 1))), (0, .ref (g.1 (24 * c))), (1, .int n)] dX0_cellsOwnedBy_24 rfl (by decide) rfl ?_
          refine x_goto h 4 dX0_cellsOwnedBy_27 (by decide) ?_
          exact x_lv (ih4 (i + 1) (k + 1) (by omega) (by omega) (by simp [cnt, hk, c_18])) [2, 3, 1, 0] rfl
  exact x_lv (L4 _ 0 0 (Nat.lt_succ_self _) (by omega) (by rfl)) [2, 3, 1, 0] rfl

theorem dX0_viasOf_0 : decode cX0_viasOf 0 = .ok (.iconst 0, 1) := by decide +kernel
theorem dX0_viasOf_1 : decode cX0_viasOf 1 = .ok (.istore_n 2, 1) := by decide +kernel
theorem dX0_viasOf_2 : decode cX0_viasOf 2 = .ok (.iconst 0, 1) := by decide +kernel
theorem dX0_viasOf_3 : decode cX0_viasOf 3 = .ok (.istore_n 3, 1) := by decide +kernel
theorem dX0_viasOf_4 : decode cX0_viasOf 4 = .ok (.iload_n 3, 1) := by decide +kernel
theorem dX0_viasOf_5 : decode cX0_viasOf 5 = .ok (.bipush 81, 2) := by decide +kernel
theorem dX0_viasOf_7 : decode cX0_viasOf 7 = .ok (.if_icmp .ge 35, 3) := by decide +kernel
theorem dX0_viasOf_10 : decode cX0_viasOf 10 = .ok (.aload_n 0, 1) := by decide +kernel
theorem dX0_viasOf_11 : decode cX0_viasOf 11 = .ok (.getfield 15, 3) := by decide +kernel
theorem dX0_viasOf_14 : decode cX0_viasOf 14 = .ok (.iload_n 3, 1) := by decide +kernel
theorem dX0_viasOf_15 : decode cX0_viasOf 15 = .ok (.iaload, 1) := by decide +kernel
theorem dX0_viasOf_16 : decode cX0_viasOf 16 = .ok (.iload_n 1, 1) := by decide +kernel
theorem dX0_viasOf_17 : decode cX0_viasOf 17 = .ok (.if_icmp .ne 19, 3) := by decide +kernel
theorem dX0_viasOf_20 : decode cX0_viasOf 20 = .ok (.aload_n 0, 1) := by decide +kernel
theorem dX0_viasOf_21 : decode cX0_viasOf 21 = .ok (.getfield 15, 3) := by decide +kernel
theorem dX0_viasOf_24 : decode cX0_viasOf 24 = .ok (.iload_n 3, 1) := by decide +kernel
theorem dX0_viasOf_25 : decode cX0_viasOf 25 = .ok (.bipush 81, 2) := by decide +kernel
theorem dX0_viasOf_27 : decode cX0_viasOf 27 = .ok (.iadd, 1) := by decide +kernel
theorem dX0_viasOf_28 : decode cX0_viasOf 28 = .ok (.iaload, 1) := by decide +kernel
theorem dX0_viasOf_29 : decode cX0_viasOf 29 = .ok (.iload_n 1, 1) := by decide +kernel
theorem dX0_viasOf_30 : decode cX0_viasOf 30 = .ok (.if_icmp .ne 6, 3) := by decide +kernel
theorem dX0_viasOf_33 : decode cX0_viasOf 33 = .ok (.iinc 2 1, 3) := by decide +kernel
theorem dX0_viasOf_36 : decode cX0_viasOf 36 = .ok (.iinc 3 1, 3) := by decide +kernel
theorem dX0_viasOf_39 : decode cX0_viasOf 39 = .ok (.goto (-35), 3) := by decide +kernel
theorem dX0_viasOf_42 : decode cX0_viasOf 42 = .ok (.iload_n 2, 1) := by decide +kernel
theorem dX0_viasOf_43 : decode cX0_viasOf 43 = .ok (.ireturn, 1) := by decide +kernel
abbrev rmX0_viasOf : Room := { frames := 0, cells := 0, slots := 0, locals := 0 }
set_option maxRecDepth 20000 in
theorem in_X0_viasOf_X0 : ∀ w ∈ wsX00, w ∈ wsX0_viasOf := by decide +kernel

set_option maxRecDepth 100000 in
set_option maxHeartbeats 4000000 in
theorem c_X0_viasOf {l : Launch} {g : Geo} {M : Nat → Nat → Int32} {P : Nat → Nat} {c : Nat} (hc : c < 6) {n : Int32} : Met l yX0_viasOf wsX0_viasOf rmX0_viasOf (cPre g [.ref (g.1 (24 * c)), .int n] M P) (cQi g (fun r M' P' => (P = P' ∧ M = M') ∧ r = nI (via (M c) n))) 0 0 (gA g) := by
  refine met_i (cc := cX0_viasOf) (maxL := 4) (by decide) rfl ⟨rfl, rfl⟩ (Nat.le_of_ble_eq_true rfl) (fun x hx h hret => ?_)
  replace h : Cxk x g cX0_viasOf 4 wsX0_viasOf RX0 rmX0_viasOf := h
  show X x 0 [(0, .ref (g.1 (24 * c))), (1, .int n)] [] M P
  refine x_iconst h (nI 0) dX0_viasOf_0 (by decide) ?_
  refine x_istore_n h [(2, .int (nI 0)), (0, .ref (g.1 (24 * c))), (1, .int n)] dX0_viasOf_1 rfl (by decide) rfl ?_
  refine x_iconst h (nI 0) dX0_viasOf_2 (by decide) ?_
  refine x_istore_n h [(3, .int (nI 0)), (2, .int (nI 0)), (0, .ref (g.1 (24 * c))), (1, .int n)] dX0_viasOf_3 rfl (by decide) rfl ?_
  have L4 : ∀ (fu : Nat) (i : Nat) (k : Nat), (81 - i) < fu → (i ≤ 81) → (k = cnt (fun a => decide (M c (7 + a) = n ∧ M c (7 + (a + 81)) = n)) i) → X x 4 [(0, .ref (g.1 (24 * c))), (1, .int n), (2, .int (nI k)), (3, .int (nI i))] [] M P := by
    intro fu
    induction fu with
    | zero => intro i k hmu4; exact absurd hmu4 (Nat.not_lt_zero _)
    | succ fu ih4 =>
      intro i k hmu4 hi hk
      refine x_iload_n h 3 dX0_viasOf_4 rfl rfl ?_
      refine x_bipush h (nI 81) dX0_viasOf_5 (by decide) ?_
      refine x_icmp_ge_n h 42 dX0_viasOf_7 (by decide) (by omega) (by decide) (fun c_7 => ?_) (fun c_7 => ?_)
      · -- 7 true
        refine x_iload_n h 2 dX0_viasOf_42 rfl rfl ?_
        exact hret _ _ _ _ _ dX0_viasOf_43 (by obtain rfl : i = 81 := (by omega); subst hk; exact ⟨⟨rfl, rfl⟩, rfl⟩)
      · -- 7 false
        refine x_aload_n h 0 dX0_viasOf_10 rfl rfl ?_
        refine xg_X0_1 h hc in_X0_viasOf_X0 (by decide +kernel) dX0_viasOf_11 ?_
        refine x_iload_n h 3 dX0_viasOf_14 rfl rfl ?_
        refine xl_own h hc dX0_viasOf_15 (by omega) ?_
        refine x_iload_n h 1 dX0_viasOf_16 rfl rfl ?_
        refine x_icmp_ne h 36 dX0_viasOf_17 (by decide) (fun c_17 => ?_) (fun c_17 => ?_)
        · -- 17 true
          refine x_iinc_n h 3 (n := 1) [(3, .int (nI (i + 1))), (0, .ref (g.1 (24 * c))), (1, .int n), (2, .int (nI k))] dX0_viasOf_36 rfl (by decide) rfl ?_
          refine x_goto h 4 dX0_viasOf_39 (by decide) ?_
          exact x_lv (ih4 (i + 1) k (by omega) (by omega) (by simp [cnt, hk, *])) [1, 2, 3, 0] rfl
        · -- 17 false
          refine x_aload_n h 0 dX0_viasOf_20 rfl rfl ?_
          refine xg_X0_1 h hc in_X0_viasOf_X0 (by decide +kernel) dX0_viasOf_21 ?_
          refine x_iload_n h 3 dX0_viasOf_24 rfl rfl ?_
          refine x_bipush h (nI 81) dX0_viasOf_25 (by decide) ?_
          refine x_iadd_n h dX0_viasOf_27 ?_
          refine xl_own h hc dX0_viasOf_28 (by omega) ?_
          refine x_iload_n h 1 dX0_viasOf_29 rfl rfl ?_
          refine x_icmp_ne h 36 dX0_viasOf_30 (by decide) (fun c_30 => ?_) (fun c_30 => ?_)
          · -- 30 true
            refine x_iinc_n h 3 (n := 1) [(3, .int (nI (i + 1))), (0, .ref (g.1 (24 * c))), (1, .int n), (2, .int (nI k))] dX0_viasOf_36 rfl (by decide) rfl ?_
            refine x_goto h 4 dX0_viasOf_39 (by decide) ?_
            exact x_lv (ih4 (i + 1) k (by omega) (by omega) (by simp [cnt, hk, *])) [1, 2, 3, 0] rfl
          · -- 30 false
            refine x_iinc_n h 2 (n := 1) [(2, .int (nI (k + 1))), (0, .ref (g.1 (24 * c))), (1, .int n), (3, .int (nI i))] dX0_viasOf_33 rfl (by decide) rfl ?_
            refine x_iinc_n h 3 (n := 1) [(3, .int (nI (i + 1))), (2, .int (nI (k + 1))), (0, .ref (g.1 (24 * c))), (1, .int n)] dX0_viasOf_36 rfl (by decide) rfl ?_
            refine x_goto h 4 dX0_viasOf_39 (by decide) ?_
            exact x_lv (ih4 (i + 1) (k + 1) (by omega) (by omega) (by simp [cnt, hk, *])) [2, 3, 1, 0] rfl
  exact x_lv (L4 _ 0 0 (Nat.lt_succ_self _) (by omega) (by rfl)) [2, 3, 1, 0] rfl

set_option maxRecDepth 20000 in
theorem ggX0_isFreePlace_X0_isPlace : GoodIn wsX0_isFreePlace wsX0_isPlace := goodIn_r _ [5] (by decide +kernel) (by decide +kernel)
set_option maxRecDepth 20000 in
theorem gX0_isFreePlace_X0_isPlace : GoodIn wsX0_isFreePlace (va_wsS RX0 70 yX0_isPlace wsX0_isPlace) := goodIn_app (goodIn_of _ (by decide +kernel)) ggX0_isFreePlace_X0_isPlace
theorem dX0_isFreePlace_0 : decode cX0_isFreePlace 0 = .ok (.iload_n 1, 1) := by decide +kernel
theorem dX0_isFreePlace_1 : decode cX0_isFreePlace 1 = .ok (.invokestatic 70, 3) := by decide +kernel
theorem dX0_isFreePlace_4 : decode cX0_isFreePlace 4 = .ok (.ifCond .eq 30, 3) := by decide +kernel
theorem dX0_isFreePlace_7 : decode cX0_isFreePlace 7 = .ok (.aload_n 0, 1) := by decide +kernel
theorem dX0_isFreePlace_8 : decode cX0_isFreePlace 8 = .ok (.getfield 15, 3) := by decide +kernel
theorem dX0_isFreePlace_11 : decode cX0_isFreePlace 11 = .ok (.iload_n 1, 1) := by decide +kernel
theorem dX0_isFreePlace_12 : decode cX0_isFreePlace 12 = .ok (.iaload, 1) := by decide +kernel
theorem dX0_isFreePlace_13 : decode cX0_isFreePlace 13 = .ok (.iconst (-1), 1) := by decide +kernel
theorem dX0_isFreePlace_14 : decode cX0_isFreePlace 14 = .ok (.if_icmp .ne 20, 3) := by decide +kernel
theorem dX0_isFreePlace_17 : decode cX0_isFreePlace 17 = .ok (.aload_n 0, 1) := by decide +kernel
theorem dX0_isFreePlace_18 : decode cX0_isFreePlace 18 = .ok (.getfield 15, 3) := by decide +kernel
theorem dX0_isFreePlace_21 : decode cX0_isFreePlace 21 = .ok (.iload_n 1, 1) := by decide +kernel
theorem dX0_isFreePlace_22 : decode cX0_isFreePlace 22 = .ok (.bipush 81, 2) := by decide +kernel
theorem dX0_isFreePlace_24 : decode cX0_isFreePlace 24 = .ok (.iadd, 1) := by decide +kernel
theorem dX0_isFreePlace_25 : decode cX0_isFreePlace 25 = .ok (.iaload, 1) := by decide +kernel
theorem dX0_isFreePlace_26 : decode cX0_isFreePlace 26 = .ok (.iconst (-1), 1) := by decide +kernel
theorem dX0_isFreePlace_27 : decode cX0_isFreePlace 27 = .ok (.if_icmp .ne 7, 3) := by decide +kernel
theorem dX0_isFreePlace_30 : decode cX0_isFreePlace 30 = .ok (.iconst 1, 1) := by decide +kernel
theorem dX0_isFreePlace_31 : decode cX0_isFreePlace 31 = .ok (.goto 4, 3) := by decide +kernel
theorem dX0_isFreePlace_34 : decode cX0_isFreePlace 34 = .ok (.iconst 0, 1) := by decide +kernel
theorem dX0_isFreePlace_35 : decode cX0_isFreePlace 35 = .ok (.ireturn, 1) := by decide +kernel
abbrev rmX0_isFreePlace : Room := { frames := 1, cells := 0, slots := 0, locals := 20 }
set_option maxRecDepth 20000 in
theorem in_X0_isFreePlace_X0 : ∀ w ∈ wsX00, w ∈ wsX0_isFreePlace := by decide +kernel

set_option maxRecDepth 100000 in
set_option maxHeartbeats 4000000 in
theorem c_X0_isFreePlace {l : Launch} {g : Geo} {M : Nat → Nat → Int32} {P : Nat → Nat} {c : Nat} (hc : c < 6) {n : Int32} : Met l yX0_isFreePlace wsX0_isFreePlace rmX0_isFreePlace (cPre g [.ref (g.1 (24 * c)), .int n] M P) (cQi g (fun r M' P' => (P = P' ∧ M = M') ∧ ((FP (M c) n ∧ r = nI 1) ∨ (¬ FP (M c) n ∧ r = nI 0)))) 0 0 (gA g) := by
  refine met_z (cc := cX0_isFreePlace) (maxL := 2) (by decide) rfl ⟨rfl, rfl⟩ (Nat.le_of_ble_eq_true rfl) (fun x hx h hret => ?_)
  replace h : Cxk x g cX0_isFreePlace 2 wsX0_isFreePlace RX0 rmX0_isFreePlace := h
  show X x 0 [(0, .ref (g.1 (24 * c))), (1, .int n)] [] M P
  refine x_iload_n h 1 dX0_isFreePlace_0 rfl rfl ?_
  refine x_callS h (As := [.int n]) 1 hx (c_X0_isPlace) gX0_isFreePlace_X0_isPlace rfl ⟨rfl, rfl⟩ (by decide +kernel) rfl (by decide) (Nat.le_of_ble_eq_true rfl) dX0_isFreePlace_1 (fun rv M' P' hp => ?_)
  obtain ⟨⟨rfl, rfl⟩, hp⟩ := hp
  rcases hp with ⟨⟨k1, hk1, rfl⟩, rfl⟩ | ⟨nk1, rfl⟩
  · -- call 1
    refine x_if_eq h 34 dX0_isFreePlace_4 (by decide) (fun c => absurd c (by decide)) (fun _ => ?_)
    refine x_aload_n h 0 dX0_isFreePlace_7 rfl rfl ?_
    refine xg_X0_1 h hc in_X0_isFreePlace_X0 (by decide +kernel) dX0_isFreePlace_8 ?_
    refine x_iload_n h 1 dX0_isFreePlace_11 rfl rfl ?_
    refine xl_own h hc dX0_isFreePlace_12 (by omega) ?_
    refine x_iconst h ((-1)) dX0_isFreePlace_13 (by decide) ?_
    refine x_icmp_ne h 34 dX0_isFreePlace_14 (by decide) (fun c_14 => ?_) (fun c_14 => ?_)
    · -- 14 true
      refine x_iconst h (nI 0) dX0_isFreePlace_34 (by decide) ?_
      exact hret _ _ _ _ _ dX0_isFreePlace_35 (by decide) (by exact ⟨⟨rfl, rfl⟩, Or.inr ⟨by first | (exact fun ⟨j, hj, e, _, _⟩ => nk1 ⟨j, hj, e⟩) | (rintro ⟨j, hj, e, e1, e2⟩; obtain rfl := (nI_eq (by omega) (by omega)).mp e; first | exact c_14 e1 | exact c_27 e2), rfl⟩⟩)
    · -- 14 false
      refine x_aload_n h 0 dX0_isFreePlace_17 rfl rfl ?_
      refine xg_X0_1 h hc in_X0_isFreePlace_X0 (by decide +kernel) dX0_isFreePlace_18 ?_
      refine x_iload_n h 1 dX0_isFreePlace_21 rfl rfl ?_
      refine x_bipush h (nI 81) dX0_isFreePlace_22 (by decide) ?_
      refine x_iadd_n h dX0_isFreePlace_24 ?_
      refine xl_own h hc dX0_isFreePlace_25 (by omega) ?_
      refine x_iconst h ((-1)) dX0_isFreePlace_26 (by decide) ?_
      refine x_icmp_ne h 34 dX0_isFreePlace_27 (by decide) (fun c_27 => ?_) (fun c_27 => ?_)
      · -- 27 true
        refine x_iconst h (nI 0) dX0_isFreePlace_34 (by decide) ?_
        exact hret _ _ _ _ _ dX0_isFreePlace_35 (by decide) (by exact ⟨⟨rfl, rfl⟩, Or.inr ⟨by first | (exact fun ⟨j, hj, e, _, _⟩ => nk1 ⟨j, hj, e⟩) | (rintro ⟨j, hj, e, e1, e2⟩; obtain rfl := (nI_eq (by omega) (by omega)).mp e; first | exact c_14 e1 | exact c_27 e2), rfl⟩⟩)
      · -- 27 false
        refine x_iconst h (nI 1) dX0_isFreePlace_30 (by decide) ?_
        refine x_goto h 35 dX0_isFreePlace_31 (by decide) ?_
        exact hret _ _ _ _ _ dX0_isFreePlace_35 (by decide) (by exact ⟨⟨rfl, rfl⟩, Or.inl ⟨⟨k1, hk1, rfl, c_14, c_27⟩, rfl⟩⟩)
  · -- call 1
    refine x_if_eq h 34 dX0_isFreePlace_4 (by decide) (fun _ => ?_) (fun c => absurd (by decide) c)
    refine x_iconst h (nI 0) dX0_isFreePlace_34 (by decide) ?_
    exact hret _ _ _ _ _ dX0_isFreePlace_35 (by decide) (by exact ⟨⟨rfl, rfl⟩, Or.inr ⟨by first | (exact fun ⟨j, hj, e, _, _⟩ => nk1 ⟨j, hj, e⟩) | (rintro ⟨j, hj, e, e1, e2⟩; obtain rfl := (nI_eq (by omega) (by omega)).mp e; first | exact c_14 e1 | exact c_27 e2), rfl⟩⟩)

set_option maxRecDepth 20000 in
theorem ggX0_blockedPlaces_X0_cellsOwnedBy : GoodIn wsX0_blockedPlaces wsX0_cellsOwnedBy := goodIn_r _ [5, 6, 7, 8, 9, 10, 11, 12, 13, 14] (by decide +kernel) (by decide +kernel)
set_option maxRecDepth 20000 in
theorem gX0_blockedPlaces_X0_cellsOwnedBy : GoodIn wsX0_blockedPlaces (wsV RX0 115 RX0 yX0_cellsOwnedBy wsX0_cellsOwnedBy) := goodIn_app (goodIn_of _ (by decide +kernel)) ggX0_blockedPlaces_X0_cellsOwnedBy
theorem dX0_blockedPlaces_0 : decode cX0_blockedPlaces 0 = .ok (.aload_n 0, 1) := by decide +kernel
theorem dX0_blockedPlaces_1 : decode cX0_blockedPlaces 1 = .ok (.bipush 20, 2) := by decide +kernel
theorem dX0_blockedPlaces_3 : decode cX0_blockedPlaces 3 = .ok (.invokevirtual 115, 3) := by decide +kernel
theorem dX0_blockedPlaces_6 : decode cX0_blockedPlaces 6 = .ok (.iconst 2, 1) := by decide +kernel
theorem dX0_blockedPlaces_7 : decode cX0_blockedPlaces 7 = .ok (.idiv, 1) := by decide +kernel
theorem dX0_blockedPlaces_8 : decode cX0_blockedPlaces 8 = .ok (.ireturn, 1) := by decide +kernel
abbrev rmX0_blockedPlaces : Room := { frames := 1, cells := 0, slots := 0, locals := 23 }

set_option maxRecDepth 100000 in
set_option maxHeartbeats 4000000 in
theorem c_X0_blockedPlaces {l : Launch} {g : Geo} {M : Nat → Nat → Int32} {P : Nat → Nat} {c : Nat} (hc : c < 6) : Met l yX0_blockedPlaces wsX0_blockedPlaces rmX0_blockedPlaces (cPre g [.ref (g.1 (24 * c))] M P) (cQi g (fun r M' P' => (P = P' ∧ M = M') ∧ r = nI (wir (M c) (nI 20) / 2))) 0 0 (gA g) := by
  refine met_i (cc := cX0_blockedPlaces) (maxL := 1) (by decide) rfl ⟨rfl, rfl⟩ (Nat.le_of_ble_eq_true rfl) (fun x hx h hret => ?_)
  replace h : Cxk x g cX0_blockedPlaces 1 wsX0_blockedPlaces RX0 rmX0_blockedPlaces := h
  show X x 0 [(0, .ref (g.1 (24 * c)))] [] M P
  refine x_aload_n h 0 dX0_blockedPlaces_0 rfl rfl ?_
  refine x_bipush h (nI 20) dX0_blockedPlaces_1 (by decide) ?_
  refine x_callV h (As := [.int (nI 20)]) 1 hx (c_X0_cellsOwnedBy hc) gX0_blockedPlaces_X0_cellsOwnedBy rfl ⟨rfl, rfl⟩ (by decide +kernel) rfl (by decide) (hk_chip hc) (E_chip hc) rfl rfl (Nat.le_of_ble_eq_true rfl) dX0_blockedPlaces_3 (fun rv M' P' hp => ?_)
  obtain ⟨⟨rfl, rfl⟩, rfl⟩ := hp
  refine x_iconst h (nI 2) dX0_blockedPlaces_6 (by decide) ?_
  refine x_idiv_n h dX0_blockedPlaces_7 (by have := cnt_le (fun a => decide (M c (7 + a) = nI 20)) 162; unfold wir; omega) (by decide) (by decide) ?_
  exact hret _ _ _ _ _ dX0_blockedPlaces_8 (by exact ⟨⟨rfl, rfl⟩, rfl⟩)

theorem dX0_cellOfWire_0 : decode cX0_cellOfWire 0 = .ok (.iconst 0, 1) := by decide +kernel
theorem dX0_cellOfWire_1 : decode cX0_cellOfWire 1 = .ok (.istore_n 3, 1) := by decide +kernel
theorem dX0_cellOfWire_2 : decode cX0_cellOfWire 2 = .ok (.iconst 0, 1) := by decide +kernel
theorem dX0_cellOfWire_3 : decode cX0_cellOfWire 3 = .ok (.istore 4, 2) := by decide +kernel
theorem dX0_cellOfWire_5 : decode cX0_cellOfWire 5 = .ok (.iload 4, 2) := by decide +kernel
theorem dX0_cellOfWire_7 : decode cX0_cellOfWire 7 = .ok (.sipush 162, 3) := by decide +kernel
theorem dX0_cellOfWire_10 : decode cX0_cellOfWire 10 = .ok (.if_icmp .ge 31, 3) := by decide +kernel
theorem dX0_cellOfWire_13 : decode cX0_cellOfWire 13 = .ok (.aload_n 0, 1) := by decide +kernel
theorem dX0_cellOfWire_14 : decode cX0_cellOfWire 14 = .ok (.getfield 15, 3) := by decide +kernel
theorem dX0_cellOfWire_17 : decode cX0_cellOfWire 17 = .ok (.iload 4, 2) := by decide +kernel
theorem dX0_cellOfWire_19 : decode cX0_cellOfWire 19 = .ok (.iaload, 1) := by decide +kernel
theorem dX0_cellOfWire_20 : decode cX0_cellOfWire 20 = .ok (.iload_n 1, 1) := by decide +kernel
theorem dX0_cellOfWire_21 : decode cX0_cellOfWire 21 = .ok (.if_icmp .ne 14, 3) := by decide +kernel
theorem dX0_cellOfWire_24 : decode cX0_cellOfWire 24 = .ok (.iload_n 3, 1) := by decide +kernel
theorem dX0_cellOfWire_25 : decode cX0_cellOfWire 25 = .ok (.iload_n 2, 1) := by decide +kernel
theorem dX0_cellOfWire_26 : decode cX0_cellOfWire 26 = .ok (.if_icmp .ne 6, 3) := by decide +kernel
theorem dX0_cellOfWire_29 : decode cX0_cellOfWire 29 = .ok (.iload 4, 2) := by decide +kernel
theorem dX0_cellOfWire_31 : decode cX0_cellOfWire 31 = .ok (.ireturn, 1) := by decide +kernel
theorem dX0_cellOfWire_32 : decode cX0_cellOfWire 32 = .ok (.iinc 3 1, 3) := by decide +kernel
theorem dX0_cellOfWire_35 : decode cX0_cellOfWire 35 = .ok (.iinc 4 1, 3) := by decide +kernel
theorem dX0_cellOfWire_38 : decode cX0_cellOfWire 38 = .ok (.goto (-33), 3) := by decide +kernel
theorem dX0_cellOfWire_41 : decode cX0_cellOfWire 41 = .ok (.ldc 114, 2) := by decide +kernel
theorem dX0_cellOfWire_43 : decode cX0_cellOfWire 43 = .ok (.ireturn, 1) := by decide +kernel
abbrev rmX0_cellOfWire : Room := { frames := 0, cells := 0, slots := 0, locals := 0 }
set_option maxRecDepth 20000 in
theorem in_X0_cellOfWire_X0 : ∀ w ∈ wsX00, w ∈ wsX0_cellOfWire := by decide +kernel

set_option maxRecDepth 100000 in
set_option maxHeartbeats 4000000 in
theorem c_X0_cellOfWire {l : Launch} {g : Geo} {M : Nat → Nat → Int32} {P : Nat → Nat} {c : Nat} (hc : c < 6) {n : Int32} {ix : Nat} (hix : ix < 2 ^ 31) : Met l yX0_cellOfWire wsX0_cellOfWire rmX0_cellOfWire (cPre g [.ref (g.1 (24 * c)), .int n, .int (nI ix)] M P) (cQi g (fun r M' P' => (P = P' ∧ M = M') ∧ r = (match fnd (fun a => decide (M c (7 + a) = n ∧ cnt (fun b => decide (M c (7 + b) = n)) a = ix)) 162 with | some a => nI a | none => -1000004))) 0 0 (gA g) := by
  refine met_i (cc := cX0_cellOfWire) (maxL := 5) (by decide) rfl ⟨rfl, rfl⟩ (Nat.le_of_ble_eq_true rfl) (fun x hx h hret => ?_)
  replace h : Cxk x g cX0_cellOfWire 5 wsX0_cellOfWire RX0 rmX0_cellOfWire := h
  show X x 0 [(0, .ref (g.1 (24 * c))), (1, .int n), (2, .int (nI ix))] [] M P
  refine x_iconst h (nI 0) dX0_cellOfWire_0 (by decide) ?_
  refine x_istore_n h [(3, .int (nI 0)), (0, .ref (g.1 (24 * c))), (1, .int n), (2, .int (nI ix))] dX0_cellOfWire_1 rfl (by decide) rfl ?_
  refine x_iconst h (nI 0) dX0_cellOfWire_2 (by decide) ?_
  refine x_istore h [(4, .int (nI 0)), (3, .int (nI 0)), (0, .ref (g.1 (24 * c))), (1, .int n), (2, .int (nI ix))] dX0_cellOfWire_3 (by decide) rfl ?_
  have L5 : ∀ (fu : Nat) (i : Nat) (k : Nat), (162 - i) < fu → (i ≤ 162) → (k = cnt (fun b => decide (M c (7 + b) = n)) i) → (∀ j, j < i → (decide (M c (7 + j) = n ∧ cnt (fun b => decide (M c (7 + b) = n)) j = ix)) = false) → X x 5 [(0, .ref (g.1 (24 * c))), (1, .int n), (2, .int (nI ix)), (3, .int (nI k)), (4, .int (nI i))] [] M P := by
    intro fu
    induction fu with
    | zero => intro i k hmu5; exact absurd hmu5 (Nat.not_lt_zero _)
    | succ fu ih5 =>
      intro i k hmu5 hi hk hno
      refine x_iload h 4 dX0_cellOfWire_5 rfl ?_
      refine x_sipush h (nI 162) dX0_cellOfWire_7 (by decide) ?_
      refine x_icmp_ge_n h 41 dX0_cellOfWire_10 (by decide) (by first | omega | (have := cnt_le (fun b => decide (M c (7 + b) = n)) i; omega)) (by decide) (fun c_10 => ?_) (fun c_10 => ?_)
      · -- 10 true
        refine x_ldc h ((-1000004)) (by decide +kernel) dX0_cellOfWire_41 ?_
        exact hret _ _ _ _ _ dX0_cellOfWire_43 (by obtain rfl : i = 162 := (by omega); rw [fnd_none hno]; exact ⟨⟨rfl, rfl⟩, rfl⟩)
      · -- 10 false
        refine x_aload_n h 0 dX0_cellOfWire_13 rfl rfl ?_
        refine xg_X0_1 h hc in_X0_cellOfWire_X0 (by decide +kernel) dX0_cellOfWire_14 ?_
        refine x_iload h 4 dX0_cellOfWire_17 rfl ?_
        refine xl_own h hc dX0_cellOfWire_19 (by omega) ?_
        refine x_iload_n h 1 dX0_cellOfWire_20 rfl rfl ?_
        refine x_icmp_ne h 35 dX0_cellOfWire_21 (by decide) (fun c_21 => ?_) (fun c_21 => ?_)
        · -- 21 true
          refine x_iinc_n h 4 (n := 1) [(4, .int (nI (i + 1))), (0, .ref (g.1 (24 * c))), (1, .int n), (2, .int (nI ix)), (3, .int (nI k))] dX0_cellOfWire_35 rfl (by decide) rfl ?_
          refine x_goto h 5 dX0_cellOfWire_38 (by decide) ?_
          exact x_lv (ih5 (i + 1) k (by omega) (by omega) (by simp [cnt, hk, *]) (by (intro j hj; rcases Nat.lt_succ_iff_lt_or_eq.mp hj with e | rfl; exact hno j e; simp only [decide_eq_false_iff_not]; rintro ⟨e1, e2⟩; first | exact c_21 e1 | exact c_26 (by rw [hk]; exact e2)))) [1, 2, 3, 4, 0] rfl
        · -- 21 false
          refine x_iload_n h 3 dX0_cellOfWire_24 rfl rfl ?_
          refine x_iload_n h 2 dX0_cellOfWire_25 rfl rfl ?_
          refine x_icmp_ne_n h 32 dX0_cellOfWire_26 (by decide) (by first | omega | (have := cnt_le (fun b => decide (M c (7 + b) = n)) i; omega)) (by first | omega | (have := cnt_le (fun b => decide (M c (7 + b) = n)) i; omega)) (fun c_26 => ?_) (fun c_26 => ?_)
          · -- 26 true
            refine x_iinc_n h 3 (n := 1) [(3, .int (nI (k + 1))), (0, .ref (g.1 (24 * c))), (1, .int n), (2, .int (nI ix)), (4, .int (nI i))] dX0_cellOfWire_32 rfl (by decide) rfl ?_
            refine x_iinc_n h 4 (n := 1) [(4, .int (nI (i + 1))), (3, .int (nI (k + 1))), (0, .ref (g.1 (24 * c))), (1, .int n), (2, .int (nI ix))] dX0_cellOfWire_35 rfl (by decide) rfl ?_
            refine x_goto h 5 dX0_cellOfWire_38 (by decide) ?_
            exact x_lv (ih5 (i + 1) (k + 1) (by omega) (by omega) (by simp [cnt, hk, *]) (by (intro j hj; rcases Nat.lt_succ_iff_lt_or_eq.mp hj with e | rfl; exact hno j e; simp only [decide_eq_false_iff_not]; rintro ⟨e1, e2⟩; first | exact c_21 e1 | exact c_26 (by rw [hk]; exact e2)))) [2, 3, 4, 1, 0] rfl
          · -- 26 false
            refine x_iload h 4 dX0_cellOfWire_29 rfl ?_
            exact hret _ _ _ _ _ dX0_cellOfWire_31 (by rw [fnd_some (i := i) (by omega) (by simp only [decide_eq_true_eq]; exact ⟨c_21, by rw [← hk]; exact c_26⟩) hno]; exact ⟨⟨rfl, rfl⟩, rfl⟩)
  exact x_lv (L5 _ 0 0 (Nat.lt_succ_self _) (by omega) (by rfl) (by exact fun j hj => absurd hj (Nat.not_lt_zero j))) [2, 3, 4, 1, 0] rfl

theorem dX0_lossOf_0 : decode cX0_lossOf 0 = .ok (.aload_n 0, 1) := by decide +kernel
theorem dX0_lossOf_1 : decode cX0_lossOf 1 = .ok (.getfield 9, 3) := by decide +kernel
theorem dX0_lossOf_4 : decode cX0_lossOf 4 = .ok (.iconst 2, 1) := by decide +kernel
theorem dX0_lossOf_5 : decode cX0_lossOf 5 = .ok (.iaload, 1) := by decide +kernel
theorem dX0_lossOf_6 : decode cX0_lossOf 6 = .ok (.aload_n 1, 1) := by decide +kernel
theorem dX0_lossOf_7 : decode cX0_lossOf 7 = .ok (.getfield 175, 3) := by decide +kernel
theorem dX0_lossOf_10 : decode cX0_lossOf 10 = .ok (.imul, 1) := by decide +kernel
theorem dX0_lossOf_11 : decode cX0_lossOf 11 = .ok (.aload_n 0, 1) := by decide +kernel
theorem dX0_lossOf_12 : decode cX0_lossOf 12 = .ok (.getfield 9, 3) := by decide +kernel
theorem dX0_lossOf_15 : decode cX0_lossOf 15 = .ok (.iconst 0, 1) := by decide +kernel
theorem dX0_lossOf_16 : decode cX0_lossOf 16 = .ok (.iaload, 1) := by decide +kernel
theorem dX0_lossOf_17 : decode cX0_lossOf 17 = .ok (.aload_n 1, 1) := by decide +kernel
theorem dX0_lossOf_18 : decode cX0_lossOf 18 = .ok (.getfield 178, 3) := by decide +kernel
theorem dX0_lossOf_21 : decode cX0_lossOf 21 = .ok (.imul, 1) := by decide +kernel
theorem dX0_lossOf_22 : decode cX0_lossOf 22 = .ok (.iadd, 1) := by decide +kernel
theorem dX0_lossOf_23 : decode cX0_lossOf 23 = .ok (.ireturn, 1) := by decide +kernel
abbrev rmX0_lossOf : Room := { frames := 0, cells := 0, slots := 0, locals := 0 }
set_option maxRecDepth 20000 in
theorem in_X0_lossOf_X0 : ∀ w ∈ wsX00, w ∈ wsX0_lossOf := by decide +kernel
set_option maxRecDepth 20000 in
theorem in_X0_lossOf_X1 : ∀ w ∈ wsX10, w ∈ wsX0_lossOf := by decide +kernel

set_option maxRecDepth 100000 in
set_option maxHeartbeats 4000000 in
theorem c_X0_lossOf {l : Launch} {g : Geo} {M : Nat → Nat → Int32} {P : Nat → Nat} {c : Nat} (hc : c < 6) {i : Nat} (hi : i < 12) : Met l yX0_lossOf wsX0_lossOf rmX0_lossOf (cPre g [.ref (g.1 (24 * c)), .ref (g.1 (24 * c + 12 + i))] M P) (cQi g (fun r M' P' => (P = P' ∧ M = M') ∧ r = lossX (M c) i)) 0 0 (gA g) := by
  refine met_i (cc := cX0_lossOf) (maxL := 2) (by decide) rfl ⟨rfl, rfl⟩ (Nat.le_of_ble_eq_true rfl) (fun x hx h hret => ?_)
  replace h : Cxk x g cX0_lossOf 2 wsX0_lossOf RX0 rmX0_lossOf := h
  show X x 0 [(0, .ref (g.1 (24 * c))), (1, .ref (g.1 (24 * c + 12 + i)))] [] M P
  refine x_aload_n h 0 dX0_lossOf_0 rfl rfl ?_
  refine xg_X0_0 h hc in_X0_lossOf_X0 (by decide +kernel) dX0_lossOf_1 ?_
  refine x_iconst h (nI 2) dX0_lossOf_4 (by decide) ?_
  refine xl_sett h hc dX0_lossOf_5 (by decide) ?_
  refine x_aload_n h 1 dX0_lossOf_6 rfl rfl ?_
  refine xg_X1_2 h hc (by omega) in_X0_lossOf_X1 (by decide +kernel) dX0_lossOf_7 ?_
  refine x_imul h dX0_lossOf_10 ?_
  refine x_aload_n h 0 dX0_lossOf_11 rfl rfl ?_
  refine xg_X0_0 h hc in_X0_lossOf_X0 (by decide +kernel) dX0_lossOf_12 ?_
  refine x_iconst h (nI 0) dX0_lossOf_15 (by decide) ?_
  refine xl_sett h hc dX0_lossOf_16 (by decide) ?_
  refine x_aload_n h 1 dX0_lossOf_17 rfl rfl ?_
  refine xg_X1_3 h hc (by omega) in_X0_lossOf_X1 (by decide +kernel) dX0_lossOf_18 ?_
  refine x_imul h dX0_lossOf_21 ?_
  refine x_iadd h dX0_lossOf_22 ?_
  exact hret _ _ _ _ _ dX0_lossOf_23 (by exact ⟨⟨rfl, rfl⟩, rfl⟩)

set_option maxRecDepth 20000 in
theorem ggX0_tollOf_X0_hasNet : GoodIn wsX0_tollOf wsX0_hasNet := goodIn_r _ [9, 10, 11, 12, 13, 14, 15, 16, 17, 18] (by decide +kernel) (by decide +kernel)
set_option maxRecDepth 20000 in
theorem gX0_tollOf_X0_hasNet : GoodIn wsX0_tollOf (wsV RX0 110 RX0 yX0_hasNet wsX0_hasNet) := goodIn_app (goodIn_of _ (by decide +kernel)) ggX0_tollOf_X0_hasNet
theorem dX0_tollOf_0 : decode cX0_tollOf 0 = .ok (.aload_n 0, 1) := by decide +kernel
theorem dX0_tollOf_1 : decode cX0_tollOf 1 = .ok (.getfield 15, 3) := by decide +kernel
theorem dX0_tollOf_4 : decode cX0_tollOf 4 = .ok (.iload_n 1, 1) := by decide +kernel
theorem dX0_tollOf_5 : decode cX0_tollOf 5 = .ok (.iaload, 1) := by decide +kernel
theorem dX0_tollOf_6 : decode cX0_tollOf 6 = .ok (.istore 4, 2) := by decide +kernel
theorem dX0_tollOf_8 : decode cX0_tollOf 8 = .ok (.iload 4, 2) := by decide +kernel
theorem dX0_tollOf_10 : decode cX0_tollOf 10 = .ok (.iconst (-1), 1) := by decide +kernel
theorem dX0_tollOf_11 : decode cX0_tollOf 11 = .ok (.if_icmp .eq 12, 3) := by decide +kernel
theorem dX0_tollOf_14 : decode cX0_tollOf 14 = .ok (.iload 4, 2) := by decide +kernel
theorem dX0_tollOf_16 : decode cX0_tollOf 16 = .ok (.bipush 10, 2) := by decide +kernel
theorem dX0_tollOf_18 : decode cX0_tollOf 18 = .ok (.iload_n 2, 1) := by decide +kernel
theorem dX0_tollOf_19 : decode cX0_tollOf 19 = .ok (.iadd, 1) := by decide +kernel
theorem dX0_tollOf_20 : decode cX0_tollOf 20 = .ok (.if_icmp .ne 5, 3) := by decide +kernel
theorem dX0_tollOf_23 : decode cX0_tollOf 23 = .ok (.iconst 0, 1) := by decide +kernel
theorem dX0_tollOf_24 : decode cX0_tollOf 24 = .ok (.ireturn, 1) := by decide +kernel
theorem dX0_tollOf_25 : decode cX0_tollOf 25 = .ok (.iload_n 3, 1) := by decide +kernel
theorem dX0_tollOf_26 : decode cX0_tollOf 26 = .ok (.ifCond .eq 12, 3) := by decide +kernel
theorem dX0_tollOf_29 : decode cX0_tollOf 29 = .ok (.aload_n 0, 1) := by decide +kernel
theorem dX0_tollOf_30 : decode cX0_tollOf 30 = .ok (.iload 4, 2) := by decide +kernel
theorem dX0_tollOf_32 : decode cX0_tollOf 32 = .ok (.invokevirtual 110, 3) := by decide +kernel
theorem dX0_tollOf_35 : decode cX0_tollOf 35 = .ok (.ifCond .ne 5, 3) := by decide +kernel
theorem dX0_tollOf_38 : decode cX0_tollOf 38 = .ok (.iconst (-1), 1) := by decide +kernel
theorem dX0_tollOf_39 : decode cX0_tollOf 39 = .ok (.ireturn, 1) := by decide +kernel
theorem dX0_tollOf_40 : decode cX0_tollOf 40 = .ok (.aload_n 0, 1) := by decide +kernel
theorem dX0_tollOf_41 : decode cX0_tollOf 41 = .ok (.getfield 9, 3) := by decide +kernel
theorem dX0_tollOf_44 : decode cX0_tollOf 44 = .ok (.iconst 1, 1) := by decide +kernel
theorem dX0_tollOf_45 : decode cX0_tollOf 45 = .ok (.iaload, 1) := by decide +kernel
theorem dX0_tollOf_46 : decode cX0_tollOf 46 = .ok (.aload_n 0, 1) := by decide +kernel
theorem dX0_tollOf_47 : decode cX0_tollOf 47 = .ok (.getfield 23, 3) := by decide +kernel
theorem dX0_tollOf_50 : decode cX0_tollOf 50 = .ok (.iload 4, 2) := by decide +kernel
theorem dX0_tollOf_52 : decode cX0_tollOf 52 = .ok (.aaload, 1) := by decide +kernel
theorem dX0_tollOf_53 : decode cX0_tollOf 53 = .ok (.getfield 91, 3) := by decide +kernel
theorem dX0_tollOf_56 : decode cX0_tollOf 56 = .ok (.iadd, 1) := by decide +kernel
theorem dX0_tollOf_57 : decode cX0_tollOf 57 = .ok (.ireturn, 1) := by decide +kernel
abbrev rmX0_tollOf : Room := { frames := 1, cells := 0, slots := 0, locals := 21 }
set_option maxRecDepth 20000 in
theorem in_X0_tollOf_X0 : ∀ w ∈ wsX00, w ∈ wsX0_tollOf := by decide +kernel
set_option maxRecDepth 20000 in
theorem in_X0_tollOf_X2 : ∀ w ∈ wsX20, w ∈ wsX0_tollOf := by decide +kernel

set_option maxRecDepth 100000 in
set_option maxHeartbeats 4000000 in
theorem c_X0_tollOf {l : Launch} {g : Geo} {M : Nat → Nat → Int32} {P : Nat → Nat} {c : Nat} (hc : c < 6) {N : Nat} (hN : M c 5 = nI N) (hN6 : N ≤ 6) {a : Nat} (ha : a < 162) {n dg : Int32} : Met l yX0_tollOf wsX0_tollOf rmX0_tollOf (cPre g [.ref (g.1 (24 * c)), .int (nI a), .int n, .int dg] M P) (cQi g (fun r M' P' => (P = P' ∧ M = M') ∧ r = tollX (M c) a n dg N)) 0 0 (gA g) := by
  refine met_i (cc := cX0_tollOf) (maxL := 5) (by decide) rfl ⟨rfl, rfl⟩ (Nat.le_of_ble_eq_true rfl) (fun x hx h hret => ?_)
  replace h : Cxk x g cX0_tollOf 5 wsX0_tollOf RX0 rmX0_tollOf := h
  show X x 0 [(0, .ref (g.1 (24 * c))), (1, .int (nI a)), (2, .int n), (3, .int dg)] [] M P
  refine x_aload_n h 0 dX0_tollOf_0 rfl rfl ?_
  refine xg_X0_1 h hc in_X0_tollOf_X0 (by decide +kernel) dX0_tollOf_1 ?_
  refine x_iload_n h 1 dX0_tollOf_4 rfl rfl ?_
  refine xl_own h hc dX0_tollOf_5 (by omega) ?_
  obtain ⟨ow, eow⟩ : ∃ z : Int32, z = M c (7 + a) := ⟨_, rfl⟩
  refine x_top ow eow.symm ?_
  refine x_istore h [(4, .int ow), (0, .ref (g.1 (24 * c))), (1, .int (nI a)), (2, .int n), (3, .int dg)] dX0_tollOf_6 (by decide) rfl ?_
  refine x_iload h 0 dX0_tollOf_8 rfl ?_
  refine x_iconst h ((-1)) dX0_tollOf_10 (by decide) ?_
  refine x_icmp_eq h 23 dX0_tollOf_11 (by decide) (fun c_11 => ?_) (fun c_11 => ?_)
  · -- 11 true
    refine x_iconst h (nI 0) dX0_tollOf_23 (by decide) ?_
    exact hret _ _ _ _ _ dX0_tollOf_24 (by refine ⟨⟨rfl, rfl⟩, ?_⟩; unfold tollX; rw [← eow]; rw [if_pos (by first | exact Or.inl c_11 | exact Or.inr c_20)])
  · -- 11 false
    refine x_iload h 0 dX0_tollOf_14 rfl ?_
    refine x_bipush h (nI 10) dX0_tollOf_16 (by decide) ?_
    refine x_iload_n h 3 dX0_tollOf_18 rfl rfl ?_
    refine x_iadd h dX0_tollOf_19 ?_
    refine x_icmp_ne h 25 dX0_tollOf_20 (by decide) (fun c_20 => ?_) (fun c_20 => ?_)
    · -- 20 true
      refine x_iload_n h 4 dX0_tollOf_25 rfl rfl ?_
      refine x_if_eq h 38 dX0_tollOf_26 (by decide) (fun c_26 => ?_) (fun c_26 => ?_)
      · -- 26 true
        refine x_iconst h ((-1)) dX0_tollOf_38 (by decide) ?_
        exact hret _ _ _ _ _ dX0_tollOf_39 (by refine ⟨⟨rfl, rfl⟩, ?_⟩; unfold tollX; rw [← eow]; rw [if_neg (by rintro (e | e); exact c_11 e; exact c_20 e), if_pos (by first | exact Or.inl c_26 | exact Or.inr nk32)])
      · -- 26 false
        refine x_aload_n h 1 dX0_tollOf_29 rfl rfl ?_
        refine x_iload h 0 dX0_tollOf_30 rfl ?_
        refine x_callV h (As := [.int ow]) 1 hx (c_X0_hasNet hc hN hN6) gX0_tollOf_X0_hasNet rfl ⟨rfl, rfl⟩ (by decide +kernel) rfl (by decide) (hk_chip hc) (E_chip hc) rfl rfl (Nat.le_of_ble_eq_true rfl) dX0_tollOf_32 (fun rv M' P' hp => ?_)
        obtain ⟨⟨rfl, rfl⟩, hp⟩ := hp
        rcases hp with ⟨⟨k32, hk32, rfl⟩, rfl⟩ | ⟨nk32, rfl⟩
        · -- call 32
          refine x_if_ne h 40 dX0_tollOf_35 (by decide) (fun _ => ?_) (fun c => absurd c (by decide))
          refine x_aload_n h 1 dX0_tollOf_40 rfl rfl ?_
          refine xg_X0_0 h hc in_X0_tollOf_X0 (by decide +kernel) dX0_tollOf_41 ?_
          refine x_iconst h (nI 1) dX0_tollOf_44 (by decide) ?_
          refine xl_sett h hc dX0_tollOf_45 (by decide) ?_
          refine x_aload_n h 1 dX0_tollOf_46 rfl rfl ?_
          refine xg_X0_3 h hc in_X0_tollOf_X0 (by decide +kernel) dX0_tollOf_47 ?_
          refine x_iload h 0 dX0_tollOf_50 rfl ?_
          refine xa_nets h hc dX0_tollOf_52 (by omega) ?_
          refine xg_X2_3 h hc (by omega) in_X0_tollOf_X2 (by decide +kernel) dX0_tollOf_53 ?_
          refine x_iadd h dX0_tollOf_56 ?_
          exact hret _ _ _ _ _ dX0_tollOf_57 (by refine ⟨⟨rfl, rfl⟩, ?_⟩; unfold tollX; rw [← eow]; rw [if_neg (by rintro (e | e); exact c_11 e; exact c_20 e), if_neg (by rintro (e | e); exact c_26 e; exact e ⟨k32, hk32, rfl⟩), nI_clamp (by omega)])
        · -- call 32
          refine x_if_ne h 40 dX0_tollOf_35 (by decide) (fun c => absurd c (by decide)) (fun _ => ?_)
          refine x_iconst h ((-1)) dX0_tollOf_38 (by decide) ?_
          exact hret _ _ _ _ _ dX0_tollOf_39 (by refine ⟨⟨rfl, rfl⟩, ?_⟩; unfold tollX; rw [← eow]; rw [if_neg (by rintro (e | e); exact c_11 e; exact c_20 e), if_pos (by first | exact Or.inl c_26 | exact Or.inr nk32)])
    · -- 20 false
      refine x_iconst h (nI 0) dX0_tollOf_23 (by decide) ?_
      exact hret _ _ _ _ _ dX0_tollOf_24 (by refine ⟨⟨rfl, rfl⟩, ?_⟩; unfold tollX; rw [← eow]; rw [if_pos (by first | exact Or.inl c_11 | exact Or.inr c_20)])
