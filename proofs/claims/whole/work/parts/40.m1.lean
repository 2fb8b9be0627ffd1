/-! THE MODEL: its row S = M 159 -/
theorem InR_in {N : Nat} {n : Int32} (hN : N < 2 ^ 30) : (nI 0 ≤ n ∧ n ≤ nI N - nI 1) ↔ InR N n := by
  constructor
  · rintro ⟨h1, h2⟩
    obtain ⟨j, hj, rfl⟩ := nI_of (x := n) (Int32.not_lt.mpr h1)
    by_cases e : N = 0
    · subst e
      have : nI 0 - nI 1 = (-1 : Int32) := by decide
      rw [this] at h2
      exact absurd h2 (bb_1 j hj)
    · rw [pk_sub (by omega), nI_leI hj (by omega)] at h2
      exact ⟨j, by omega, rfl⟩
  · rintro ⟨j, hj, rfl⟩
    exact ⟨nI_le (by omega) (by omega), by rw [pk_sub (by omega)]; exact nI_le (by omega) (by omega)⟩
theorem InR_in2 {N : Nat} {n : Int32} (hN : N + 1 < 2 ^ 31) : (nI 0 ≤ n ∧ n ≤ nI N) ↔ InR (N + 1) n := by
  constructor
  · rintro ⟨h1, h2⟩
    obtain ⟨j, hj, rfl⟩ := nI_of (x := n) (Int32.not_lt.mpr h1)
    exact ⟨j, by have := (nI_leI hj (by omega)).mp h2; omega, rfl⟩
  · rintro ⟨j, hj, rfl⟩
    exact ⟨nI_le (by omega) (by omega), nI_le (by omega) (by omega)⟩
def cp379 (A B : Nat → Int32) : Nat → Int32 := fun j => if j < 379 then A j else B j
def cpI (A B : Nat → Int32) (i : Nat) : Nat → Int32 := fun j => if j < i then A j else B j
theorem cpI_s (A B : Nat → Int32) (i : Nat) : upd (cpI A B i) i (A i) = cpI A B (i + 1) := by
  funext j
  unfold upd cpI
  by_cases e : j = i
  · subst e; rw [if_pos rfl, if_pos (Nat.lt_succ_self j)]
  · rw [if_neg e]
    by_cases q : j < i
    · rw [if_pos q, if_pos (by omega)]
    · rw [if_neg q, if_neg (by omega)]
theorem cpI_0 (A B : Nat → Int32) : cpI A B 0 = B := by
  funext j; unfold cpI; rw [if_neg (Nat.not_lt_zero j)]
/-- a row into a place of the states -/
def rcI (R B : Nat → Int32) (q i : Nat) : Nat → Int32 := fun j => if 379 * q ≤ j ∧ j < 379 * q + i then B (j - 379 * q) else R j
theorem rcI_0 (R B : Nat → Int32) (q : Nat) : rcI R B q 0 = R := by
  funext j; unfold rcI; rw [if_neg (by omega)]
theorem rcI_s (R B : Nat → Int32) (q i : Nat) : upd (rcI R B q i) (379 * q + i) (B i) = rcI R B q (i + 1) := by
  funext j
  unfold upd rcI
  by_cases e : j = 379 * q + i
  · subst e; rw [if_pos rfl, if_pos (by omega), Nat.add_sub_cancel_left]
  · rw [if_neg e]
    by_cases h : 379 * q ≤ j ∧ j < 379 * q + i
    · rw [if_pos h, if_pos (by omega)]
    · rw [if_neg h, if_neg (by omega)]
theorem in_wire {S : Nat → Int32} {N a : Nat} (hN : N ≤ 6) (hO : OwV eM S N) (ha : a < 162) : (nI 1 ≤ S (7 + a) ∧ S (7 + a) ≤ nI 6) ↔ ∃ k, k < N ∧ S (7 + a) = eM.2.1 k := by
  constructor
  · rintro ⟨h1, h2⟩
    rcases hO a ha with (q | q) | q | ⟨k, hk, q⟩
    · rw [q] at h1; exact absurd h1 (by decide)
    · exact q
    · rw [q] at h2; exact absurd h2 (by decide)
    · rw [q] at h2
      have := (nI_leI (by omega) (by omega)).mp (show nI (11 + k) ≤ nI 6 from h2)
      omega
  · rintro ⟨k, hk, q⟩
    rw [q]
    exact ⟨show nI 1 ≤ nI (1 + k) from nI_le (by omega) (by omega), show nI (1 + k) ≤ nI 6 from nI_le (by omega) (by omega)⟩
theorem cnt_add (p : Nat → Bool) (n : Nat) : ∀ m, cnt p (n + m) = cnt p n + cnt (fun a => p (n + a)) m
  | 0 => rfl
  | m + 1 => by
    show cnt p (n + m) + (if p (n + m) = true then 1 else 0) = cnt p n + (cnt (fun a => p (n + a)) m + (if p (n + m) = true then 1 else 0))
    rw [cnt_add p n m, Nat.add_assoc]
theorem blk_half {S : Nat → Int32} (h : BlkV S) : cnt (fun a => decide (S (7 + a) = nI 20)) 81 = wir S (nI 20) / 2 := by
  unfold wir
  rw [show 162 = 81 + 81 from rfl, cnt_add]
  rw [show cnt (fun a => decide (S (7 + (81 + a)) = nI 20)) 81 = cnt (fun a => decide (S (7 + a) = nI 20)) 81 from cnt_congr (fun a ha => by
    rw [show 7 + (81 + a) = 7 + (a + 81) by omega]
    exact decide_eq_decide.mpr (h a ha).symm)]
  omega
def bM (S : Nat → Int32) (i a : Nat) : Bool := decide (bit1 (S (223 + 13 * i + (7 + a / 27))) (a % 27))
def KpM (many at_ : Nat) (S : Nat → Int32) (M : Nat → Nat → Int32) (r : Int32) (M' : Nat → Nat → Int32) : Prop := (r < 0 ∧ M' 162 = M 162 ∧ M' 158 5 = nI many ∧ M' 158 6 = nI at_) ∨ (¬ r < 0 ∧ M' 162 = rcI (M 162) S at_ 379 ∧ M' 158 5 = nI (min (many + 1) 4) ∧ M' 158 6 = nI ((at_ + 1) % 4))
def FrM (M M' : Nat → Nat → Int32) : Prop := (∀ k, k < 158 → M' k = M k) ∧ M' 163 = M 163 ∧ M' 158 7 = M 158 7

theorem dX6_in_0 : decode cX6_in 0 = .ok (.iload_n 0, 1) := by decide +kernel
theorem dX6_in_1 : decode cX6_in 1 = .ok (.iload_n 1, 1) := by decide +kernel
theorem dX6_in_2 : decode cX6_in 2 = .ok (.if_icmp .lt 12, 3) := by decide +kernel
theorem dX6_in_5 : decode cX6_in 5 = .ok (.iload_n 0, 1) := by decide +kernel
theorem dX6_in_6 : decode cX6_in 6 = .ok (.iload_n 2, 1) := by decide +kernel
theorem dX6_in_7 : decode cX6_in 7 = .ok (.if_icmp .gt 7, 3) := by decide +kernel
theorem dX6_in_10 : decode cX6_in 10 = .ok (.iconst 1, 1) := by decide +kernel
theorem dX6_in_11 : decode cX6_in 11 = .ok (.goto 4, 3) := by decide +kernel
theorem dX6_in_14 : decode cX6_in 14 = .ok (.iconst 0, 1) := by decide +kernel
theorem dX6_in_15 : decode cX6_in 15 = .ok (.ireturn, 1) := by decide +kernel
abbrev rmX6_in : Room := { frames := 0, cells := 0, slots := 0, locals := 0 }

set_option maxRecDepth 100000 in
set_option maxHeartbeats 4000000 in
theorem c_X6_in {l : Launch} {g : Geo} {M : Nat → Nat → Int32} {P : Nat → Nat} {v lo hi : Int32} : Met l yX6_in wsX6_in rmX6_in (cPre g [.int v, .int lo, .int hi] M P) (cQi g (fun r M' P' => (P = P' ∧ M = M') ∧ (((lo ≤ v ∧ v ≤ hi) ∧ r = nI 1) ∨ (¬ (lo ≤ v ∧ v ≤ hi) ∧ r = nI 0)))) 0 0 (gA g) := by
  refine met_z (cc := cX6_in) (maxL := 3) (by decide) rfl ⟨rfl, rfl⟩ (Nat.le_of_ble_eq_true rfl) (fun x hx h hret => ?_)
  replace h : Cxk x g cX6_in 3 wsX6_in RX6 rmX6_in := h
  show X x 0 [(0, .int v), (1, .int lo), (2, .int hi)] [] M P
  refine x_iload_n h 0 dX6_in_0 rfl rfl ?_
  refine x_iload_n h 1 dX6_in_1 rfl rfl ?_
  refine x_icmp_lt h 14 dX6_in_2 (by decide) (fun c_2 => ?_) (fun c_2 => ?_)
  · -- 2 true
    refine x_iconst h (nI 0) dX6_in_14 (by decide) ?_
    exact hret _ _ _ _ _ dX6_in_15 (by decide) (by exact ⟨⟨rfl, rfl⟩, Or.inr ⟨fun q => (by first | exact absurd q.1 (Int32.not_le.mpr c_2) | exact absurd q.2 (Int32.not_le.mpr c_7)), rfl⟩⟩)
  · -- 2 false
    refine x_iload_n h 0 dX6_in_5 rfl rfl ?_
    refine x_iload_n h 2 dX6_in_6 rfl rfl ?_
    refine x_icmp_gt h 14 dX6_in_7 (by decide) (fun c_7 => ?_) (fun c_7 => ?_)
    · -- 7 true
      refine x_iconst h (nI 0) dX6_in_14 (by decide) ?_
      exact hret _ _ _ _ _ dX6_in_15 (by decide) (by exact ⟨⟨rfl, rfl⟩, Or.inr ⟨fun q => (by first | exact absurd q.1 (Int32.not_le.mpr c_2) | exact absurd q.2 (Int32.not_le.mpr c_7)), rfl⟩⟩)
    · -- 7 false
      refine x_iconst h (nI 1) dX6_in_10 (by decide) ?_
      refine x_goto h 15 dX6_in_11 (by decide) ?_
      exact hret _ _ _ _ _ dX6_in_15 (by decide) (by exact ⟨⟨rfl, rfl⟩, Or.inl ⟨⟨Int32.not_lt.mp c_2, Int32.not_lt.mp c_7⟩, rfl⟩⟩)

set_option maxRecDepth 20000 in
theorem ggX6_isNet_X6_in : GoodIn wsX6_isNet wsX6_in := goodIn_r _ [5] (by decide +kernel) (by decide +kernel)
set_option maxRecDepth 20000 in
theorem gX6_isNet_X6_in : GoodIn wsX6_isNet (va_wsS RX6 38 yX6_in wsX6_in) := goodIn_app (goodIn_of _ (by decide +kernel)) ggX6_isNet_X6_in
theorem dX6_isNet_0 : decode cX6_isNet 0 = .ok (.iload_n 1, 1) := by decide +kernel
theorem dX6_isNet_1 : decode cX6_isNet 1 = .ok (.iconst 0, 1) := by decide +kernel
theorem dX6_isNet_2 : decode cX6_isNet 2 = .ok (.aload_n 0, 1) := by decide +kernel
theorem dX6_isNet_3 : decode cX6_isNet 3 = .ok (.getfield 7, 3) := by decide +kernel
theorem dX6_isNet_6 : decode cX6_isNet 6 = .ok (.iconst 5, 1) := by decide +kernel
theorem dX6_isNet_7 : decode cX6_isNet 7 = .ok (.iaload, 1) := by decide +kernel
theorem dX6_isNet_8 : decode cX6_isNet 8 = .ok (.iconst 1, 1) := by decide +kernel
theorem dX6_isNet_9 : decode cX6_isNet 9 = .ok (.isub, 1) := by decide +kernel
theorem dX6_isNet_10 : decode cX6_isNet 10 = .ok (.invokestatic 38, 3) := by decide +kernel
theorem dX6_isNet_13 : decode cX6_isNet 13 = .ok (.ireturn, 1) := by decide +kernel
abbrev rmX6_isNet : Room := { frames := 1, cells := 0, slots := 0, locals := 22 }
set_option maxRecDepth 20000 in
theorem in_X6_isNet_X6 : ∀ w ∈ wsX60, w ∈ wsX6_isNet := by decide +kernel

set_option maxRecDepth 100000 in
set_option maxHeartbeats 4000000 in
theorem c_X6_isNet {l : Launch} {g : Geo} {M : Nat → Nat → Int32} {P : Nat → Nat} {N K B : Nat} (hI : InvX eM (M 159) N K B) {n : Int32} : Met l yX6_isNet wsX6_isNet rmX6_isNet (cPre g [.ref (g.1 158), .int n] M P) (cQi g (fun r M' P' => (P = P' ∧ M = M') ∧ ((InR N n ∧ r = nI 1) ∨ (¬ InR N n ∧ r = nI 0)))) 0 0 (gA g) := by
  refine met_z (cc := cX6_isNet) (maxL := 2) (by decide) rfl ⟨rfl, rfl⟩ (Nat.le_of_ble_eq_true rfl) (fun x hx h hret => ?_)
  replace h : Cxk x g cX6_isNet 2 wsX6_isNet RX6 rmX6_isNet := h
  show X x 0 [(0, .ref (g.1 158)), (1, .int n)] [] M P
  have hN := hI.1.1
  have hN6 := hI.1.2.1
  have hK := hI.1.2.2.1
  have hK12 := hI.1.2.2.2.1
  refine x_iload_n h 1 dX6_isNet_0 rfl rfl ?_
  refine x_iconst h (nI 0) dX6_isNet_1 (by decide) ?_
  refine x_aload_n h 0 dX6_isNet_2 rfl rfl ?_
  refine xg_X6_0 h in_X6_isNet_X6 (by decide +kernel) dX6_isNet_3 ?_
  refine x_iconst h (nI 5) dX6_isNet_6 (by decide) ?_
  refine xl_159 h dX6_isNet_7 (by decide) ?_
  refine x_top (nI N) (hN) ?_
  refine x_iconst h (nI 1) dX6_isNet_8 (by decide) ?_
  refine x_isub h dX6_isNet_9 ?_
  refine x_callS h (As := [.int n, .int (nI 0), .int ((nI N) - (nI 1))]) 3 hx (c_X6_in) gX6_isNet_X6_in rfl ⟨rfl, rfl⟩ (by decide +kernel) rfl (by decide) (Nat.le_of_ble_eq_true rfl) dX6_isNet_10 (fun rv M' P' hp => ?_)
  obtain ⟨⟨rfl, rfl⟩, hp⟩ := hp
  rcases hp with ⟨i10, rfl⟩ | ⟨ni10, rfl⟩
  · -- call 10
    exact hret _ _ _ _ _ dX6_isNet_13 (by decide) (by exact ⟨⟨rfl, rfl⟩, by first | exact Or.inl ⟨(InR_in (by omega)).mp i10, rfl⟩ | exact Or.inr ⟨fun q => ni10 ((InR_in (by omega)).mpr q), rfl⟩ | exact Or.inl ⟨(InR_in (by omega)).mp i11, rfl⟩ | exact Or.inr ⟨fun q => ni11 ((InR_in (by omega)).mpr q), rfl⟩⟩)
  · -- call 10
    exact hret _ _ _ _ _ dX6_isNet_13 (by decide) (by exact ⟨⟨rfl, rfl⟩, by first | exact Or.inl ⟨(InR_in (by omega)).mp i10, rfl⟩ | exact Or.inr ⟨fun q => ni10 ((InR_in (by omega)).mpr q), rfl⟩ | exact Or.inl ⟨(InR_in (by omega)).mp i11, rfl⟩ | exact Or.inr ⟨fun q => ni11 ((InR_in (by omega)).mpr q), rfl⟩⟩)

set_option maxRecDepth 20000 in
theorem ggX6_isClaim_X6_in : GoodIn wsX6_isClaim wsX6_in := goodIn_r _ [5] (by decide +kernel) (by decide +kernel)
set_option maxRecDepth 20000 in
theorem gX6_isClaim_X6_in : GoodIn wsX6_isClaim (va_wsS RX6 38 yX6_in wsX6_in) := goodIn_app (goodIn_of _ (by decide +kernel)) ggX6_isClaim_X6_in
theorem dX6_isClaim_0 : decode cX6_isClaim 0 = .ok (.iload_n 1, 1) := by decide +kernel
theorem dX6_isClaim_1 : decode cX6_isClaim 1 = .ok (.iconst 0, 1) := by decide +kernel
theorem dX6_isClaim_2 : decode cX6_isClaim 2 = .ok (.aload_n 0, 1) := by decide +kernel
theorem dX6_isClaim_3 : decode cX6_isClaim 3 = .ok (.getfield 7, 3) := by decide +kernel
theorem dX6_isClaim_6 : decode cX6_isClaim 6 = .ok (.bipush 6, 2) := by decide +kernel
theorem dX6_isClaim_8 : decode cX6_isClaim 8 = .ok (.iaload, 1) := by decide +kernel
theorem dX6_isClaim_9 : decode cX6_isClaim 9 = .ok (.iconst 1, 1) := by decide +kernel
theorem dX6_isClaim_10 : decode cX6_isClaim 10 = .ok (.isub, 1) := by decide +kernel
theorem dX6_isClaim_11 : decode cX6_isClaim 11 = .ok (.invokestatic 38, 3) := by decide +kernel
theorem dX6_isClaim_14 : decode cX6_isClaim 14 = .ok (.ireturn, 1) := by decide +kernel
abbrev rmX6_isClaim : Room := { frames := 1, cells := 0, slots := 0, locals := 22 }
set_option maxRecDepth 20000 in
theorem in_X6_isClaim_X6 : ∀ w ∈ wsX60, w ∈ wsX6_isClaim := by decide +kernel

set_option maxRecDepth 100000 in
set_option maxHeartbeats 4000000 in
theorem c_X6_isClaim {l : Launch} {g : Geo} {M : Nat → Nat → Int32} {P : Nat → Nat} {N K B : Nat} (hI : InvX eM (M 159) N K B) {n : Int32} : Met l yX6_isClaim wsX6_isClaim rmX6_isClaim (cPre g [.ref (g.1 158), .int n] M P) (cQi g (fun r M' P' => (P = P' ∧ M = M') ∧ ((InR K n ∧ r = nI 1) ∨ (¬ InR K n ∧ r = nI 0)))) 0 0 (gA g) := by
  refine met_z (cc := cX6_isClaim) (maxL := 2) (by decide) rfl ⟨rfl, rfl⟩ (Nat.le_of_ble_eq_true rfl) (fun x hx h hret => ?_)
  replace h : Cxk x g cX6_isClaim 2 wsX6_isClaim RX6 rmX6_isClaim := h
  show X x 0 [(0, .ref (g.1 158)), (1, .int n)] [] M P
  have hN := hI.1.1
  have hN6 := hI.1.2.1
  have hK := hI.1.2.2.1
  have hK12 := hI.1.2.2.2.1
  refine x_iload_n h 1 dX6_isClaim_0 rfl rfl ?_
  refine x_iconst h (nI 0) dX6_isClaim_1 (by decide) ?_
  refine x_aload_n h 0 dX6_isClaim_2 rfl rfl ?_
  refine xg_X6_0 h in_X6_isClaim_X6 (by decide +kernel) dX6_isClaim_3 ?_
  refine x_bipush h (nI 6) dX6_isClaim_6 (by decide) ?_
  refine xl_159 h dX6_isClaim_8 (by decide) ?_
  refine x_top (nI K) (hK) ?_
  refine x_iconst h (nI 1) dX6_isClaim_9 (by decide) ?_
  refine x_isub h dX6_isClaim_10 ?_
  refine x_callS h (As := [.int n, .int (nI 0), .int ((nI K) - (nI 1))]) 3 hx (c_X6_in) gX6_isClaim_X6_in rfl ⟨rfl, rfl⟩ (by decide +kernel) rfl (by decide) (Nat.le_of_ble_eq_true rfl) dX6_isClaim_11 (fun rv M' P' hp => ?_)
  obtain ⟨⟨rfl, rfl⟩, hp⟩ := hp
  rcases hp with ⟨i11, rfl⟩ | ⟨ni11, rfl⟩
  · -- call 11
    exact hret _ _ _ _ _ dX6_isClaim_14 (by decide) (by exact ⟨⟨rfl, rfl⟩, by first | exact Or.inl ⟨(InR_in (by omega)).mp i10, rfl⟩ | exact Or.inr ⟨fun q => ni10 ((InR_in (by omega)).mpr q), rfl⟩ | exact Or.inl ⟨(InR_in (by omega)).mp i11, rfl⟩ | exact Or.inr ⟨fun q => ni11 ((InR_in (by omega)).mpr q), rfl⟩⟩)
  · -- call 11
    exact hret _ _ _ _ _ dX6_isClaim_14 (by decide) (by exact ⟨⟨rfl, rfl⟩, by first | exact Or.inl ⟨(InR_in (by omega)).mp i10, rfl⟩ | exact Or.inr ⟨fun q => ni10 ((InR_in (by omega)).mpr q), rfl⟩ | exact Or.inl ⟨(InR_in (by omega)).mp i11, rfl⟩ | exact Or.inr ⟨fun q => ni11 ((InR_in (by omega)).mpr q), rfl⟩⟩)

theorem dX6_of_0 : decode cX6_of 0 = .ok (.aload_n 0, 1) := by decide +kernel
theorem dX6_of_1 : decode cX6_of 1 = .ok (.getfield 7, 3) := by decide +kernel
theorem dX6_of_4 : decode cX6_of 4 = .ok (.sipush 169, 3) := by decide +kernel
theorem dX6_of_7 : decode cX6_of 7 = .ok (.bipush 9, 2) := by decide +kernel
theorem dX6_of_9 : decode cX6_of 9 = .ok (.iload_n 1, 1) := by decide +kernel
theorem dX6_of_10 : decode cX6_of 10 = .ok (.imul, 1) := by decide +kernel
theorem dX6_of_11 : decode cX6_of 11 = .ok (.iadd, 1) := by decide +kernel
theorem dX6_of_12 : decode cX6_of 12 = .ok (.iload_n 2, 1) := by decide +kernel
theorem dX6_of_13 : decode cX6_of 13 = .ok (.iadd, 1) := by decide +kernel
theorem dX6_of_14 : decode cX6_of 14 = .ok (.iaload, 1) := by decide +kernel
theorem dX6_of_15 : decode cX6_of 15 = .ok (.ireturn, 1) := by decide +kernel
abbrev rmX6_of : Room := { frames := 0, cells := 0, slots := 0, locals := 0 }
set_option maxRecDepth 20000 in
theorem in_X6_of_X6 : ∀ w ∈ wsX60, w ∈ wsX6_of := by decide +kernel

set_option maxRecDepth 100000 in
set_option maxHeartbeats 4000000 in
theorem c_X6_of {l : Launch} {g : Geo} {M : Nat → Nat → Int32} {P : Nat → Nat} {k w : Nat} (hk : k < 6) (hw : w < 9) : Met l yX6_of wsX6_of rmX6_of (cPre g [.ref (g.1 158), .int (nI k), .int (nI w)] M P) (cQi g (fun r M' P' => (P = P' ∧ M = M') ∧ r = M 159 (169 + 9 * k + w))) 0 0 (gA g) := by
  refine met_i (cc := cX6_of) (maxL := 3) (by decide) rfl ⟨rfl, rfl⟩ (Nat.le_of_ble_eq_true rfl) (fun x hx h hret => ?_)
  replace h : Cxk x g cX6_of 3 wsX6_of RX6 rmX6_of := h
  show X x 0 [(0, .ref (g.1 158)), (1, .int (nI k)), (2, .int (nI w))] [] M P
  refine x_aload_n h 0 dX6_of_0 rfl rfl ?_
  refine xg_X6_0 h in_X6_of_X6 (by decide +kernel) dX6_of_1 ?_
  refine x_sipush h (nI 169) dX6_of_4 (by decide) ?_
  refine x_bipush h (nI 9) dX6_of_7 (by decide) ?_
  refine x_iload_n h 1 dX6_of_9 rfl rfl ?_
  refine x_imul_n h dX6_of_10 ?_
  refine x_iadd_n h dX6_of_11 ?_
  refine x_iload_n h 2 dX6_of_12 rfl rfl ?_
  refine x_iadd_n h dX6_of_13 ?_
  refine xl_159 h dX6_of_14 (by omega) ?_
  exact hret _ _ _ _ _ dX6_of_15 (by exact ⟨⟨rfl, rfl⟩, rfl⟩)

theorem dX6_adds_0 : decode cX6_adds 0 = .ok (.aload_n 0, 1) := by decide +kernel
theorem dX6_adds_1 : decode cX6_adds 1 = .ok (.getfield 7, 3) := by decide +kernel
theorem dX6_adds_4 : decode cX6_adds 4 = .ok (.sipush 169, 3) := by decide +kernel
theorem dX6_adds_7 : decode cX6_adds 7 = .ok (.bipush 9, 2) := by decide +kernel
theorem dX6_adds_9 : decode cX6_adds 9 = .ok (.iload_n 1, 1) := by decide +kernel
theorem dX6_adds_10 : decode cX6_adds 10 = .ok (.imul, 1) := by decide +kernel
theorem dX6_adds_11 : decode cX6_adds 11 = .ok (.iadd, 1) := by decide +kernel
theorem dX6_adds_12 : decode cX6_adds 12 = .ok (.iload_n 2, 1) := by decide +kernel
theorem dX6_adds_13 : decode cX6_adds 13 = .ok (.iadd, 1) := by decide +kernel
theorem dX6_adds_14 : decode cX6_adds 14 = .ok (.dup2, 1) := by decide +kernel
theorem dX6_adds_15 : decode cX6_adds 15 = .ok (.iaload, 1) := by decide +kernel
theorem dX6_adds_16 : decode cX6_adds 16 = .ok (.iload_n 3, 1) := by decide +kernel
theorem dX6_adds_17 : decode cX6_adds 17 = .ok (.iadd, 1) := by decide +kernel
theorem dX6_adds_18 : decode cX6_adds 18 = .ok (.iastore, 1) := by decide +kernel
theorem dX6_adds_19 : decode cX6_adds 19 = .ok (.return_, 1) := by decide +kernel
abbrev rmX6_adds : Room := { frames := 0, cells := 0, slots := 0, locals := 0 }
set_option maxRecDepth 20000 in
theorem in_X6_adds_X6 : ∀ w ∈ wsX60, w ∈ wsX6_adds := by decide +kernel

set_option maxRecDepth 100000 in
set_option maxHeartbeats 4000000 in
theorem c_X6_adds {l : Launch} {g : Geo} {M : Nat → Nat → Int32} {P : Nat → Nat} {k w : Nat} (hk : k < 6) (hw : w < 9) {b : Int32} : Met l yX6_adds wsX6_adds rmX6_adds (cPre g [.ref (g.1 158), .int (nI k), .int (nI w), .int b] M P) (cQv g (fun M' P' => P = P' ∧ M' = va_up M 159 (upd (M 159) (169 + 9 * k + w) (M 159 (169 + 9 * k + w) + b)))) 0 0 (gA g) := by
  refine met_v (cc := cX6_adds) (maxL := 4) (by decide) rfl ⟨rfl, rfl⟩ (Nat.le_of_ble_eq_true rfl) (fun x hx h hret => ?_)
  replace h : Cxk x g cX6_adds 4 wsX6_adds RX6 rmX6_adds := h
  show X x 0 [(0, .ref (g.1 158)), (1, .int (nI k)), (2, .int (nI w)), (3, .int b)] [] M P
  refine x_aload_n h 0 dX6_adds_0 rfl rfl ?_
  refine xg_X6_0 h in_X6_adds_X6 (by decide +kernel) dX6_adds_1 ?_
  refine x_sipush h (nI 169) dX6_adds_4 (by decide) ?_
  refine x_bipush h (nI 9) dX6_adds_7 (by decide) ?_
  refine x_iload_n h 1 dX6_adds_9 rfl rfl ?_
  refine x_imul_n h dX6_adds_10 ?_
  refine x_iadd_n h dX6_adds_11 ?_
  refine x_iload_n h 2 dX6_adds_12 rfl rfl ?_
  refine x_iadd_n h dX6_adds_13 ?_
  refine x_dup2 h dX6_adds_14 rfl rfl ?_
  refine xl_159 h dX6_adds_15 (by omega) ?_
  refine x_iload_n h 3 dX6_adds_16 rfl rfl ?_
  refine x_iadd h dX6_adds_17 ?_
  refine xs_159 h dX6_adds_18 (by omega) ?_
  exact hret _ _ _ _ dX6_adds_19 (by exact ⟨rfl, st2_va _ _ _ _⟩)

set_option maxRecDepth 20000 in
theorem ggX6_isJoined_X6_of : GoodIn wsX6_isJoined wsX6_of := goodIn_r _ [5, 6, 7, 8, 9, 10, 11, 12, 13, 14, 15, 16, 17, 18, 19, 20, 21, 22, 23, 24, 25] (by decide +kernel) (by decide +kernel)
set_option maxRecDepth 20000 in
theorem gX6_isJoined_X6_of : GoodIn wsX6_isJoined (wsV RX6 42 RX6 yX6_of wsX6_of) := goodIn_app (goodIn_of _ (by decide +kernel)) ggX6_isJoined_X6_of
theorem dX6_isJoined_0 : decode cX6_isJoined 0 = .ok (.aload_n 0, 1) := by decide +kernel
theorem dX6_isJoined_1 : decode cX6_isJoined 1 = .ok (.iload_n 1, 1) := by decide +kernel
theorem dX6_isJoined_2 : decode cX6_isJoined 2 = .ok (.iconst 5, 1) := by decide +kernel
theorem dX6_isJoined_3 : decode cX6_isJoined 3 = .ok (.invokevirtual 42, 3) := by decide +kernel
theorem dX6_isJoined_6 : decode cX6_isJoined 6 = .ok (.iconst 1, 1) := by decide +kernel
theorem dX6_isJoined_7 : decode cX6_isJoined 7 = .ok (.if_icmp .ne 7, 3) := by decide +kernel
theorem dX6_isJoined_10 : decode cX6_isJoined 10 = .ok (.iconst 1, 1) := by decide +kernel
theorem dX6_isJoined_11 : decode cX6_isJoined 11 = .ok (.goto 4, 3) := by decide +kernel
theorem dX6_isJoined_14 : decode cX6_isJoined 14 = .ok (.iconst 0, 1) := by decide +kernel
theorem dX6_isJoined_15 : decode cX6_isJoined 15 = .ok (.ireturn, 1) := by decide +kernel
abbrev rmX6_isJoined : Room := { frames := 1, cells := 0, slots := 0, locals := 22 }

set_option maxRecDepth 100000 in
set_option maxHeartbeats 4000000 in
theorem c_X6_isJoined {l : Launch} {g : Geo} {M : Nat → Nat → Int32} {P : Nat → Nat} {k : Nat} (hk : k < 6) : Met l yX6_isJoined wsX6_isJoined rmX6_isJoined (cPre g [.ref (g.1 158), .int (nI k)] M P) (cQi g (fun r M' P' => (P = P' ∧ M = M') ∧ ((M 159 (169 + 9 * k + 5) = nI 1 ∧ r = nI 1) ∨ (¬ M 159 (169 + 9 * k + 5) = nI 1 ∧ r = nI 0)))) 0 0 (gA g) := by
  refine met_z (cc := cX6_isJoined) (maxL := 2) (by decide) rfl ⟨rfl, rfl⟩ (Nat.le_of_ble_eq_true rfl) (fun x hx h hret => ?_)
  replace h : Cxk x g cX6_isJoined 2 wsX6_isJoined RX6 rmX6_isJoined := h
  show X x 0 [(0, .ref (g.1 158)), (1, .int (nI k))] [] M P
  refine x_aload_n h 0 dX6_isJoined_0 rfl rfl ?_
  refine x_iload_n h 1 dX6_isJoined_1 rfl rfl ?_
  refine x_iconst h (nI 5) dX6_isJoined_2 (by decide) ?_
  refine x_callV h (As := [.int (nI k), .int (nI 5)]) 2 hx (c_X6_of (by omega) (by decide)) gX6_isJoined_X6_of rfl ⟨rfl, rfl⟩ (by decide +kernel) rfl (by decide) (by decide) E_158 rfl rfl (Nat.le_of_ble_eq_true rfl) dX6_isJoined_3 (fun rv M' P' hp => ?_)
  obtain ⟨⟨rfl, rfl⟩, rfl⟩ := hp
  refine x_iconst h (nI 1) dX6_isJoined_6 (by decide) ?_
  refine x_icmp_ne h 14 dX6_isJoined_7 (by decide) (fun c_7 => ?_) (fun c_7 => ?_)
  · -- 7 true
    refine x_iconst h (nI 0) dX6_isJoined_14 (by decide) ?_
    exact hret _ _ _ _ _ dX6_isJoined_15 (by decide) (by exact ⟨⟨rfl, rfl⟩, Or.inr ⟨c_7, rfl⟩⟩)
  · -- 7 false
    refine x_iconst h (nI 1) dX6_isJoined_10 (by decide) ?_
    refine x_goto h 15 dX6_isJoined_11 (by decide) ?_
    exact hret _ _ _ _ _ dX6_isJoined_15 (by decide) (by exact ⟨⟨rfl, rfl⟩, Or.inl ⟨c_7, rfl⟩⟩)

theorem dX6_copy_0 : decode cX6_copy 0 = .ok (.iconst 0, 1) := by decide +kernel
theorem dX6_copy_1 : decode cX6_copy 1 = .ok (.istore_n 1, 1) := by decide +kernel
theorem dX6_copy_2 : decode cX6_copy 2 = .ok (.iload_n 1, 1) := by decide +kernel
theorem dX6_copy_3 : decode cX6_copy 3 = .ok (.sipush 379, 3) := by decide +kernel
theorem dX6_copy_6 : decode cX6_copy 6 = .ok (.if_icmp .ge 21, 3) := by decide +kernel
theorem dX6_copy_9 : decode cX6_copy 9 = .ok (.aload_n 0, 1) := by decide +kernel
theorem dX6_copy_10 : decode cX6_copy 10 = .ok (.getfield 13, 3) := by decide +kernel
theorem dX6_copy_13 : decode cX6_copy 13 = .ok (.iload_n 1, 1) := by decide +kernel
theorem dX6_copy_14 : decode cX6_copy 14 = .ok (.aload_n 0, 1) := by decide +kernel
theorem dX6_copy_15 : decode cX6_copy 15 = .ok (.getfield 7, 3) := by decide +kernel
theorem dX6_copy_18 : decode cX6_copy 18 = .ok (.iload_n 1, 1) := by decide +kernel
theorem dX6_copy_19 : decode cX6_copy 19 = .ok (.iaload, 1) := by decide +kernel
theorem dX6_copy_20 : decode cX6_copy 20 = .ok (.iastore, 1) := by decide +kernel
theorem dX6_copy_21 : decode cX6_copy 21 = .ok (.iinc 1 1, 3) := by decide +kernel
theorem dX6_copy_24 : decode cX6_copy 24 = .ok (.goto (-22), 3) := by decide +kernel
theorem dX6_copy_27 : decode cX6_copy 27 = .ok (.return_, 1) := by decide +kernel
abbrev rmX6_copy : Room := { frames := 0, cells := 0, slots := 0, locals := 0 }
set_option maxRecDepth 20000 in
theorem in_X6_copy_X6 : ∀ w ∈ wsX60, w ∈ wsX6_copy := by decide +kernel

set_option maxRecDepth 100000 in
set_option maxHeartbeats 4000000 in
theorem c_X6_copy {l : Launch} {g : Geo} {M : Nat → Nat → Int32} {P : Nat → Nat}  : Met l yX6_copy wsX6_copy rmX6_copy (cPre g [.ref (g.1 158)] M P) (cQv g (fun M' P' => P = P' ∧ M' = va_up M 160 (cpI (M 159) (M 160) 379))) 0 0 (gA g) := by
  refine met_v (cc := cX6_copy) (maxL := 2) (by decide) rfl ⟨rfl, rfl⟩ (Nat.le_of_ble_eq_true rfl) (fun x hx h hret => ?_)
  replace h : Cxk x g cX6_copy 2 wsX6_copy RX6 rmX6_copy := h
  show X x 0 [(0, .ref (g.1 158))] [] M P
  refine x_iconst h (nI 0) dX6_copy_0 (by decide) ?_
  refine x_istore_n h [(1, .int (nI 0)), (0, .ref (g.1 158))] dX6_copy_1 rfl (by decide) rfl ?_
  have L2 : ∀ (fu : Nat) (i : Nat) (W : Nat → Nat → Int32), (379 - i) < fu → (i ≤ 379) → (W = va_up M 160 (cpI (M 159) (M 160) i)) → X x 2 [(0, .ref (g.1 158)), (1, .int (nI i))] [] W P := by
    intro fu
    induction fu with
    | zero => intro i W hmu2; exact absurd hmu2 (Nat.not_lt_zero _)
    | succ fu ih2 =>
      intro i W hmu2 hi hW
      refine x_iload_n h 1 dX6_copy_2 rfl rfl ?_
      refine x_sipush h (nI 379) dX6_copy_3 (by decide) ?_
      refine x_icmp_ge_n h 27 dX6_copy_6 (by decide) (by omega) (by decide) (fun c_6 => ?_) (fun c_6 => ?_)
      · -- 6 true
        exact hret _ _ _ _ dX6_copy_27 (by obtain rfl : i = 379 := (by omega); exact ⟨rfl, hW⟩)
      · -- 6 false
        refine x_aload_n h 0 dX6_copy_9 rfl rfl ?_
        refine xg_X6_1 h in_X6_copy_X6 (by decide +kernel) dX6_copy_10 ?_
        refine x_iload_n h 1 dX6_copy_13 rfl rfl ?_
        refine x_aload_n h 0 dX6_copy_14 rfl rfl ?_
        refine xg_X6_0 h in_X6_copy_X6 (by decide +kernel) dX6_copy_15 ?_
        refine x_iload_n h 1 dX6_copy_18 rfl rfl ?_
        refine xl_159 h dX6_copy_19 (by omega) ?_
        refine xs_160 h dX6_copy_20 (by omega) ?_
        refine x_iinc_n h 1 (n := 1) [(1, .int (nI (i + 1))), (0, .ref (g.1 158))] dX6_copy_21 rfl (by decide) rfl ?_
        refine x_goto h 2 dX6_copy_24 (by decide) ?_
        exact x_lv (ih2 (i + 1) (st2 W 160 i (W 159 i)) (by omega) (by omega) (by rw [st2_va, hW, va_up_up, va_up_k, va_up_n _ _ (by decide), cpI_s])) [1, 0] rfl
  exact x_lv (L2 _ 0 M (Nat.lt_succ_self _) (by omega) (by rw [cpI_0, va_up_id])) [1, 0] rfl

theorem dX6_back_0 : decode cX6_back 0 = .ok (.iconst 0, 1) := by decide +kernel
theorem dX6_back_1 : decode cX6_back 1 = .ok (.istore_n 1, 1) := by decide +kernel
theorem dX6_back_2 : decode cX6_back 2 = .ok (.iload_n 1, 1) := by decide +kernel
theorem dX6_back_3 : decode cX6_back 3 = .ok (.sipush 379, 3) := by decide +kernel
theorem dX6_back_6 : decode cX6_back 6 = .ok (.if_icmp .ge 21, 3) := by decide +kernel
theorem dX6_back_9 : decode cX6_back 9 = .ok (.aload_n 0, 1) := by decide +kernel
theorem dX6_back_10 : decode cX6_back 10 = .ok (.getfield 7, 3) := by decide +kernel
theorem dX6_back_13 : decode cX6_back 13 = .ok (.iload_n 1, 1) := by decide +kernel
theorem dX6_back_14 : decode cX6_back 14 = .ok (.aload_n 0, 1) := by decide +kernel
theorem dX6_back_15 : decode cX6_back 15 = .ok (.getfield 13, 3) := by decide +kernel
theorem dX6_back_18 : decode cX6_back 18 = .ok (.iload_n 1, 1) := by decide +kernel
theorem dX6_back_19 : decode cX6_back 19 = .ok (.iaload, 1) := by decide +kernel
theorem dX6_back_20 : decode cX6_back 20 = .ok (.iastore, 1) := by decide +kernel
theorem dX6_back_21 : decode cX6_back 21 = .ok (.iinc 1 1, 3) := by decide +kernel
theorem dX6_back_24 : decode cX6_back 24 = .ok (.goto (-22), 3) := by decide +kernel
theorem dX6_back_27 : decode cX6_back 27 = .ok (.return_, 1) := by decide +kernel
abbrev rmX6_back : Room := { frames := 0, cells := 0, slots := 0, locals := 0 }
set_option maxRecDepth 20000 in
theorem in_X6_back_X6 : ∀ w ∈ wsX60, w ∈ wsX6_back := by decide +kernel

set_option maxRecDepth 100000 in
set_option maxHeartbeats 4000000 in
theorem c_X6_back {l : Launch} {g : Geo} {M : Nat → Nat → Int32} {P : Nat → Nat}  : Met l yX6_back wsX6_back rmX6_back (cPre g [.ref (g.1 158)] M P) (cQv g (fun M' P' => P = P' ∧ M' = va_up M 159 (cpI (M 160) (M 159) 379))) 0 0 (gA g) := by
  refine met_v (cc := cX6_back) (maxL := 2) (by decide) rfl ⟨rfl, rfl⟩ (Nat.le_of_ble_eq_true rfl) (fun x hx h hret => ?_)
  replace h : Cxk x g cX6_back 2 wsX6_back RX6 rmX6_back := h
  show X x 0 [(0, .ref (g.1 158))] [] M P
  refine x_iconst h (nI 0) dX6_back_0 (by decide) ?_
  refine x_istore_n h [(1, .int (nI 0)), (0, .ref (g.1 158))] dX6_back_1 rfl (by decide) rfl ?_
  have L2 : ∀ (fu : Nat) (i : Nat) (W : Nat → Nat → Int32), (379 - i) < fu → (i ≤ 379) → (W = va_up M 159 (cpI (M 160) (M 159) i)) → X x 2 [(0, .ref (g.1 158)), (1, .int (nI i))] [] W P := by
    intro fu
    induction fu with
    | zero => intro i W hmu2; exact absurd hmu2 (Nat.not_lt_zero _)
    | succ fu ih2 =>
      intro i W hmu2 hi hW
      refine x_iload_n h 1 dX6_back_2 rfl rfl ?_
      refine x_sipush h (nI 379) dX6_back_3 (by decide) ?_
      refine x_icmp_ge_n h 27 dX6_back_6 (by decide) (by omega) (by decide) (fun c_6 => ?_) (fun c_6 => ?_)
      · -- 6 true
        exact hret _ _ _ _ dX6_back_27 (by obtain rfl : i = 379 := (by omega); exact ⟨rfl, hW⟩)
      · -- 6 false
        refine x_aload_n h 0 dX6_back_9 rfl rfl ?_
        refine xg_X6_0 h in_X6_back_X6 (by decide +kernel) dX6_back_10 ?_
        refine x_iload_n h 1 dX6_back_13 rfl rfl ?_
        refine x_aload_n h 0 dX6_back_14 rfl rfl ?_
        refine xg_X6_1 h in_X6_back_X6 (by decide +kernel) dX6_back_15 ?_
        refine x_iload_n h 1 dX6_back_18 rfl rfl ?_
        refine xl_160 h dX6_back_19 (by omega) ?_
        refine xs_159 h dX6_back_20 (by omega) ?_
        refine x_iinc_n h 1 (n := 1) [(1, .int (nI (i + 1))), (0, .ref (g.1 158))] dX6_back_21 rfl (by decide) rfl ?_
        refine x_goto h 2 dX6_back_24 (by decide) ?_
        exact x_lv (ih2 (i + 1) (st2 W 159 i (W 160 i)) (by omega) (by omega) (by rw [st2_va, hW, va_up_up, va_up_k, va_up_n _ _ (by decide), cpI_s])) [1, 0] rfl
  exact x_lv (L2 _ 0 M (Nat.lt_succ_self _) (by omega) (by rw [cpI_0, va_up_id])) [1, 0] rfl

theorem dX6_recorded_0 : decode cX6_recorded 0 = .ok (.iload_n 1, 1) := by decide +kernel
theorem dX6_recorded_1 : decode cX6_recorded 1 = .ok (.ifCond .lt 73, 3) := by decide +kernel
theorem dX6_recorded_4 : decode cX6_recorded 4 = .ok (.iconst 0, 1) := by decide +kernel
theorem dX6_recorded_5 : decode cX6_recorded 5 = .ok (.istore_n 2, 1) := by decide +kernel
theorem dX6_recorded_6 : decode cX6_recorded 6 = .ok (.iload_n 2, 1) := by decide +kernel
theorem dX6_recorded_7 : decode cX6_recorded 7 = .ok (.sipush 379, 3) := by decide +kernel
theorem dX6_recorded_10 : decode cX6_recorded 10 = .ok (.if_icmp .ge 30, 3) := by decide +kernel
theorem dX6_recorded_13 : decode cX6_recorded 13 = .ok (.aload_n 0, 1) := by decide +kernel
theorem dX6_recorded_14 : decode cX6_recorded 14 = .ok (.getfield 19, 3) := by decide +kernel
theorem dX6_recorded_17 : decode cX6_recorded 17 = .ok (.sipush 379, 3) := by decide +kernel
theorem dX6_recorded_20 : decode cX6_recorded 20 = .ok (.aload_n 0, 1) := by decide +kernel
theorem dX6_recorded_21 : decode cX6_recorded 21 = .ok (.getfield 46, 3) := by decide +kernel
theorem dX6_recorded_24 : decode cX6_recorded 24 = .ok (.imul, 1) := by decide +kernel
theorem dX6_recorded_25 : decode cX6_recorded 25 = .ok (.iload_n 2, 1) := by decide +kernel
theorem dX6_recorded_26 : decode cX6_recorded 26 = .ok (.iadd, 1) := by decide +kernel
theorem dX6_recorded_27 : decode cX6_recorded 27 = .ok (.aload_n 0, 1) := by decide +kernel
theorem dX6_recorded_28 : decode cX6_recorded 28 = .ok (.getfield 13, 3) := by decide +kernel
theorem dX6_recorded_31 : decode cX6_recorded 31 = .ok (.iload_n 2, 1) := by decide +kernel
theorem dX6_recorded_32 : decode cX6_recorded 32 = .ok (.iaload, 1) := by decide +kernel
theorem dX6_recorded_33 : decode cX6_recorded 33 = .ok (.iastore, 1) := by decide +kernel
theorem dX6_recorded_34 : decode cX6_recorded 34 = .ok (.iinc 2 1, 3) := by decide +kernel
theorem dX6_recorded_37 : decode cX6_recorded 37 = .ok (.goto (-31), 3) := by decide +kernel
theorem dX6_recorded_40 : decode cX6_recorded 40 = .ok (.aload_n 0, 1) := by decide +kernel
theorem dX6_recorded_41 : decode cX6_recorded 41 = .ok (.aload_n 0, 1) := by decide +kernel
theorem dX6_recorded_42 : decode cX6_recorded 42 = .ok (.getfield 46, 3) := by decide +kernel
theorem dX6_recorded_45 : decode cX6_recorded 45 = .ok (.iconst 1, 1) := by decide +kernel
theorem dX6_recorded_46 : decode cX6_recorded 46 = .ok (.iadd, 1) := by decide +kernel
theorem dX6_recorded_47 : decode cX6_recorded 47 = .ok (.iconst 4, 1) := by decide +kernel
theorem dX6_recorded_48 : decode cX6_recorded 48 = .ok (.irem, 1) := by decide +kernel
theorem dX6_recorded_49 : decode cX6_recorded 49 = .ok (.putfield 46, 3) := by decide +kernel
theorem dX6_recorded_52 : decode cX6_recorded 52 = .ok (.aload_n 0, 1) := by decide +kernel
theorem dX6_recorded_53 : decode cX6_recorded 53 = .ok (.aload_n 0, 1) := by decide +kernel
theorem dX6_recorded_54 : decode cX6_recorded 54 = .ok (.getfield 50, 3) := by decide +kernel
theorem dX6_recorded_57 : decode cX6_recorded 57 = .ok (.iconst 4, 1) := by decide +kernel
theorem dX6_recorded_58 : decode cX6_recorded 58 = .ok (.if_icmp .ge 12, 3) := by decide +kernel
theorem dX6_recorded_61 : decode cX6_recorded 61 = .ok (.aload_n 0, 1) := by decide +kernel
theorem dX6_recorded_62 : decode cX6_recorded 62 = .ok (.getfield 50, 3) := by decide +kernel
theorem dX6_recorded_65 : decode cX6_recorded 65 = .ok (.iconst 1, 1) := by decide +kernel
theorem dX6_recorded_66 : decode cX6_recorded 66 = .ok (.iadd, 1) := by decide +kernel
theorem dX6_recorded_67 : decode cX6_recorded 67 = .ok (.goto 4, 3) := by decide +kernel
theorem dX6_recorded_70 : decode cX6_recorded 70 = .ok (.iconst 4, 1) := by decide +kernel
theorem dX6_recorded_71 : decode cX6_recorded 71 = .ok (.putfield 50, 3) := by decide +kernel
theorem dX6_recorded_74 : decode cX6_recorded 74 = .ok (.iload_n 1, 1) := by decide +kernel
theorem dX6_recorded_75 : decode cX6_recorded 75 = .ok (.ireturn, 1) := by decide +kernel
abbrev rmX6_recorded : Room := { frames := 0, cells := 0, slots := 0, locals := 0 }
set_option maxRecDepth 20000 in
theorem in_X6_recorded_X6 : ∀ w ∈ wsX60, w ∈ wsX6_recorded := by decide +kernel

set_option maxRecDepth 100000 in
set_option maxHeartbeats 4000000 in
theorem c_X6_recorded {l : Launch} {g : Geo} {M : Nat → Nat → Int32} {P : Nat → Nat} {many at_ : Nat} (hm : M 158 5 = nI many) (hm4 : many ≤ 4) (hat : M 158 6 = nI at_) (hat4 : at_ < 4) {a : Int32} : Met l yX6_recorded wsX6_recorded rmX6_recorded (cPre g [.ref (g.1 158), .int a] M P) (cQi g (fun r M' P' => P = P' ∧ r = a ∧ ((a < 0 ∧ M = M') ∨ (¬ a < 0 ∧ M' 162 = rcI (M 162) (M 160) at_ 379 ∧ M' 158 5 = nI (min (many + 1) 4) ∧ M' 158 6 = nI ((at_ + 1) % 4) ∧ (∀ k, k ≠ 162 → k ≠ 158 → M' k = M k) ∧ M' 158 7 = M 158 7)))) 0 0 (gA g) := by
  refine met_i (cc := cX6_recorded) (maxL := 3) (by decide) rfl ⟨rfl, rfl⟩ (Nat.le_of_ble_eq_true rfl) (fun x hx h hret => ?_)
  replace h : Cxk x g cX6_recorded 3 wsX6_recorded RX6 rmX6_recorded := h
  show X x 0 [(0, .ref (g.1 158)), (1, .int a)] [] M P
  refine x_iload_n h 1 dX6_recorded_0 rfl rfl ?_
  refine x_if_lt h 74 dX6_recorded_1 (by decide) (fun c_1 => ?_) (fun c_1 => ?_)
  · -- 1 true
    refine x_iload_n h 1 dX6_recorded_74 rfl rfl ?_
    exact hret _ _ _ _ _ dX6_recorded_75 (by exact ⟨rfl, rfl, Or.inl ⟨c_1, rfl⟩⟩)
  · -- 1 false
    refine x_iconst h (nI 0) dX6_recorded_4 (by decide) ?_
    refine x_istore_n h [(2, .int (nI 0)), (0, .ref (g.1 158)), (1, .int a)] dX6_recorded_5 rfl (by decide) rfl ?_
    have L6 : ∀ (fu : Nat) (i : Nat) (W : Nat → Nat → Int32), (379 - i) < fu → (i ≤ 379) → (W = va_up M 162 (rcI (M 162) (M 160) at_ i)) → X x 6 [(0, .ref (g.1 158)), (1, .int a), (2, .int (nI i))] [] W P := by
      intro fu
      induction fu with
      | zero => intro i W hmu6; exact absurd hmu6 (Nat.not_lt_zero _)
      | succ fu ih6 =>
        intro i W hmu6 hi hW
        refine x_iload_n h 2 dX6_recorded_6 rfl rfl ?_
        refine x_sipush h (nI 379) dX6_recorded_7 (by decide) ?_
        refine x_icmp_ge_n h 40 dX6_recorded_10 (by decide) (by omega) (by decide) (fun c_10 => ?_) (fun c_10 => ?_)
        · -- 10 true
          refine x_aload_n h 0 dX6_recorded_40 rfl rfl ?_
          refine x_aload_n h 0 dX6_recorded_41 rfl rfl ?_
          refine xg_X6_6 h in_X6_recorded_X6 (by decide +kernel) dX6_recorded_42 ?_
          refine x_top (nI at_) (by rw [hW, va_up_n _ _ (by decide)]; exact hat) ?_
          refine x_iconst h (nI 1) dX6_recorded_45 (by decide) ?_
          refine x_iadd_n h dX6_recorded_46 ?_
          refine x_iconst h (nI 4) dX6_recorded_47 (by decide) ?_
          refine x_irem_n h dX6_recorded_48 (by omega) (by decide) (by decide) ?_
          refine xp_X6_6 h in_X6_recorded_X6 (by decide +kernel) dX6_recorded_49 ?_
          refine x_aload_n h 0 dX6_recorded_52 rfl rfl ?_
          refine x_aload_n h 0 dX6_recorded_53 rfl rfl ?_
          refine xg_X6_5 h in_X6_recorded_X6 (by decide +kernel) dX6_recorded_54 ?_
          refine x_top (nI many) (by rw [st2_k, pk_un (by decide), hW, va_up_n _ _ (by decide)]; exact hm) ?_
          refine x_iconst h (nI 4) dX6_recorded_57 (by decide) ?_
          refine x_icmp_ge_n h 70 dX6_recorded_58 (by decide) (by omega) (by decide) (fun c_58 => ?_) (fun c_58 => ?_)
          · -- 58 true
            refine x_iconst h (nI 4) dX6_recorded_70 (by decide) ?_
            refine xp_X6_5 h in_X6_recorded_X6 (by decide +kernel) dX6_recorded_71 ?_
            refine x_iload_n h 1 dX6_recorded_74 rfl rfl ?_
            exact hret _ _ _ _ _ dX6_recorded_75 (by 
                              obtain rfl : i = 379 := (by omega); refine ⟨rfl, rfl, Or.inr ⟨c_1, ?_, ?_, ?_, fun k a b => ?_, ?_⟩⟩
                              · rw [st2_n _ _ _ (by decide), st2_n _ _ _ (by decide), hW, va_up_k]
                              · rw [st2_k, pk_us]; congr 1; omega
                              · rw [st2_k, pk_un (by decide), st2_k, pk_us]
                              · rw [st2_n _ _ _ b, st2_n _ _ _ b, hW, va_up_n _ _ a]
                              · rw [st2_k, pk_un (by decide), st2_k, pk_un (by decide), hW, va_up_n _ _ (by decide)])
          · -- 58 false
            refine x_aload_n h 0 dX6_recorded_61 rfl rfl ?_
            refine xg_X6_5 h in_X6_recorded_X6 (by decide +kernel) dX6_recorded_62 ?_
            refine x_top (nI many) (by rw [st2_k, pk_un (by decide), hW, va_up_n _ _ (by decide)]; exact hm) ?_
            refine x_iconst h (nI 1) dX6_recorded_65 (by decide) ?_
            refine x_iadd_n h dX6_recorded_66 ?_
            refine x_goto h 71 dX6_recorded_67 (by decide) ?_
            refine xp_X6_5 h in_X6_recorded_X6 (by decide +kernel) dX6_recorded_71 ?_
            refine x_iload_n h 1 dX6_recorded_74 rfl rfl ?_
            exact hret _ _ _ _ _ dX6_recorded_75 (by 
                              obtain rfl : i = 379 := (by omega); refine ⟨rfl, rfl, Or.inr ⟨c_1, ?_, ?_, ?_, fun k a b => ?_, ?_⟩⟩
                              · rw [st2_n _ _ _ (by decide), st2_n _ _ _ (by decide), hW, va_up_k]
                              · rw [st2_k, pk_us]; congr 1; omega
                              · rw [st2_k, pk_un (by decide), st2_k, pk_us]
                              · rw [st2_n _ _ _ b, st2_n _ _ _ b, hW, va_up_n _ _ a]
                              · rw [st2_k, pk_un (by decide), st2_k, pk_un (by decide), hW, va_up_n _ _ (by decide)])
        · -- 10 false
          refine x_aload_n h 0 dX6_recorded_13 rfl rfl ?_
          refine xg_X6_3 h in_X6_recorded_X6 (by decide +kernel) dX6_recorded_14 ?_
          refine x_sipush h (nI 379) dX6_recorded_17 (by decide) ?_
          refine x_aload_n h 0 dX6_recorded_20 rfl rfl ?_
          refine xg_X6_6 h in_X6_recorded_X6 (by decide +kernel) dX6_recorded_21 ?_
          refine x_top (nI at_) (by rw [hW, va_up_n _ _ (by decide)]; exact hat) ?_
          refine x_imul_n h dX6_recorded_24 ?_
          refine x_iload_n h 2 dX6_recorded_25 rfl rfl ?_
          refine x_iadd_n h dX6_recorded_26 ?_
          refine x_aload_n h 0 dX6_recorded_27 rfl rfl ?_
          refine xg_X6_1 h in_X6_recorded_X6 (by decide +kernel) dX6_recorded_28 ?_
          refine x_iload_n h 2 dX6_recorded_31 rfl rfl ?_
          refine xl_160 h dX6_recorded_32 (by omega) ?_
          refine xs_162 h dX6_recorded_33 (by omega) ?_
          refine x_iinc_n h 2 (n := 1) [(2, .int (nI (i + 1))), (0, .ref (g.1 158)), (1, .int a)] dX6_recorded_34 rfl (by decide) rfl ?_
          refine x_goto h 6 dX6_recorded_37 (by decide) ?_
          exact x_lv (ih6 (i + 1) (st2 W 162 ((379 * at_) + i) (W 160 i)) (by omega) (by omega) (by rw [st2_va, hW, va_up_up, va_up_k, va_up_n _ _ (by decide), rcI_s])) [1, 2, 0] rfl
    exact x_lv (L6 _ 0 M (Nat.lt_succ_self _) (by omega) (by rw [rcI_0, va_up_id])) [1, 2, 0] rfl

theorem dX6_undo_0 : decode cX6_undo 0 = .ok (.aload_n 0, 1) := by decide +kernel
theorem dX6_undo_1 : decode cX6_undo 1 = .ok (.getfield 50, 3) := by decide +kernel
theorem dX6_undo_4 : decode cX6_undo 4 = .ok (.ifCond .ne 6, 3) := by decide +kernel
theorem dX6_undo_7 : decode cX6_undo 7 = .ok (.ldc 53, 2) := by decide +kernel
theorem dX6_undo_9 : decode cX6_undo 9 = .ok (.ireturn, 1) := by decide +kernel
theorem dX6_undo_10 : decode cX6_undo 10 = .ok (.aload_n 0, 1) := by decide +kernel
theorem dX6_undo_11 : decode cX6_undo 11 = .ok (.aload_n 0, 1) := by decide +kernel
theorem dX6_undo_12 : decode cX6_undo 12 = .ok (.getfield 46, 3) := by decide +kernel
theorem dX6_undo_15 : decode cX6_undo 15 = .ok (.iconst 4, 1) := by decide +kernel
theorem dX6_undo_16 : decode cX6_undo 16 = .ok (.iadd, 1) := by decide +kernel
theorem dX6_undo_17 : decode cX6_undo 17 = .ok (.iconst 1, 1) := by decide +kernel
theorem dX6_undo_18 : decode cX6_undo 18 = .ok (.isub, 1) := by decide +kernel
theorem dX6_undo_19 : decode cX6_undo 19 = .ok (.iconst 4, 1) := by decide +kernel
theorem dX6_undo_20 : decode cX6_undo 20 = .ok (.irem, 1) := by decide +kernel
theorem dX6_undo_21 : decode cX6_undo 21 = .ok (.putfield 46, 3) := by decide +kernel
theorem dX6_undo_24 : decode cX6_undo 24 = .ok (.aload_n 0, 1) := by decide +kernel
theorem dX6_undo_25 : decode cX6_undo 25 = .ok (.dup, 1) := by decide +kernel
theorem dX6_undo_26 : decode cX6_undo 26 = .ok (.getfield 50, 3) := by decide +kernel
theorem dX6_undo_29 : decode cX6_undo 29 = .ok (.iconst 1, 1) := by decide +kernel
theorem dX6_undo_30 : decode cX6_undo 30 = .ok (.isub, 1) := by decide +kernel
theorem dX6_undo_31 : decode cX6_undo 31 = .ok (.putfield 50, 3) := by decide +kernel
theorem dX6_undo_34 : decode cX6_undo 34 = .ok (.iconst 0, 1) := by decide +kernel
theorem dX6_undo_35 : decode cX6_undo 35 = .ok (.istore_n 1, 1) := by decide +kernel
theorem dX6_undo_36 : decode cX6_undo 36 = .ok (.iload_n 1, 1) := by decide +kernel
theorem dX6_undo_37 : decode cX6_undo 37 = .ok (.sipush 379, 3) := by decide +kernel
theorem dX6_undo_40 : decode cX6_undo 40 = .ok (.if_icmp .ge 30, 3) := by decide +kernel
theorem dX6_undo_43 : decode cX6_undo 43 = .ok (.aload_n 0, 1) := by decide +kernel
theorem dX6_undo_44 : decode cX6_undo 44 = .ok (.getfield 7, 3) := by decide +kernel
theorem dX6_undo_47 : decode cX6_undo 47 = .ok (.iload_n 1, 1) := by decide +kernel
theorem dX6_undo_48 : decode cX6_undo 48 = .ok (.aload_n 0, 1) := by decide +kernel
theorem dX6_undo_49 : decode cX6_undo 49 = .ok (.getfield 19, 3) := by decide +kernel
theorem dX6_undo_52 : decode cX6_undo 52 = .ok (.sipush 379, 3) := by decide +kernel
theorem dX6_undo_55 : decode cX6_undo 55 = .ok (.aload_n 0, 1) := by decide +kernel
theorem dX6_undo_56 : decode cX6_undo 56 = .ok (.getfield 46, 3) := by decide +kernel
theorem dX6_undo_59 : decode cX6_undo 59 = .ok (.imul, 1) := by decide +kernel
theorem dX6_undo_60 : decode cX6_undo 60 = .ok (.iload_n 1, 1) := by decide +kernel
theorem dX6_undo_61 : decode cX6_undo 61 = .ok (.iadd, 1) := by decide +kernel
theorem dX6_undo_62 : decode cX6_undo 62 = .ok (.iaload, 1) := by decide +kernel
theorem dX6_undo_63 : decode cX6_undo 63 = .ok (.iastore, 1) := by decide +kernel
theorem dX6_undo_64 : decode cX6_undo 64 = .ok (.iinc 1 1, 3) := by decide +kernel
theorem dX6_undo_67 : decode cX6_undo 67 = .ok (.goto (-31), 3) := by decide +kernel
theorem dX6_undo_70 : decode cX6_undo 70 = .ok (.aload_n 0, 1) := by decide +kernel
theorem dX6_undo_71 : decode cX6_undo 71 = .ok (.getfield 50, 3) := by decide +kernel
theorem dX6_undo_74 : decode cX6_undo 74 = .ok (.ireturn, 1) := by decide +kernel
abbrev rmX6_undo : Room := { frames := 0, cells := 0, slots := 0, locals := 0 }
set_option maxRecDepth 20000 in
theorem in_X6_undo_X6 : ∀ w ∈ wsX60, w ∈ wsX6_undo := by decide +kernel

set_option maxRecDepth 100000 in
set_option maxHeartbeats 4000000 in
theorem c_X6_undo {l : Launch} {g : Geo} {M : Nat → Nat → Int32} {P : Nat → Nat} {many at_ : Nat} (hm : M 158 5 = nI many) (hm4 : many ≤ 4) (hat : M 158 6 = nI at_) (hat4 : at_ < 4) : Met l yX6_undo wsX6_undo rmX6_undo (cPre g [.ref (g.1 158)] M P) (cQi g (fun r M' P' => P = P' ∧ ((many = 0 ∧ r = -1000002 ∧ M = M') ∨ (many ≠ 0 ∧ r = nI (many - 1) ∧ M' 159 = cpI (fun j => M 162 (379 * ((at_ + 3) % 4) + j)) (M 159) 379 ∧ M' 158 5 = nI (many - 1) ∧ M' 158 6 = nI ((at_ + 3) % 4) ∧ (∀ k, k ≠ 159 → k ≠ 158 → M' k = M k) ∧ M' 158 7 = M 158 7)))) 0 0 (gA g) := by
  refine met_i (cc := cX6_undo) (maxL := 2) (by decide) rfl ⟨rfl, rfl⟩ (Nat.le_of_ble_eq_true rfl) (fun x hx h hret => ?_)
  replace h : Cxk x g cX6_undo 2 wsX6_undo RX6 rmX6_undo := h
  show X x 0 [(0, .ref (g.1 158))] [] M P
  refine x_aload_n h 0 dX6_undo_0 rfl rfl ?_
  refine xg_X6_5 h in_X6_undo_X6 (by decide +kernel) dX6_undo_1 ?_
  refine x_top (nI many) (hm) ?_
  refine x_if_ne_n h 10 dX6_undo_4 (by decide) (by omega) (fun c_4 => ?_) (fun c_4 => ?_)
  · -- 4 true
    refine x_aload_n h 0 dX6_undo_10 rfl rfl ?_
    refine x_aload_n h 0 dX6_undo_11 rfl rfl ?_
    refine xg_X6_6 h in_X6_undo_X6 (by decide +kernel) dX6_undo_12 ?_
    refine x_top (nI at_) (hat) ?_
    refine x_iconst h (nI 4) dX6_undo_15 (by decide) ?_
    refine x_iadd_n h dX6_undo_16 ?_
    refine x_iconst h (nI 1) dX6_undo_17 (by decide) ?_
    refine x_isub_n h dX6_undo_18 (by omega) ?_
    refine x_iconst h (nI 4) dX6_undo_19 (by decide) ?_
    refine x_irem_n h dX6_undo_20 (by omega) (by decide) (by decide) ?_
    refine xp_X6_6 h in_X6_undo_X6 (by decide +kernel) dX6_undo_21 ?_
    refine x_aload_n h 0 dX6_undo_24 rfl rfl ?_
    refine x_dup h dX6_undo_25 rfl ?_
    refine xg_X6_5 h in_X6_undo_X6 (by decide +kernel) dX6_undo_26 ?_
    refine x_top (nI many) (by rw [st2_k, pk_un (by decide)]; exact hm) ?_
    refine x_iconst h (nI 1) dX6_undo_29 (by decide) ?_
    refine x_isub_n h dX6_undo_30 (by omega) ?_
    refine xp_X6_5 h in_X6_undo_X6 (by decide +kernel) dX6_undo_31 ?_
    obtain ⟨W0, hW0⟩ : ∃ q : Nat → Nat → Int32, q = st2 (st2 M 158 6 (nI (((at_ + 4) - 1) % 4))) 158 5 (nI (many - 1)) := ⟨_, rfl⟩
    refine x_mem W0 hW0.symm ?_
    have e4 : (at_ + 4 - 1) % 4 = (at_ + 3) % 4 := by omega
    have h05 : W0 158 5 = nI (many - 1) := by rw [hW0, st2_k, pk_us]
    have h06 : W0 158 6 = nI ((at_ + 3) % 4) := by rw [hW0, st2_k, pk_un (by decide), st2_k, pk_us, e4]
    have h07 : W0 158 7 = M 158 7 := by rw [hW0, st2_k, pk_un (by decide), st2_k, pk_un (by decide)]
    have h0k : ∀ k, k ≠ 158 → W0 k = M k := fun k hk => by rw [hW0, st2_n _ _ _ hk, st2_n _ _ _ hk]
    refine x_iconst h (nI 0) dX6_undo_34 (by decide) ?_
    refine x_istore_n h [(1, .int (nI 0)), (0, .ref (g.1 158))] dX6_undo_35 rfl (by decide) rfl ?_
    have L36 : ∀ (fu : Nat) (i : Nat) (W : Nat → Nat → Int32), (379 - i) < fu → (i ≤ 379) → (W = va_up W0 159 (cpI (fun j => M 162 (379 * ((at_ + 3) % 4) + j)) (M 159) i)) → X x 36 [(0, .ref (g.1 158)), (1, .int (nI i))] [] W P := by
      intro fu
      induction fu with
      | zero => intro i W hmu36; exact absurd hmu36 (Nat.not_lt_zero _)
      | succ fu ih36 =>
        intro i W hmu36 hi hW
        refine x_iload_n h 1 dX6_undo_36 rfl rfl ?_
        refine x_sipush h (nI 379) dX6_undo_37 (by decide) ?_
        refine x_icmp_ge_n h 70 dX6_undo_40 (by decide) (by omega) (by decide) (fun c_40 => ?_) (fun c_40 => ?_)
        · -- 40 true
          refine x_aload_n h 0 dX6_undo_70 rfl rfl ?_
          refine xg_X6_5 h in_X6_undo_X6 (by decide +kernel) dX6_undo_71 ?_
          refine x_top (nI (many - 1)) (by rw [hW, va_up_n _ _ (by decide)]; exact h05) ?_
          exact hret _ _ _ _ _ dX6_undo_74 (by obtain rfl : i = 379 := (by omega); exact ⟨rfl, Or.inr ⟨c_4, rfl, by rw [hW, va_up_k], by rw [hW, va_up_n _ _ (by decide)]; exact h05, by rw [hW, va_up_n _ _ (by decide)]; exact h06, fun k a b => by rw [hW, va_up_n _ _ a]; exact h0k k b, by rw [hW, va_up_n _ _ (by decide)]; exact h07⟩⟩)
        · -- 40 false
          refine x_aload_n h 0 dX6_undo_43 rfl rfl ?_
          refine xg_X6_0 h in_X6_undo_X6 (by decide +kernel) dX6_undo_44 ?_
          refine x_iload_n h 1 dX6_undo_47 rfl rfl ?_
          refine x_aload_n h 0 dX6_undo_48 rfl rfl ?_
          refine xg_X6_3 h in_X6_undo_X6 (by decide +kernel) dX6_undo_49 ?_
          refine x_sipush h (nI 379) dX6_undo_52 (by decide) ?_
          refine x_aload_n h 0 dX6_undo_55 rfl rfl ?_
          refine xg_X6_6 h in_X6_undo_X6 (by decide +kernel) dX6_undo_56 ?_
          refine x_top (nI ((at_ + 3) % 4)) (by rw [hW, va_up_n _ _ (by decide)]; exact h06) ?_
          refine x_imul_n h dX6_undo_59 ?_
          refine x_iload_n h 1 dX6_undo_60 rfl rfl ?_
          refine x_iadd_n h dX6_undo_61 ?_
          refine xl_162 h dX6_undo_62 (by omega) ?_
          refine xs_159 h dX6_undo_63 (by omega) ?_
          refine x_iinc_n h 1 (n := 1) [(1, .int (nI (i + 1))), (0, .ref (g.1 158))] dX6_undo_64 rfl (by decide) rfl ?_
          refine x_goto h 36 dX6_undo_67 (by decide) ?_
          exact x_lv (ih36 (i + 1) (st2 W 159 i (W 162 ((379 * ((at_ + 3) % 4)) + i))) (by omega) (by omega) (by rw [st2_va, hW, va_up_up, va_up_k, va_up_n _ _ (by decide), h0k 162 (by decide)]; exact congrArg _ (cpI_s (fun j => M 162 (379 * ((at_ + 3) % 4) + j)) (M 159) i))) [1, 0] rfl
    exact x_lv (L36 _ 0 W0 (Nat.lt_succ_self _) (by omega) (by rw [cpI_0, ← h0k 159 (by decide), va_up_id])) [1, 0] rfl
  · -- 4 false
    refine x_ldc h ((-1000002)) (by decide +kernel) dX6_undo_7 ?_
    exact hret _ _ _ _ _ dX6_undo_9 (by exact ⟨rfl, Or.inl ⟨c_4, rfl, rfl⟩⟩)

theorem dX6_least_0 : decode cX6_least 0 = .ok (.iload_n 0, 1) := by decide +kernel
theorem dX6_least_1 : decode cX6_least 1 = .ok (.ifCond .eq 8, 3) := by decide +kernel
theorem dX6_least_4 : decode cX6_least 4 = .ok (.iload_n 0, 1) := by decide +kernel
theorem dX6_least_5 : decode cX6_least 5 = .ok (.iconst 3, 1) := by decide +kernel
theorem dX6_least_6 : decode cX6_least 6 = .ok (.if_icmp .ne 7, 3) := by decide +kernel
theorem dX6_least_9 : decode cX6_least 9 = .ok (.iconst 1, 1) := by decide +kernel
theorem dX6_least_10 : decode cX6_least 10 = .ok (.goto 4, 3) := by decide +kernel
theorem dX6_least_13 : decode cX6_least 13 = .ok (.iconst 0, 1) := by decide +kernel
theorem dX6_least_14 : decode cX6_least 14 = .ok (.ireturn, 1) := by decide +kernel
abbrev rmX6_least : Room := { frames := 0, cells := 0, slots := 0, locals := 0 }

set_option maxRecDepth 100000 in
set_option maxHeartbeats 4000000 in
theorem c_X6_least {l : Launch} {g : Geo} {M : Nat → Nat → Int32} {P : Nat → Nat} {j : Nat} (hj : j < 4) : Met l yX6_least wsX6_least rmX6_least (cPre g [.int (nI j)] M P) (cQi g (fun r M' P' => (P = P' ∧ M = M') ∧ r = f_LEASTi j)) 0 0 (gA g) := by
  refine met_i (cc := cX6_least) (maxL := 1) (by decide) rfl ⟨rfl, rfl⟩ (Nat.le_of_ble_eq_true rfl) (fun x hx h hret => ?_)
  replace h : Cxk x g cX6_least 1 wsX6_least RX6 rmX6_least := h
  show X x 0 [(0, .int (nI j))] [] M P
  refine x_iload_n h 0 dX6_least_0 rfl rfl ?_
  refine x_if_eq_n h 9 dX6_least_1 (by decide) (by omega) (fun c_1 => ?_) (fun c_1 => ?_)
  · -- 1 true
    refine x_iconst h (nI 1) dX6_least_9 (by decide) ?_
    refine x_goto h 14 dX6_least_10 (by decide) ?_
    exact hret _ _ _ _ _ dX6_least_14 (by refine ⟨⟨rfl, rfl⟩, ?_⟩; rcases (show j = 0 ∨ j = 1 ∨ j = 2 ∨ j = 3 by omega) with rfl | rfl | rfl | rfl <;> first | rfl | omega)
  · -- 1 false
    refine x_iload_n h 0 dX6_least_4 rfl rfl ?_
    refine x_iconst h (nI 3) dX6_least_5 (by decide) ?_
    refine x_icmp_ne_n h 13 dX6_least_6 (by decide) (by omega) (by decide) (fun c_6 => ?_) (fun c_6 => ?_)
    · -- 6 true
      refine x_iconst h (nI 0) dX6_least_13 (by decide) ?_
      exact hret _ _ _ _ _ dX6_least_14 (by refine ⟨⟨rfl, rfl⟩, ?_⟩; rcases (show j = 0 ∨ j = 1 ∨ j = 2 ∨ j = 3 by omega) with rfl | rfl | rfl | rfl <;> first | rfl | omega)
    · -- 6 false
      refine x_iconst h (nI 1) dX6_least_9 (by decide) ?_
      refine x_goto h 14 dX6_least_10 (by decide) ?_
      exact hret _ _ _ _ _ dX6_least_14 (by refine ⟨⟨rfl, rfl⟩, ?_⟩; rcases (show j = 0 ∨ j = 1 ∨ j = 2 ∨ j = 3 by omega) with rfl | rfl | rfl | rfl <;> first | rfl | omega)

theorem dX6_most_0 : decode cX6_most 0 = .ok (.iload_n 0, 1) := by decide +kernel
theorem dX6_most_1 : decode cX6_most 1 = .ok (.ifCond .eq 8, 3) := by decide +kernel
theorem dX6_most_4 : decode cX6_most 4 = .ok (.iload_n 0, 1) := by decide +kernel
theorem dX6_most_5 : decode cX6_most 5 = .ok (.iconst 3, 1) := by decide +kernel
theorem dX6_most_6 : decode cX6_most 6 = .ok (.if_icmp .ne 8, 3) := by decide +kernel
theorem dX6_most_9 : decode cX6_most 9 = .ok (.bipush 20, 2) := by decide +kernel
theorem dX6_most_11 : decode cX6_most 11 = .ok (.goto 5, 3) := by decide +kernel
theorem dX6_most_14 : decode cX6_most 14 = .ok (.bipush 50, 2) := by decide +kernel
theorem dX6_most_16 : decode cX6_most 16 = .ok (.ireturn, 1) := by decide +kernel
abbrev rmX6_most : Room := { frames := 0, cells := 0, slots := 0, locals := 0 }

set_option maxRecDepth 100000 in
set_option maxHeartbeats 4000000 in
theorem c_X6_most {l : Launch} {g : Geo} {M : Nat → Nat → Int32} {P : Nat → Nat} {j : Nat} (hj : j < 4) : Met l yX6_most wsX6_most rmX6_most (cPre g [.int (nI j)] M P) (cQi g (fun r M' P' => (P = P' ∧ M = M') ∧ r = f_MOSTi j)) 0 0 (gA g) := by
  refine met_i (cc := cX6_most) (maxL := 1) (by decide) rfl ⟨rfl, rfl⟩ (Nat.le_of_ble_eq_true rfl) (fun x hx h hret => ?_)
  replace h : Cxk x g cX6_most 1 wsX6_most RX6 rmX6_most := h
  show X x 0 [(0, .int (nI j))] [] M P
  refine x_iload_n h 0 dX6_most_0 rfl rfl ?_
  refine x_if_eq_n h 9 dX6_most_1 (by decide) (by omega) (fun c_1 => ?_) (fun c_1 => ?_)
  · -- 1 true
    refine x_bipush h (nI 20) dX6_most_9 (by decide) ?_
    refine x_goto h 16 dX6_most_11 (by decide) ?_
    exact hret _ _ _ _ _ dX6_most_16 (by refine ⟨⟨rfl, rfl⟩, ?_⟩; rcases (show j = 0 ∨ j = 1 ∨ j = 2 ∨ j = 3 by omega) with rfl | rfl | rfl | rfl <;> first | rfl | omega)
  · -- 1 false
    refine x_iload_n h 0 dX6_most_4 rfl rfl ?_
    refine x_iconst h (nI 3) dX6_most_5 (by decide) ?_
    refine x_icmp_ne_n h 14 dX6_most_6 (by decide) (by omega) (by decide) (fun c_6 => ?_) (fun c_6 => ?_)
    · -- 6 true
      refine x_bipush h (nI 50) dX6_most_14 (by decide) ?_
      exact hret _ _ _ _ _ dX6_most_16 (by refine ⟨⟨rfl, rfl⟩, ?_⟩; rcases (show j = 0 ∨ j = 1 ∨ j = 2 ∨ j = 3 by omega) with rfl | rfl | rfl | rfl <;> first | rfl | omega)
    · -- 6 false
      refine x_bipush h (nI 20) dX6_most_9 (by decide) ?_
      refine x_goto h 16 dX6_most_11 (by decide) ?_
      exact hret _ _ _ _ _ dX6_most_16 (by refine ⟨⟨rfl, rfl⟩, ?_⟩; rcases (show j = 0 ∨ j = 1 ∨ j = 2 ∨ j = 3 by omega) with rfl | rfl | rfl | rfl <;> first | rfl | omega)

theorem dX6_blockedMany_0 : decode cX6_blockedMany 0 = .ok (.iconst 0, 1) := by decide +kernel
theorem dX6_blockedMany_1 : decode cX6_blockedMany 1 = .ok (.istore_n 1, 1) := by decide +kernel
theorem dX6_blockedMany_2 : decode cX6_blockedMany 2 = .ok (.iconst 0, 1) := by decide +kernel
theorem dX6_blockedMany_3 : decode cX6_blockedMany 3 = .ok (.istore_n 2, 1) := by decide +kernel
theorem dX6_blockedMany_4 : decode cX6_blockedMany 4 = .ok (.iload_n 2, 1) := by decide +kernel
theorem dX6_blockedMany_5 : decode cX6_blockedMany 5 = .ok (.bipush 81, 2) := by decide +kernel
theorem dX6_blockedMany_7 : decode cX6_blockedMany 7 = .ok (.if_icmp .ge 31, 3) := by decide +kernel
theorem dX6_blockedMany_10 : decode cX6_blockedMany 10 = .ok (.iload_n 1, 1) := by decide +kernel
theorem dX6_blockedMany_11 : decode cX6_blockedMany 11 = .ok (.aload_n 0, 1) := by decide +kernel
theorem dX6_blockedMany_12 : decode cX6_blockedMany 12 = .ok (.getfield 7, 3) := by decide +kernel
theorem dX6_blockedMany_15 : decode cX6_blockedMany 15 = .ok (.bipush 7, 2) := by decide +kernel
theorem dX6_blockedMany_17 : decode cX6_blockedMany 17 = .ok (.iload_n 2, 1) := by decide +kernel
theorem dX6_blockedMany_18 : decode cX6_blockedMany 18 = .ok (.iadd, 1) := by decide +kernel
theorem dX6_blockedMany_19 : decode cX6_blockedMany 19 = .ok (.iaload, 1) := by decide +kernel
theorem dX6_blockedMany_20 : decode cX6_blockedMany 20 = .ok (.bipush 20, 2) := by decide +kernel
theorem dX6_blockedMany_22 : decode cX6_blockedMany 22 = .ok (.if_icmp .ne 7, 3) := by decide +kernel
theorem dX6_blockedMany_25 : decode cX6_blockedMany 25 = .ok (.iconst 1, 1) := by decide +kernel
theorem dX6_blockedMany_26 : decode cX6_blockedMany 26 = .ok (.goto 4, 3) := by decide +kernel
theorem dX6_blockedMany_29 : decode cX6_blockedMany 29 = .ok (.iconst 0, 1) := by decide +kernel
theorem dX6_blockedMany_30 : decode cX6_blockedMany 30 = .ok (.iadd, 1) := by decide +kernel
theorem dX6_blockedMany_31 : decode cX6_blockedMany 31 = .ok (.istore_n 1, 1) := by decide +kernel
theorem dX6_blockedMany_32 : decode cX6_blockedMany 32 = .ok (.iinc 2 1, 3) := by decide +kernel
theorem dX6_blockedMany_35 : decode cX6_blockedMany 35 = .ok (.goto (-31), 3) := by decide +kernel
theorem dX6_blockedMany_38 : decode cX6_blockedMany 38 = .ok (.iload_n 1, 1) := by decide +kernel
theorem dX6_blockedMany_39 : decode cX6_blockedMany 39 = .ok (.ireturn, 1) := by decide +kernel
abbrev rmX6_blockedMany : Room := { frames := 0, cells := 0, slots := 0, locals := 0 }
set_option maxRecDepth 20000 in
theorem in_X6_blockedMany_X6 : ∀ w ∈ wsX60, w ∈ wsX6_blockedMany := by decide +kernel

set_option maxRecDepth 100000 in
set_option maxHeartbeats 4000000 in
theorem c_X6_blockedMany {l : Launch} {g : Geo} {M : Nat → Nat → Int32} {P : Nat → Nat}  : Met l yX6_blockedMany wsX6_blockedMany rmX6_blockedMany (cPre g [.ref (g.1 158)] M P) (cQi g (fun r M' P' => (P = P' ∧ M = M') ∧ r = nI (cnt (fun a => decide (M 159 (7 + a) = nI 20)) 81))) 0 0 (gA g) := by
  refine met_i (cc := cX6_blockedMany) (maxL := 3) (by decide) rfl ⟨rfl, rfl⟩ (Nat.le_of_ble_eq_true rfl) (fun x hx h hret => ?_)
  replace h : Cxk x g cX6_blockedMany 3 wsX6_blockedMany RX6 rmX6_blockedMany := h
  show X x 0 [(0, .ref (g.1 158))] [] M P
  refine x_iconst h (nI 0) dX6_blockedMany_0 (by decide) ?_
  refine x_istore_n h [(1, .int (nI 0)), (0, .ref (g.1 158))] dX6_blockedMany_1 rfl (by decide) rfl ?_
  refine x_iconst h (nI 0) dX6_blockedMany_2 (by decide) ?_
  refine x_istore_n h [(2, .int (nI 0)), (1, .int (nI 0)), (0, .ref (g.1 158))] dX6_blockedMany_3 rfl (by decide) rfl ?_
  have L4 : ∀ (fu : Nat) (i : Nat) (k : Nat), (81 - i) < fu → (i ≤ 81) → (k = cnt (fun a => decide (M 159 (7 + a) = nI 20)) i) → X x 4 [(0, .ref (g.1 158)), (1, .int (nI k)), (2, .int (nI i))] [] M P := by
    intro fu
    induction fu with
    | zero => intro i k hmu4; exact absurd hmu4 (Nat.not_lt_zero _)
    | succ fu ih4 =>
      intro i k hmu4 hi hk
      refine x_iload_n h 2 dX6_blockedMany_4 rfl rfl ?_
      refine x_bipush h (nI 81) dX6_blockedMany_5 (by decide) ?_
      refine x_icmp_ge_n h 38 dX6_blockedMany_7 (by decide) (by omega) (by decide) (fun c_7 => ?_) (fun c_7 => ?_)
      · -- 7 true
        refine x_iload_n h 1 dX6_blockedMany_38 rfl rfl ?_
        exact hret _ _ _ _ _ dX6_blockedMany_39 (by obtain rfl : i = 81 := (by omega); subst hk; exact ⟨⟨rfl, rfl⟩, rfl⟩)
      · -- 7 false
        refine x_iload_n h 1 dX6_blockedMany_10 rfl rfl ?_
        refine x_aload_n h 0 dX6_blockedMany_11 rfl rfl ?_
        refine xg_X6_0 h in_X6_blockedMany_X6 (by decide +kernel) dX6_blockedMany_12 ?_
        refine x_bipush h (nI 7) dX6_blockedMany_15 (by decide) ?_
        refine x_iload_n h 2 dX6_blockedMany_17 rfl rfl ?_
        refine x_iadd_n h dX6_blockedMany_18 ?_
        refine xl_159 h dX6_blockedMany_19 (by omega) ?_
        refine x_bipush h (nI 20) dX6_blockedMany_20 (by decide) ?_
        refine x_icmp_ne h 29 dX6_blockedMany_22 (by decide) (fun c_22 => ?_) (fun c_22 => ?_)
        · -- 22 true
          refine x_iconst h (nI 0) dX6_blockedMany_29 (by decide) ?_
          refine x_iadd_n h dX6_blockedMany_30 ?_
          refine x_istore_n h [(1, .int (nI (k + 0))), (0, .ref (g.1 158)), (2, .int (nI i))] dX6_blockedMany_31 rfl (by decide) rfl ?_
          refine x_iinc_n h 2 (n := 1) [(2, .int (nI (i + 1))), (1, .int (nI (k + 0))), (0, .ref (g.1 158))] dX6_blockedMany_32 rfl (by decide) rfl ?_
          refine x_goto h 4 dX6_blockedMany_35 (by decide) ?_
          exact x_lv (ih4 (i + 1) (k + 0) (by omega) (by omega) (by first | (rw [hk]; exact (cnt_s (p := fun a => decide (M 159 (7 + a) = nI 20)) (by simp [*])).symm) | (rw [hk]; exact (cnt_n (p := fun a => decide (M 159 (7 + a) = nI 20)) (by simp [*])).symm))) [2, 1, 0] rfl
        · -- 22 false
          refine x_iconst h (nI 1) dX6_blockedMany_25 (by decide) ?_
          refine x_goto h 30 dX6_blockedMany_26 (by decide) ?_
          refine x_iadd_n h dX6_blockedMany_30 ?_
          refine x_istore_n h [(1, .int (nI (k + 1))), (0, .ref (g.1 158)), (2, .int (nI i))] dX6_blockedMany_31 rfl (by decide) rfl ?_
          refine x_iinc_n h 2 (n := 1) [(2, .int (nI (i + 1))), (1, .int (nI (k + 1))), (0, .ref (g.1 158))] dX6_blockedMany_32 rfl (by decide) rfl ?_
          refine x_goto h 4 dX6_blockedMany_35 (by decide) ?_
          exact x_lv (ih4 (i + 1) (k + 1) (by omega) (by omega) (by first | (rw [hk]; exact (cnt_s (p := fun a => decide (M 159 (7 + a) = nI 20)) (by simp [*])).symm) | (rw [hk]; exact (cnt_n (p := fun a => decide (M 159 (7 + a) = nI 20)) (by simp [*])).symm))) [2, 1, 0] rfl
  exact x_lv (L4 _ 0 0 (Nat.lt_succ_self _) (by omega) (by rfl)) [2, 1, 0] rfl

theorem dX6_isFree_0 : decode cX6_isFree 0 = .ok (.aload_n 0, 1) := by decide +kernel
theorem dX6_isFree_1 : decode cX6_isFree 1 = .ok (.getfield 7, 3) := by decide +kernel
theorem dX6_isFree_4 : decode cX6_isFree 4 = .ok (.bipush 7, 2) := by decide +kernel
theorem dX6_isFree_6 : decode cX6_isFree 6 = .ok (.iload_n 1, 1) := by decide +kernel
theorem dX6_isFree_7 : decode cX6_isFree 7 = .ok (.iadd, 1) := by decide +kernel
theorem dX6_isFree_8 : decode cX6_isFree 8 = .ok (.iaload, 1) := by decide +kernel
theorem dX6_isFree_9 : decode cX6_isFree 9 = .ok (.ifCond .ne 19, 3) := by decide +kernel
theorem dX6_isFree_12 : decode cX6_isFree 12 = .ok (.aload_n 0, 1) := by decide +kernel
theorem dX6_isFree_13 : decode cX6_isFree 13 = .ok (.getfield 7, 3) := by decide +kernel
theorem dX6_isFree_16 : decode cX6_isFree 16 = .ok (.bipush 88, 2) := by decide +kernel
theorem dX6_isFree_18 : decode cX6_isFree 18 = .ok (.iload_n 1, 1) := by decide +kernel
theorem dX6_isFree_19 : decode cX6_isFree 19 = .ok (.iadd, 1) := by decide +kernel
theorem dX6_isFree_20 : decode cX6_isFree 20 = .ok (.iaload, 1) := by decide +kernel
theorem dX6_isFree_21 : decode cX6_isFree 21 = .ok (.ifCond .ne 7, 3) := by decide +kernel
theorem dX6_isFree_24 : decode cX6_isFree 24 = .ok (.iconst 1, 1) := by decide +kernel
theorem dX6_isFree_25 : decode cX6_isFree 25 = .ok (.goto 4, 3) := by decide +kernel
theorem dX6_isFree_28 : decode cX6_isFree 28 = .ok (.iconst 0, 1) := by decide +kernel
theorem dX6_isFree_29 : decode cX6_isFree 29 = .ok (.ireturn, 1) := by decide +kernel
abbrev rmX6_isFree : Room := { frames := 0, cells := 0, slots := 0, locals := 0 }
set_option maxRecDepth 20000 in
theorem in_X6_isFree_X6 : ∀ w ∈ wsX60, w ∈ wsX6_isFree := by decide +kernel

set_option maxRecDepth 100000 in
set_option maxHeartbeats 4000000 in
theorem c_X6_isFree {l : Launch} {g : Geo} {M : Nat → Nat → Int32} {P : Nat → Nat} {j : Nat} (hj : j < 81) : Met l yX6_isFree wsX6_isFree rmX6_isFree (cPre g [.ref (g.1 158), .int (nI j)] M P) (cQi g (fun r M' P' => (P = P' ∧ M = M') ∧ (((M 159 (7 + j) = nI 0 ∧ M 159 (7 + (j + 81)) = nI 0) ∧ r = nI 1) ∨ (¬ (M 159 (7 + j) = nI 0 ∧ M 159 (7 + (j + 81)) = nI 0) ∧ r = nI 0)))) 0 0 (gA g) := by
  refine met_z (cc := cX6_isFree) (maxL := 2) (by decide) rfl ⟨rfl, rfl⟩ (Nat.le_of_ble_eq_true rfl) (fun x hx h hret => ?_)
  replace h : Cxk x g cX6_isFree 2 wsX6_isFree RX6 rmX6_isFree := h
  show X x 0 [(0, .ref (g.1 158)), (1, .int (nI j))] [] M P
  refine x_aload_n h 0 dX6_isFree_0 rfl rfl ?_
  refine xg_X6_0 h in_X6_isFree_X6 (by decide +kernel) dX6_isFree_1 ?_
  refine x_bipush h (nI 7) dX6_isFree_4 (by decide) ?_
  refine x_iload_n h 1 dX6_isFree_6 rfl rfl ?_
  refine x_iadd_n h dX6_isFree_7 ?_
  refine xl_159 h dX6_isFree_8 (by omega) ?_
  refine x_if_ne h 28 dX6_isFree_9 (by decide) (fun c_9 => ?_) (fun c_9 => ?_)
  · -- 9 true
    refine x_iconst h (nI 0) dX6_isFree_28 (by decide) ?_
    exact hret _ _ _ _ _ dX6_isFree_29 (by decide) (by exact ⟨⟨rfl, rfl⟩, Or.inr ⟨fun q => (by first | exact c_9 q.1 | exact c_21 q.2), rfl⟩⟩)
  · -- 9 false
    refine x_aload_n h 0 dX6_isFree_12 rfl rfl ?_
    refine xg_X6_0 h in_X6_isFree_X6 (by decide +kernel) dX6_isFree_13 ?_
    refine x_bipush h (nI 88) dX6_isFree_16 (by decide) ?_
    refine x_iload_n h 1 dX6_isFree_18 rfl rfl ?_
    refine x_iadd_n h dX6_isFree_19 ?_
    refine xl_159 h dX6_isFree_20 (by omega) ?_
    refine x_top ((M 159 (7 + (j + 81)))) (by rw [show 88 + j = 7 + (j + 81) by omega]) ?_
    refine x_if_ne h 28 dX6_isFree_21 (by decide) (fun c_21 => ?_) (fun c_21 => ?_)
    · -- 21 true
      refine x_iconst h (nI 0) dX6_isFree_28 (by decide) ?_
      exact hret _ _ _ _ _ dX6_isFree_29 (by decide) (by exact ⟨⟨rfl, rfl⟩, Or.inr ⟨fun q => (by first | exact c_9 q.1 | exact c_21 q.2), rfl⟩⟩)
    · -- 21 false
      refine x_iconst h (nI 1) dX6_isFree_24 (by decide) ?_
      refine x_goto h 29 dX6_isFree_25 (by decide) ?_
      exact hret _ _ _ _ _ dX6_isFree_29 (by decide) (by exact ⟨⟨rfl, rfl⟩, Or.inl ⟨⟨c_9, c_21⟩, rfl⟩⟩)

theorem dX6_wireMany_0 : decode cX6_wireMany 0 = .ok (.iconst 0, 1) := by decide +kernel
theorem dX6_wireMany_1 : decode cX6_wireMany 1 = .ok (.istore_n 2, 1) := by decide +kernel
theorem dX6_wireMany_2 : decode cX6_wireMany 2 = .ok (.iconst 0, 1) := by decide +kernel
theorem dX6_wireMany_3 : decode cX6_wireMany 3 = .ok (.istore_n 3, 1) := by decide +kernel
theorem dX6_wireMany_4 : decode cX6_wireMany 4 = .ok (.iload_n 3, 1) := by decide +kernel
theorem dX6_wireMany_5 : decode cX6_wireMany 5 = .ok (.sipush 162, 3) := by decide +kernel
theorem dX6_wireMany_8 : decode cX6_wireMany 8 = .ok (.if_icmp .ge 32, 3) := by decide +kernel
theorem dX6_wireMany_11 : decode cX6_wireMany 11 = .ok (.iload_n 2, 1) := by decide +kernel
theorem dX6_wireMany_12 : decode cX6_wireMany 12 = .ok (.aload_n 0, 1) := by decide +kernel
theorem dX6_wireMany_13 : decode cX6_wireMany 13 = .ok (.getfield 7, 3) := by decide +kernel
theorem dX6_wireMany_16 : decode cX6_wireMany 16 = .ok (.bipush 7, 2) := by decide +kernel
theorem dX6_wireMany_18 : decode cX6_wireMany 18 = .ok (.iload_n 3, 1) := by decide +kernel
theorem dX6_wireMany_19 : decode cX6_wireMany 19 = .ok (.iadd, 1) := by decide +kernel
theorem dX6_wireMany_20 : decode cX6_wireMany 20 = .ok (.iaload, 1) := by decide +kernel
theorem dX6_wireMany_21 : decode cX6_wireMany 21 = .ok (.iconst 1, 1) := by decide +kernel
theorem dX6_wireMany_22 : decode cX6_wireMany 22 = .ok (.iload_n 1, 1) := by decide +kernel
theorem dX6_wireMany_23 : decode cX6_wireMany 23 = .ok (.iadd, 1) := by decide +kernel
theorem dX6_wireMany_24 : decode cX6_wireMany 24 = .ok (.if_icmp .ne 7, 3) := by decide +kernel
theorem dX6_wireMany_27 : decode cX6_wireMany 27 = .ok (.iconst 1, 1) := by decide +kernel
theorem dX6_wireMany_28 : decode cX6_wireMany 28 = .ok (.goto 4, 3) := by decide +kernel
theorem dX6_wireMany_31 : decode cX6_wireMany 31 = .ok (.iconst 0, 1) := by decide +kernel
theorem dX6_wireMany_32 : decode cX6_wireMany 32 = .ok (.iadd, 1) := by decide +kernel
theorem dX6_wireMany_33 : decode cX6_wireMany 33 = .ok (.istore_n 2, 1) := by decide +kernel
theorem dX6_wireMany_34 : decode cX6_wireMany 34 = .ok (.iinc 3 1, 3) := by decide +kernel
theorem dX6_wireMany_37 : decode cX6_wireMany 37 = .ok (.goto (-33), 3) := by decide +kernel
theorem dX6_wireMany_40 : decode cX6_wireMany 40 = .ok (.iload_n 2, 1) := by decide +kernel
theorem dX6_wireMany_41 : decode cX6_wireMany 41 = .ok (.ireturn, 1) := by decide +kernel
abbrev rmX6_wireMany : Room := { frames := 0, cells := 0, slots := 0, locals := 0 }
set_option maxRecDepth 20000 in
theorem in_X6_wireMany_X6 : ∀ w ∈ wsX60, w ∈ wsX6_wireMany := by decide +kernel

set_option maxRecDepth 100000 in
set_option maxHeartbeats 4000000 in
theorem c_X6_wireMany {l : Launch} {g : Geo} {M : Nat → Nat → Int32} {P : Nat → Nat} {k : Nat} (hk6 : k < 6) : Met l yX6_wireMany wsX6_wireMany rmX6_wireMany (cPre g [.ref (g.1 158), .int (nI k)] M P) (cQi g (fun r M' P' => (P = P' ∧ M = M') ∧ r = nI (wir (M 159) (nI (1 + k))))) 0 0 (gA g) := by
  refine met_i (cc := cX6_wireMany) (maxL := 4) (by decide) rfl ⟨rfl, rfl⟩ (Nat.le_of_ble_eq_true rfl) (fun x hx h hret => ?_)
  replace h : Cxk x g cX6_wireMany 4 wsX6_wireMany RX6 rmX6_wireMany := h
  show X x 0 [(0, .ref (g.1 158)), (1, .int (nI k))] [] M P
  refine x_iconst h (nI 0) dX6_wireMany_0 (by decide) ?_
  refine x_istore_n h [(2, .int (nI 0)), (0, .ref (g.1 158)), (1, .int (nI k))] dX6_wireMany_1 rfl (by decide) rfl ?_
  refine x_iconst h (nI 0) dX6_wireMany_2 (by decide) ?_
  refine x_istore_n h [(3, .int (nI 0)), (2, .int (nI 0)), (0, .ref (g.1 158)), (1, .int (nI k))] dX6_wireMany_3 rfl (by decide) rfl ?_
  have L4 : ∀ (fu : Nat) (i : Nat) (q : Nat), (162 - i) < fu → (i ≤ 162) → (q = cnt (fun a => decide (M 159 (7 + a) = nI (1 + k))) i) → X x 4 [(0, .ref (g.1 158)), (1, .int (nI k)), (2, .int (nI q)), (3, .int (nI i))] [] M P := by
    intro fu
    induction fu with
    | zero => intro i q hmu4; exact absurd hmu4 (Nat.not_lt_zero _)
    | succ fu ih4 =>
      intro i q hmu4 hi hq
      refine x_iload_n h 3 dX6_wireMany_4 rfl rfl ?_
      refine x_sipush h (nI 162) dX6_wireMany_5 (by decide) ?_
      refine x_icmp_ge_n h 40 dX6_wireMany_8 (by decide) (by omega) (by decide) (fun c_8 => ?_) (fun c_8 => ?_)
      · -- 8 true
        refine x_iload_n h 2 dX6_wireMany_40 rfl rfl ?_
        exact hret _ _ _ _ _ dX6_wireMany_41 (by obtain rfl : i = 162 := (by omega); subst hq; exact ⟨⟨rfl, rfl⟩, rfl⟩)
      · -- 8 false
        refine x_iload_n h 2 dX6_wireMany_11 rfl rfl ?_
        refine x_aload_n h 0 dX6_wireMany_12 rfl rfl ?_
        refine xg_X6_0 h in_X6_wireMany_X6 (by decide +kernel) dX6_wireMany_13 ?_
        refine x_bipush h (nI 7) dX6_wireMany_16 (by decide) ?_
        refine x_iload_n h 3 dX6_wireMany_18 rfl rfl ?_
        refine x_iadd_n h dX6_wireMany_19 ?_
        refine xl_159 h dX6_wireMany_20 (by omega) ?_
        refine x_iconst h (nI 1) dX6_wireMany_21 (by decide) ?_
        refine x_iload_n h 1 dX6_wireMany_22 rfl rfl ?_
        refine x_iadd_n h dX6_wireMany_23 ?_
        refine x_icmp_ne h 31 dX6_wireMany_24 (by decide) (fun c_24 => ?_) (fun c_24 => ?_)
        · -- 24 true
          refine x_iconst h (nI 0) dX6_wireMany_31 (by decide) ?_
          refine x_iadd_n h dX6_wireMany_32 ?_
          refine x_istore_n h [(2, .int (nI (q + 0))), (0, .ref (g.1 158)), (1, .int (nI k)), (3, .int (nI i))] dX6_wireMany_33 rfl (by decide) rfl ?_
          refine x_iinc_n h 3 (n := 1) [(3, .int (nI (i + 1))), (2, .int (nI (q + 0))), (0, .ref (g.1 158)), (1, .int (nI k))] dX6_wireMany_34 rfl (by decide) rfl ?_
          refine x_goto h 4 dX6_wireMany_37 (by decide) ?_
          exact x_lv (ih4 (i + 1) (q + 0) (by omega) (by omega) (by first | (rw [hq]; exact (cnt_s (p := fun a => decide (M 159 (7 + a) = nI (1 + k))) (by simp [*])).symm) | (rw [hq]; exact (cnt_n (p := fun a => decide (M 159 (7 + a) = nI (1 + k))) (by simp [*])).symm))) [2, 3, 1, 0] rfl
        · -- 24 false
          refine x_iconst h (nI 1) dX6_wireMany_27 (by decide) ?_
          refine x_goto h 32 dX6_wireMany_28 (by decide) ?_
          refine x_iadd_n h dX6_wireMany_32 ?_
          refine x_istore_n h [(2, .int (nI (q + 1))), (0, .ref (g.1 158)), (1, .int (nI k)), (3, .int (nI i))] dX6_wireMany_33 rfl (by decide) rfl ?_
          refine x_iinc_n h 3 (n := 1) [(3, .int (nI (i + 1))), (2, .int (nI (q + 1))), (0, .ref (g.1 158)), (1, .int (nI k))] dX6_wireMany_34 rfl (by decide) rfl ?_
          refine x_goto h 4 dX6_wireMany_37 (by decide) ?_
          exact x_lv (ih4 (i + 1) (q + 1) (by omega) (by omega) (by first | (rw [hq]; exact (cnt_s (p := fun a => decide (M 159 (7 + a) = nI (1 + k))) (by simp [*])).symm) | (rw [hq]; exact (cnt_n (p := fun a => decide (M 159 (7 + a) = nI (1 + k))) (by simp [*])).symm))) [2, 3, 1, 0] rfl
  exact x_lv (L4 _ 0 0 (Nat.lt_succ_self _) (by omega) (by rfl)) [2, 3, 1, 0] rfl

theorem dX6_viaMany_0 : decode cX6_viaMany 0 = .ok (.iconst 0, 1) := by decide +kernel
theorem dX6_viaMany_1 : decode cX6_viaMany 1 = .ok (.istore_n 2, 1) := by decide +kernel
theorem dX6_viaMany_2 : decode cX6_viaMany 2 = .ok (.iconst 0, 1) := by decide +kernel
theorem dX6_viaMany_3 : decode cX6_viaMany 3 = .ok (.istore_n 3, 1) := by decide +kernel
theorem dX6_viaMany_4 : decode cX6_viaMany 4 = .ok (.iload_n 3, 1) := by decide +kernel
theorem dX6_viaMany_5 : decode cX6_viaMany 5 = .ok (.bipush 81, 2) := by decide +kernel
theorem dX6_viaMany_7 : decode cX6_viaMany 7 = .ok (.if_icmp .ge 47, 3) := by decide +kernel
theorem dX6_viaMany_10 : decode cX6_viaMany 10 = .ok (.iload_n 2, 1) := by decide +kernel
theorem dX6_viaMany_11 : decode cX6_viaMany 11 = .ok (.aload_n 0, 1) := by decide +kernel
theorem dX6_viaMany_12 : decode cX6_viaMany 12 = .ok (.getfield 7, 3) := by decide +kernel
theorem dX6_viaMany_15 : decode cX6_viaMany 15 = .ok (.bipush 7, 2) := by decide +kernel
theorem dX6_viaMany_17 : decode cX6_viaMany 17 = .ok (.iload_n 3, 1) := by decide +kernel
theorem dX6_viaMany_18 : decode cX6_viaMany 18 = .ok (.iadd, 1) := by decide +kernel
theorem dX6_viaMany_19 : decode cX6_viaMany 19 = .ok (.iaload, 1) := by decide +kernel
theorem dX6_viaMany_20 : decode cX6_viaMany 20 = .ok (.iconst 1, 1) := by decide +kernel
theorem dX6_viaMany_21 : decode cX6_viaMany 21 = .ok (.iload_n 1, 1) := by decide +kernel
theorem dX6_viaMany_22 : decode cX6_viaMany 22 = .ok (.iadd, 1) := by decide +kernel
theorem dX6_viaMany_23 : decode cX6_viaMany 23 = .ok (.if_icmp .ne 22, 3) := by decide +kernel
theorem dX6_viaMany_26 : decode cX6_viaMany 26 = .ok (.aload_n 0, 1) := by decide +kernel
theorem dX6_viaMany_27 : decode cX6_viaMany 27 = .ok (.getfield 7, 3) := by decide +kernel
theorem dX6_viaMany_30 : decode cX6_viaMany 30 = .ok (.bipush 88, 2) := by decide +kernel
theorem dX6_viaMany_32 : decode cX6_viaMany 32 = .ok (.iload_n 3, 1) := by decide +kernel
theorem dX6_viaMany_33 : decode cX6_viaMany 33 = .ok (.iadd, 1) := by decide +kernel
theorem dX6_viaMany_34 : decode cX6_viaMany 34 = .ok (.iaload, 1) := by decide +kernel
theorem dX6_viaMany_35 : decode cX6_viaMany 35 = .ok (.iconst 1, 1) := by decide +kernel
theorem dX6_viaMany_36 : decode cX6_viaMany 36 = .ok (.iload_n 1, 1) := by decide +kernel
theorem dX6_viaMany_37 : decode cX6_viaMany 37 = .ok (.iadd, 1) := by decide +kernel
theorem dX6_viaMany_38 : decode cX6_viaMany 38 = .ok (.if_icmp .ne 7, 3) := by decide +kernel
theorem dX6_viaMany_41 : decode cX6_viaMany 41 = .ok (.iconst 1, 1) := by decide +kernel
theorem dX6_viaMany_42 : decode cX6_viaMany 42 = .ok (.goto 4, 3) := by decide +kernel
theorem dX6_viaMany_45 : decode cX6_viaMany 45 = .ok (.iconst 0, 1) := by decide +kernel
theorem dX6_viaMany_46 : decode cX6_viaMany 46 = .ok (.iadd, 1) := by decide +kernel
theorem dX6_viaMany_47 : decode cX6_viaMany 47 = .ok (.istore_n 2, 1) := by decide +kernel
theorem dX6_viaMany_48 : decode cX6_viaMany 48 = .ok (.iinc 3 1, 3) := by decide +kernel
theorem dX6_viaMany_51 : decode cX6_viaMany 51 = .ok (.goto (-47), 3) := by decide +kernel
theorem dX6_viaMany_54 : decode cX6_viaMany 54 = .ok (.iload_n 2, 1) := by decide +kernel
theorem dX6_viaMany_55 : decode cX6_viaMany 55 = .ok (.ireturn, 1) := by decide +kernel
abbrev rmX6_viaMany : Room := { frames := 0, cells := 0, slots := 0, locals := 0 }
set_option maxRecDepth 20000 in
theorem in_X6_viaMany_X6 : ∀ w ∈ wsX60, w ∈ wsX6_viaMany := by decide +kernel

set_option maxRecDepth 100000 in
set_option maxHeartbeats 4000000 in
theorem c_X6_viaMany {l : Launch} {g : Geo} {M : Nat → Nat → Int32} {P : Nat → Nat} {k : Nat} (hk6 : k < 6) : Met l yX6_viaMany wsX6_viaMany rmX6_viaMany (cPre g [.ref (g.1 158), .int (nI k)] M P) (cQi g (fun r M' P' => (P = P' ∧ M = M') ∧ r = nI (via (M 159) (nI (1 + k))))) 0 0 (gA g) := by
  refine met_i (cc := cX6_viaMany) (maxL := 4) (by decide) rfl ⟨rfl, rfl⟩ (Nat.le_of_ble_eq_true rfl) (fun x hx h hret => ?_)
  replace h : Cxk x g cX6_viaMany 4 wsX6_viaMany RX6 rmX6_viaMany := h
  show X x 0 [(0, .ref (g.1 158)), (1, .int (nI k))] [] M P
  refine x_iconst h (nI 0) dX6_viaMany_0 (by decide) ?_
  refine x_istore_n h [(2, .int (nI 0)), (0, .ref (g.1 158)), (1, .int (nI k))] dX6_viaMany_1 rfl (by decide) rfl ?_
  refine x_iconst h (nI 0) dX6_viaMany_2 (by decide) ?_
  refine x_istore_n h [(3, .int (nI 0)), (2, .int (nI 0)), (0, .ref (g.1 158)), (1, .int (nI k))] dX6_viaMany_3 rfl (by decide) rfl ?_
  have L4 : ∀ (fu : Nat) (i : Nat) (q : Nat), (81 - i) < fu → (i ≤ 81) → (q = cnt (fun a => decide (M 159 (7 + a) = nI (1 + k) ∧ M 159 (7 + (a + 81)) = nI (1 + k))) i) → X x 4 [(0, .ref (g.1 158)), (1, .int (nI k)), (2, .int (nI q)), (3, .int (nI i))] [] M P := by
    intro fu
    induction fu with
    | zero => intro i q hmu4; exact absurd hmu4 (Nat.not_lt_zero _)
    | succ fu ih4 =>
      intro i q hmu4 hi hq
      refine x_iload_n h 3 dX6_viaMany_4 rfl rfl ?_
      refine x_bipush h (nI 81) dX6_viaMany_5 (by decide) ?_
      refine x_icmp_ge_n h 54 dX6_viaMany_7 (by decide) (by omega) (by decide) (fun c_7 => ?_) (fun c_7 => ?_)
      · -- 7 true
        refine x_iload_n h 2 dX6_viaMany_54 rfl rfl ?_
        exact hret _ _ _ _ _ dX6_viaMany_55 (by obtain rfl : i = 81 := (by omega); subst hq; exact ⟨⟨rfl, rfl⟩, rfl⟩)
      · -- 7 false
        refine x_iload_n h 2 dX6_viaMany_10 rfl rfl ?_
        refine x_aload_n h 0 dX6_viaMany_11 rfl rfl ?_
        refine xg_X6_0 h in_X6_viaMany_X6 (by decide +kernel) dX6_viaMany_12 ?_
        refine x_bipush h (nI 7) dX6_viaMany_15 (by decide) ?_
        refine x_iload_n h 3 dX6_viaMany_17 rfl rfl ?_
        refine x_iadd_n h dX6_viaMany_18 ?_
        refine xl_159 h dX6_viaMany_19 (by omega) ?_
        refine x_iconst h (nI 1) dX6_viaMany_20 (by decide) ?_
        refine x_iload_n h 1 dX6_viaMany_21 rfl rfl ?_
        refine x_iadd_n h dX6_viaMany_22 ?_
        refine x_icmp_ne h 45 dX6_viaMany_23 (by decide) (fun c_23 => ?_) (fun c_23 => ?_)
        · -- 23 true
          refine x_iconst h (nI 0) dX6_viaMany_45 (by decide) ?_
          refine x_iadd_n h dX6_viaMany_46 ?_
          refine x_istore_n h [(2, .int (nI (q + 0))), (0, .ref (g.1 158)), (1, .int (nI k)), (3, .int (nI i))] dX6_viaMany_47 rfl (by decide) rfl ?_
          refine x_iinc_n h 3 (n := 1) [(3, .int (nI (i + 1))), (2, .int (nI (q + 0))), (0, .ref (g.1 158)), (1, .int (nI k))] dX6_viaMany_48 rfl (by decide) rfl ?_
          refine x_goto h 4 dX6_viaMany_51 (by decide) ?_
          exact x_lv (ih4 (i + 1) (q + 0) (by omega) (by omega) (by first | (rw [hq]; exact (cnt_s (p := fun a => decide (M 159 (7 + a) = nI (1 + k) ∧ M 159 (7 + (a + 81)) = nI (1 + k))) (by simp [*])).symm) | (rw [hq]; exact (cnt_n (p := fun a => decide (M 159 (7 + a) = nI (1 + k) ∧ M 159 (7 + (a + 81)) = nI (1 + k))) (by simp [*])).symm))) [2, 3, 1, 0] rfl
        · -- 23 false
          refine x_aload_n h 0 dX6_viaMany_26 rfl rfl ?_
          refine xg_X6_0 h in_X6_viaMany_X6 (by decide +kernel) dX6_viaMany_27 ?_
          refine x_bipush h (nI 88) dX6_viaMany_30 (by decide) ?_
          refine x_iload_n h 3 dX6_viaMany_32 rfl rfl ?_
          refine x_iadd_n h dX6_viaMany_33 ?_
          refine xl_159 h dX6_viaMany_34 (by omega) ?_
          refine x_top ((M 159 (7 + (i + 81)))) (by rw [show 88 + i = 7 + (i + 81) by omega]) ?_
          refine x_iconst h (nI 1) dX6_viaMany_35 (by decide) ?_
          refine x_iload_n h 1 dX6_viaMany_36 rfl rfl ?_
          refine x_iadd_n h dX6_viaMany_37 ?_
          refine x_icmp_ne h 45 dX6_viaMany_38 (by decide) (fun c_38 => ?_) (fun c_38 => ?_)
          · -- 38 true
            refine x_iconst h (nI 0) dX6_viaMany_45 (by decide) ?_
            refine x_iadd_n h dX6_viaMany_46 ?_
            refine x_istore_n h [(2, .int (nI (q + 0))), (0, .ref (g.1 158)), (1, .int (nI k)), (3, .int (nI i))] dX6_viaMany_47 rfl (by decide) rfl ?_
            refine x_iinc_n h 3 (n := 1) [(3, .int (nI (i + 1))), (2, .int (nI (q + 0))), (0, .ref (g.1 158)), (1, .int (nI k))] dX6_viaMany_48 rfl (by decide) rfl ?_
            refine x_goto h 4 dX6_viaMany_51 (by decide) ?_
            exact x_lv (ih4 (i + 1) (q + 0) (by omega) (by omega) (by first | (rw [hq]; exact (cnt_s (p := fun a => decide (M 159 (7 + a) = nI (1 + k) ∧ M 159 (7 + (a + 81)) = nI (1 + k))) (by simp [*])).symm) | (rw [hq]; exact (cnt_n (p := fun a => decide (M 159 (7 + a) = nI (1 + k) ∧ M 159 (7 + (a + 81)) = nI (1 + k))) (by simp [*])).symm))) [2, 3, 1, 0] rfl
          · -- 38 false
            refine x_iconst h (nI 1) dX6_viaMany_41 (by decide) ?_
            refine x_goto h 46 dX6_viaMany_42 (by decide) ?_
            refine x_iadd_n h dX6_viaMany_46 ?_
            refine x_istore_n h [(2, .int (nI (q + 1))), (0, .ref (g.1 158)), (1, .int (nI k)), (3, .int (nI i))] dX6_viaMany_47 rfl (by decide) rfl ?_
            refine x_iinc_n h 3 (n := 1) [(3, .int (nI (i + 1))), (2, .int (nI (q + 1))), (0, .ref (g.1 158)), (1, .int (nI k))] dX6_viaMany_48 rfl (by decide) rfl ?_
            refine x_goto h 4 dX6_viaMany_51 (by decide) ?_
            exact x_lv (ih4 (i + 1) (q + 1) (by omega) (by omega) (by first | (rw [hq]; exact (cnt_s (p := fun a => decide (M 159 (7 + a) = nI (1 + k) ∧ M 159 (7 + (a + 81)) = nI (1 + k))) (by simp [*])).symm) | (rw [hq]; exact (cnt_n (p := fun a => decide (M 159 (7 + a) = nI (1 + k) ∧ M 159 (7 + (a + 81)) = nI (1 + k))) (by simp [*])).symm))) [2, 3, 1, 0] rfl
  exact x_lv (L4 _ 0 0 (Nat.lt_succ_self _) (by omega) (by rfl)) [2, 3, 1, 0] rfl

theorem dX6_claimAt_0 : decode cX6_claimAt 0 = .ok (.aload_n 0, 1) := by decide +kernel
theorem dX6_claimAt_1 : decode cX6_claimAt 1 = .ok (.getfield 7, 3) := by decide +kernel
theorem dX6_claimAt_4 : decode cX6_claimAt 4 = .ok (.sipush 223, 3) := by decide +kernel
theorem dX6_claimAt_7 : decode cX6_claimAt 7 = .ok (.bipush 13, 2) := by decide +kernel
theorem dX6_claimAt_9 : decode cX6_claimAt 9 = .ok (.iload_n 1, 1) := by decide +kernel
theorem dX6_claimAt_10 : decode cX6_claimAt 10 = .ok (.imul, 1) := by decide +kernel
theorem dX6_claimAt_11 : decode cX6_claimAt 11 = .ok (.iadd, 1) := by decide +kernel
theorem dX6_claimAt_12 : decode cX6_claimAt 12 = .ok (.iload_n 2, 1) := by decide +kernel
theorem dX6_claimAt_13 : decode cX6_claimAt 13 = .ok (.iadd, 1) := by decide +kernel
theorem dX6_claimAt_14 : decode cX6_claimAt 14 = .ok (.iaload, 1) := by decide +kernel
theorem dX6_claimAt_15 : decode cX6_claimAt 15 = .ok (.ireturn, 1) := by decide +kernel
abbrev rmX6_claimAt : Room := { frames := 0, cells := 0, slots := 0, locals := 0 }
set_option maxRecDepth 20000 in
theorem in_X6_claimAt_X6 : ∀ w ∈ wsX60, w ∈ wsX6_claimAt := by decide +kernel

set_option maxRecDepth 100000 in
set_option maxHeartbeats 4000000 in
theorem c_X6_claimAt {l : Launch} {g : Geo} {M : Nat → Nat → Int32} {P : Nat → Nat} {i w : Nat} (hi : i < 12) (hw : w < 13) : Met l yX6_claimAt wsX6_claimAt rmX6_claimAt (cPre g [.ref (g.1 158), .int (nI i), .int (nI w)] M P) (cQi g (fun r M' P' => (P = P' ∧ M = M') ∧ r = M 159 (223 + 13 * i + w))) 0 0 (gA g) := by
  refine met_i (cc := cX6_claimAt) (maxL := 3) (by decide) rfl ⟨rfl, rfl⟩ (Nat.le_of_ble_eq_true rfl) (fun x hx h hret => ?_)
  replace h : Cxk x g cX6_claimAt 3 wsX6_claimAt RX6 rmX6_claimAt := h
  show X x 0 [(0, .ref (g.1 158)), (1, .int (nI i)), (2, .int (nI w))] [] M P
  refine x_aload_n h 0 dX6_claimAt_0 rfl rfl ?_
  refine xg_X6_0 h in_X6_claimAt_X6 (by decide +kernel) dX6_claimAt_1 ?_
  refine x_sipush h (nI 223) dX6_claimAt_4 (by decide) ?_
  refine x_bipush h (nI 13) dX6_claimAt_7 (by decide) ?_
  refine x_iload_n h 1 dX6_claimAt_9 rfl rfl ?_
  refine x_imul_n h dX6_claimAt_10 ?_
  refine x_iadd_n h dX6_claimAt_11 ?_
  refine x_iload_n h 2 dX6_claimAt_12 rfl rfl ?_
  refine x_iadd_n h dX6_claimAt_13 ?_
  refine xl_159 h dX6_claimAt_14 (by omega) ?_
  exact hret _ _ _ _ _ dX6_claimAt_15 (by exact ⟨⟨rfl, rfl⟩, rfl⟩)

set_option maxRecDepth 20000 in
theorem ggX6_since_X6_claimAt : GoodIn wsX6_since wsX6_claimAt := goodIn_r _ [6, 1, 7, 8, 9, 10, 11, 12, 13, 14, 15, 16, 17, 18, 19, 20, 21, 22, 23, 24, 25] (by decide +kernel) (by decide +kernel)
set_option maxRecDepth 20000 in
theorem gX6_since_X6_claimAt : GoodIn wsX6_since (wsV RX6 168 RX6 yX6_claimAt wsX6_claimAt) := goodIn_app (goodIn_of _ (by decide +kernel)) ggX6_since_X6_claimAt
theorem dX6_since_0 : decode cX6_since 0 = .ok (.aload_n 0, 1) := by decide +kernel
theorem dX6_since_1 : decode cX6_since 1 = .ok (.getfield 7, 3) := by decide +kernel
theorem dX6_since_4 : decode cX6_since 4 = .ok (.iconst 4, 1) := by decide +kernel
theorem dX6_since_5 : decode cX6_since 5 = .ok (.iaload, 1) := by decide +kernel
theorem dX6_since_6 : decode cX6_since 6 = .ok (.aload_n 0, 1) := by decide +kernel
theorem dX6_since_7 : decode cX6_since 7 = .ok (.iload_n 1, 1) := by decide +kernel
theorem dX6_since_8 : decode cX6_since 8 = .ok (.bipush 6, 2) := by decide +kernel
theorem dX6_since_10 : decode cX6_since 10 = .ok (.invokevirtual 168, 3) := by decide +kernel
theorem dX6_since_13 : decode cX6_since 13 = .ok (.isub, 1) := by decide +kernel
theorem dX6_since_14 : decode cX6_since 14 = .ok (.ireturn, 1) := by decide +kernel
abbrev rmX6_since : Room := { frames := 1, cells := 0, slots := 0, locals := 22 }
set_option maxRecDepth 20000 in
theorem in_X6_since_X6 : ∀ w ∈ wsX60, w ∈ wsX6_since := by decide +kernel

set_option maxRecDepth 100000 in
set_option maxHeartbeats 4000000 in
theorem c_X6_since {l : Launch} {g : Geo} {M : Nat → Nat → Int32} {P : Nat → Nat} {i : Nat} (hi : i < 12) : Met l yX6_since wsX6_since rmX6_since (cPre g [.ref (g.1 158), .int (nI i)] M P) (cQi g (fun r M' P' => (P = P' ∧ M = M') ∧ r = M 159 4 - M 159 (223 + 13 * i + 6))) 0 0 (gA g) := by
  refine met_i (cc := cX6_since) (maxL := 2) (by decide) rfl ⟨rfl, rfl⟩ (Nat.le_of_ble_eq_true rfl) (fun x hx h hret => ?_)
  replace h : Cxk x g cX6_since 2 wsX6_since RX6 rmX6_since := h
  show X x 0 [(0, .ref (g.1 158)), (1, .int (nI i))] [] M P
  refine x_aload_n h 0 dX6_since_0 rfl rfl ?_
  refine xg_X6_0 h in_X6_since_X6 (by decide +kernel) dX6_since_1 ?_
  refine x_iconst h (nI 4) dX6_since_4 (by decide) ?_
  refine xl_159 h dX6_since_5 (by decide) ?_
  refine x_aload_n h 0 dX6_since_6 rfl rfl ?_
  refine x_iload_n h 1 dX6_since_7 rfl rfl ?_
  refine x_bipush h (nI 6) dX6_since_8 (by decide) ?_
  refine x_callV h (As := [.int (nI i), .int (nI 6)]) 2 hx (c_X6_claimAt (by omega) (by decide)) gX6_since_X6_claimAt rfl ⟨rfl, rfl⟩ (by decide +kernel) rfl (by decide) (by decide) E_158 rfl rfl (Nat.le_of_ble_eq_true rfl) dX6_since_10 (fun rv M' P' hp => ?_)
  obtain ⟨⟨rfl, rfl⟩, rfl⟩ := hp
  refine x_isub h dX6_since_13 ?_
  exact hret _ _ _ _ _ dX6_since_14 (by exact ⟨⟨rfl, rfl⟩, rfl⟩)

set_option maxRecDepth 20000 in
theorem ggX6_loss_X6_claimAt : GoodIn wsX6_loss wsX6_claimAt := goodIn_r _ [6, 1, 7, 8, 9, 10, 11, 12, 13, 14, 15, 16, 17, 18, 19, 20, 21, 22, 23, 24, 25] (by decide +kernel) (by decide +kernel)
set_option maxRecDepth 20000 in
theorem gX6_loss_X6_claimAt : GoodIn wsX6_loss (wsV RX6 168 RX6 yX6_claimAt wsX6_claimAt) := goodIn_app (goodIn_of _ (by decide +kernel)) ggX6_loss_X6_claimAt
theorem dX6_loss_0 : decode cX6_loss 0 = .ok (.aload_n 0, 1) := by decide +kernel
theorem dX6_loss_1 : decode cX6_loss 1 = .ok (.getfield 7, 3) := by decide +kernel
theorem dX6_loss_4 : decode cX6_loss 4 = .ok (.iconst 2, 1) := by decide +kernel
theorem dX6_loss_5 : decode cX6_loss 5 = .ok (.iaload, 1) := by decide +kernel
theorem dX6_loss_6 : decode cX6_loss 6 = .ok (.aload_n 0, 1) := by decide +kernel
theorem dX6_loss_7 : decode cX6_loss 7 = .ok (.iload_n 1, 1) := by decide +kernel
theorem dX6_loss_8 : decode cX6_loss 8 = .ok (.iconst 2, 1) := by decide +kernel
theorem dX6_loss_9 : decode cX6_loss 9 = .ok (.invokevirtual 168, 3) := by decide +kernel
theorem dX6_loss_12 : decode cX6_loss 12 = .ok (.imul, 1) := by decide +kernel
theorem dX6_loss_13 : decode cX6_loss 13 = .ok (.aload_n 0, 1) := by decide +kernel
theorem dX6_loss_14 : decode cX6_loss 14 = .ok (.getfield 7, 3) := by decide +kernel
theorem dX6_loss_17 : decode cX6_loss 17 = .ok (.iconst 0, 1) := by decide +kernel
theorem dX6_loss_18 : decode cX6_loss 18 = .ok (.iaload, 1) := by decide +kernel
theorem dX6_loss_19 : decode cX6_loss 19 = .ok (.aload_n 0, 1) := by decide +kernel
theorem dX6_loss_20 : decode cX6_loss 20 = .ok (.iload_n 1, 1) := by decide +kernel
theorem dX6_loss_21 : decode cX6_loss 21 = .ok (.iconst 3, 1) := by decide +kernel
theorem dX6_loss_22 : decode cX6_loss 22 = .ok (.invokevirtual 168, 3) := by decide +kernel
theorem dX6_loss_25 : decode cX6_loss 25 = .ok (.imul, 1) := by decide +kernel
theorem dX6_loss_26 : decode cX6_loss 26 = .ok (.iadd, 1) := by decide +kernel
theorem dX6_loss_27 : decode cX6_loss 27 = .ok (.ireturn, 1) := by decide +kernel
abbrev rmX6_loss : Room := { frames := 1, cells := 0, slots := 0, locals := 22 }
set_option maxRecDepth 20000 in
theorem in_X6_loss_X6 : ∀ w ∈ wsX60, w ∈ wsX6_loss := by decide +kernel

set_option maxRecDepth 100000 in
set_option maxHeartbeats 4000000 in
theorem c_X6_loss {l : Launch} {g : Geo} {M : Nat → Nat → Int32} {P : Nat → Nat} {i : Nat} (hi : i < 12) : Met l yX6_loss wsX6_loss rmX6_loss (cPre g [.ref (g.1 158), .int (nI i)] M P) (cQi g (fun r M' P' => (P = P' ∧ M = M') ∧ r = lossX (M 159) i)) 0 0 (gA g) := by
  refine met_i (cc := cX6_loss) (maxL := 2) (by decide) rfl ⟨rfl, rfl⟩ (Nat.le_of_ble_eq_true rfl) (fun x hx h hret => ?_)
  replace h : Cxk x g cX6_loss 2 wsX6_loss RX6 rmX6_loss := h
  show X x 0 [(0, .ref (g.1 158)), (1, .int (nI i))] [] M P
  refine x_aload_n h 0 dX6_loss_0 rfl rfl ?_
  refine xg_X6_0 h in_X6_loss_X6 (by decide +kernel) dX6_loss_1 ?_
  refine x_iconst h (nI 2) dX6_loss_4 (by decide) ?_
  refine xl_159 h dX6_loss_5 (by decide) ?_
  refine x_aload_n h 0 dX6_loss_6 rfl rfl ?_
  refine x_iload_n h 1 dX6_loss_7 rfl rfl ?_
  refine x_iconst h (nI 2) dX6_loss_8 (by decide) ?_
  refine x_callV h (As := [.int (nI i), .int (nI 2)]) 2 hx (c_X6_claimAt (by omega) (by decide)) gX6_loss_X6_claimAt rfl ⟨rfl, rfl⟩ (by decide +kernel) rfl (by decide) (by decide) E_158 rfl rfl (Nat.le_of_ble_eq_true rfl) dX6_loss_9 (fun rv M' P' hp => ?_)
  obtain ⟨⟨rfl, rfl⟩, rfl⟩ := hp
  refine x_imul h dX6_loss_12 ?_
  refine x_aload_n h 0 dX6_loss_13 rfl rfl ?_
  refine xg_X6_0 h in_X6_loss_X6 (by decide +kernel) dX6_loss_14 ?_
  refine x_iconst h (nI 0) dX6_loss_17 (by decide) ?_
  refine xl_159 h dX6_loss_18 (by decide) ?_
  refine x_aload_n h 0 dX6_loss_19 rfl rfl ?_
  refine x_iload_n h 1 dX6_loss_20 rfl rfl ?_
  refine x_iconst h (nI 3) dX6_loss_21 (by decide) ?_
  refine x_callV h (As := [.int (nI i), .int (nI 3)]) 2 hx (c_X6_claimAt (by omega) (by decide)) gX6_loss_X6_claimAt rfl ⟨rfl, rfl⟩ (by decide +kernel) rfl (by decide) (by decide) E_158 rfl rfl (Nat.le_of_ble_eq_true rfl) dX6_loss_22 (fun rv M' P' hp => ?_)
  obtain ⟨⟨rfl, rfl⟩, rfl⟩ := hp
  refine x_imul h dX6_loss_25 ?_
  refine x_iadd h dX6_loss_26 ?_
  exact hret _ _ _ _ _ dX6_loss_27 (by exact ⟨⟨rfl, rfl⟩, rfl⟩)

set_option maxRecDepth 20000 in
theorem ggX6_appealMany_X6_claimAt : GoodIn wsX6_appealMany wsX6_claimAt := goodIn_r _ [6, 1, 7, 8, 9, 10, 11, 12, 13, 14, 15, 16, 17, 18, 19, 20, 21, 22, 23, 24, 25] (by decide +kernel) (by decide +kernel)
set_option maxRecDepth 20000 in
theorem gX6_appealMany_X6_claimAt : GoodIn wsX6_appealMany (wsV RX6 168 RX6 yX6_claimAt wsX6_claimAt) := goodIn_app (goodIn_of _ (by decide +kernel)) ggX6_appealMany_X6_claimAt
theorem dX6_appealMany_0 : decode cX6_appealMany 0 = .ok (.iconst 0, 1) := by decide +kernel
theorem dX6_appealMany_1 : decode cX6_appealMany 1 = .ok (.istore_n 1, 1) := by decide +kernel
theorem dX6_appealMany_2 : decode cX6_appealMany 2 = .ok (.iconst 0, 1) := by decide +kernel
theorem dX6_appealMany_3 : decode cX6_appealMany 3 = .ok (.istore_n 2, 1) := by decide +kernel
theorem dX6_appealMany_4 : decode cX6_appealMany 4 = .ok (.iload_n 2, 1) := by decide +kernel
theorem dX6_appealMany_5 : decode cX6_appealMany 5 = .ok (.aload_n 0, 1) := by decide +kernel
theorem dX6_appealMany_6 : decode cX6_appealMany 6 = .ok (.getfield 7, 3) := by decide +kernel
theorem dX6_appealMany_9 : decode cX6_appealMany 9 = .ok (.bipush 6, 2) := by decide +kernel
theorem dX6_appealMany_11 : decode cX6_appealMany 11 = .ok (.iaload, 1) := by decide +kernel
theorem dX6_appealMany_12 : decode cX6_appealMany 12 = .ok (.if_icmp .ge 27, 3) := by decide +kernel
theorem dX6_appealMany_15 : decode cX6_appealMany 15 = .ok (.iload_n 1, 1) := by decide +kernel
theorem dX6_appealMany_16 : decode cX6_appealMany 16 = .ok (.aload_n 0, 1) := by decide +kernel
theorem dX6_appealMany_17 : decode cX6_appealMany 17 = .ok (.iload_n 2, 1) := by decide +kernel
theorem dX6_appealMany_18 : decode cX6_appealMany 18 = .ok (.iconst 5, 1) := by decide +kernel
theorem dX6_appealMany_19 : decode cX6_appealMany 19 = .ok (.invokevirtual 168, 3) := by decide +kernel
theorem dX6_appealMany_22 : decode cX6_appealMany 22 = .ok (.iconst 1, 1) := by decide +kernel
theorem dX6_appealMany_23 : decode cX6_appealMany 23 = .ok (.if_icmp .ne 7, 3) := by decide +kernel
theorem dX6_appealMany_26 : decode cX6_appealMany 26 = .ok (.iconst 1, 1) := by decide +kernel
theorem dX6_appealMany_27 : decode cX6_appealMany 27 = .ok (.goto 4, 3) := by decide +kernel
theorem dX6_appealMany_30 : decode cX6_appealMany 30 = .ok (.iconst 0, 1) := by decide +kernel
theorem dX6_appealMany_31 : decode cX6_appealMany 31 = .ok (.iadd, 1) := by decide +kernel
theorem dX6_appealMany_32 : decode cX6_appealMany 32 = .ok (.istore_n 1, 1) := by decide +kernel
theorem dX6_appealMany_33 : decode cX6_appealMany 33 = .ok (.iinc 2 1, 3) := by decide +kernel
theorem dX6_appealMany_36 : decode cX6_appealMany 36 = .ok (.goto (-32), 3) := by decide +kernel
theorem dX6_appealMany_39 : decode cX6_appealMany 39 = .ok (.iload_n 1, 1) := by decide +kernel
theorem dX6_appealMany_40 : decode cX6_appealMany 40 = .ok (.ireturn, 1) := by decide +kernel
abbrev rmX6_appealMany : Room := { frames := 1, cells := 0, slots := 0, locals := 22 }
set_option maxRecDepth 20000 in
theorem in_X6_appealMany_X6 : ∀ w ∈ wsX60, w ∈ wsX6_appealMany := by decide +kernel

set_option maxRecDepth 100000 in
set_option maxHeartbeats 4000000 in
theorem c_X6_appealMany {l : Launch} {g : Geo} {M : Nat → Nat → Int32} {P : Nat → Nat} {N K B : Nat} (hI : InvX eM (M 159) N K B) : Met l yX6_appealMany wsX6_appealMany rmX6_appealMany (cPre g [.ref (g.1 158)] M P) (cQi g (fun r M' P' => (P = P' ∧ M = M') ∧ r = nI (appl (M 159) K))) 0 0 (gA g) := by
  refine met_i (cc := cX6_appealMany) (maxL := 3) (by decide) rfl ⟨rfl, rfl⟩ (Nat.le_of_ble_eq_true rfl) (fun x hx h hret => ?_)
  replace h : Cxk x g cX6_appealMany 3 wsX6_appealMany RX6 rmX6_appealMany := h
  show X x 0 [(0, .ref (g.1 158))] [] M P
  have hN := hI.1.1
  have hN6 := hI.1.2.1
  have hK := hI.1.2.2.1
  have hK12 := hI.1.2.2.2.1
  refine x_iconst h (nI 0) dX6_appealMany_0 (by decide) ?_
  refine x_istore_n h [(1, .int (nI 0)), (0, .ref (g.1 158))] dX6_appealMany_1 rfl (by decide) rfl ?_
  refine x_iconst h (nI 0) dX6_appealMany_2 (by decide) ?_
  refine x_istore_n h [(2, .int (nI 0)), (1, .int (nI 0)), (0, .ref (g.1 158))] dX6_appealMany_3 rfl (by decide) rfl ?_
  have L4 : ∀ (fu : Nat) (i : Nat) (k : Nat), (K - i) < fu → (i ≤ K) → (k = cnt (fun a => decide (M 159 (223 + 13 * a + 5) = nI 1)) i) → X x 4 [(0, .ref (g.1 158)), (1, .int (nI k)), (2, .int (nI i))] [] M P := by
    intro fu
    induction fu with
    | zero => intro i k hmu4; exact absurd hmu4 (Nat.not_lt_zero _)
    | succ fu ih4 =>
      intro i k hmu4 hi hk
      refine x_iload_n h 2 dX6_appealMany_4 rfl rfl ?_
      refine x_aload_n h 0 dX6_appealMany_5 rfl rfl ?_
      refine xg_X6_0 h in_X6_appealMany_X6 (by decide +kernel) dX6_appealMany_6 ?_
      refine x_bipush h (nI 6) dX6_appealMany_9 (by decide) ?_
      refine xl_159 h dX6_appealMany_11 (by decide) ?_
      refine x_top (nI K) (hK) ?_
      refine x_icmp_ge_n h 39 dX6_appealMany_12 (by decide) (by omega) (by omega) (fun c_12 => ?_) (fun c_12 => ?_)
      · -- 12 true
        refine x_iload_n h 1 dX6_appealMany_39 rfl rfl ?_
        exact hret _ _ _ _ _ dX6_appealMany_40 (by obtain rfl : i = K := (by omega); subst hk; exact ⟨⟨rfl, rfl⟩, rfl⟩)
      · -- 12 false
        refine x_iload_n h 1 dX6_appealMany_15 rfl rfl ?_
        refine x_aload_n h 0 dX6_appealMany_16 rfl rfl ?_
        refine x_iload_n h 2 dX6_appealMany_17 rfl rfl ?_
        refine x_iconst h (nI 5) dX6_appealMany_18 (by decide) ?_
        refine x_callV h (As := [.int (nI i), .int (nI 5)]) 2 hx (c_X6_claimAt (by omega) (by decide)) gX6_appealMany_X6_claimAt rfl ⟨rfl, rfl⟩ (by decide +kernel) rfl (by decide) (by decide) E_158 rfl rfl (Nat.le_of_ble_eq_true rfl) dX6_appealMany_19 (fun rv M' P' hp => ?_)
        obtain ⟨⟨rfl, rfl⟩, rfl⟩ := hp
        refine x_iconst h (nI 1) dX6_appealMany_22 (by decide) ?_
        refine x_icmp_ne h 30 dX6_appealMany_23 (by decide) (fun c_23 => ?_) (fun c_23 => ?_)
        · -- 23 true
          refine x_iconst h (nI 0) dX6_appealMany_30 (by decide) ?_
          refine x_iadd_n h dX6_appealMany_31 ?_
          refine x_istore_n h [(1, .int (nI (k + 0))), (0, .ref (g.1 158)), (2, .int (nI i))] dX6_appealMany_32 rfl (by decide) rfl ?_
          refine x_iinc_n h 2 (n := 1) [(2, .int (nI (i + 1))), (1, .int (nI (k + 0))), (0, .ref (g.1 158))] dX6_appealMany_33 rfl (by decide) rfl ?_
          refine x_goto h 4 dX6_appealMany_36 (by decide) ?_
          exact x_lv (ih4 (i + 1) (k + 0) (by omega) (by omega) (by first | (rw [hk]; exact (cnt_s (p := fun a => decide (M 159 (223 + 13 * a + 5) = nI 1)) (by simp [*])).symm) | (rw [hk]; exact (cnt_n (p := fun a => decide (M 159 (223 + 13 * a + 5) = nI 1)) (by simp [*])).symm))) [2, 1, 0] rfl
        · -- 23 false
          refine x_iconst h (nI 1) dX6_appealMany_26 (by decide) ?_
          refine x_goto h 31 dX6_appealMany_27 (by decide) ?_
          refine x_iadd_n h dX6_appealMany_31 ?_
          refine x_istore_n h [(1, .int (nI (k + 1))), (0, .ref (g.1 158)), (2, .int (nI i))] dX6_appealMany_32 rfl (by decide) rfl ?_
          refine x_iinc_n h 2 (n := 1) [(2, .int (nI (i + 1))), (1, .int (nI (k + 1))), (0, .ref (g.1 158))] dX6_appealMany_33 rfl (by decide) rfl ?_
          refine x_goto h 4 dX6_appealMany_36 (by decide) ?_
          exact x_lv (ih4 (i + 1) (k + 1) (by omega) (by omega) (by first | (rw [hk]; exact (cnt_s (p := fun a => decide (M 159 (223 + 13 * a + 5) = nI 1)) (by simp [*])).symm) | (rw [hk]; exact (cnt_n (p := fun a => decide (M 159 (223 + 13 * a + 5) = nI 1)) (by simp [*])).symm))) [2, 1, 0] rfl
  exact x_lv (L4 _ 0 0 (Nat.lt_succ_self _) (by omega) (by rfl)) [2, 1, 0] rfl
