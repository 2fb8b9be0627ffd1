/-! texts -/
def TxM (M : Nat → Nat → Int32) (tx : Nat → Nat) (ln : Nat) : Prop := M 147 1 = nI ln ∧ ln ≤ 60 ∧ ∀ i, i < ln → M 148 i = nI (tx i) ∧ 32 ≤ tx i ∧ tx i ≤ 126
def chC (tx : Nat → Nat) (ln i : Nat) : Int32 := if i < ln then nI (tx i) else -1
abbrev isC (tx : Nat → Nat) (ln i k : Nat) : Prop := i < ln ∧ tx i = k
abbrev isD (tx : Nat → Nat) (ln i : Nat) : Prop := i < ln ∧ 48 ≤ tx i ∧ tx i ≤ 57
abbrev isL (tx : Nat → Nat) (ln i : Nat) : Prop := i < ln ∧ (tx i = 108 ∨ tx i = 100 ∨ tx i = 114 ∨ tx i = 97 ∨ tx i = 119)
def endO (tx : Nat → Nat) (ln p : Nat) : Option Nat := if isC tx ln p 104 then (if isC tx ln (p + 1) 59 then some (p + 1) else none) else if isL tx ln p ∧ isD tx ln (p + 1) then (if isD tx ln (p + 2) then (if isC tx ln (p + 3) 59 then some (p + 3) else none) else (if isC tx ln (p + 2) 59 then some (p + 2) else none)) else none
def numL (tx : Nat → Nat) (b : Nat) : Nat → Nat
  | 0 => 0
  | m + 1 => 10 * numL tx b m + tx (b + m) - 48
theorem chC_eq {tx : Nat → Nat} {ln i k : Nat} (ht : ∀ i, i < ln → 32 ≤ tx i ∧ tx i ≤ 126) (hk : k < 2 ^ 31) : chC tx ln i = nI k ↔ isC tx ln i k := by
  unfold chC
  by_cases h : i < ln
  · have := ht i h
    rw [if_pos h, nI_eq (by omega) hk]
    exact ⟨fun e => ⟨h, e⟩, fun e => e.2⟩
  · rw [if_neg h]
    exact ⟨fun e => absurd e (m1_ne hk), fun e => absurd e.1 h⟩
theorem chC_dig {tx : Nat → Nat} {ln i : Nat} (ht : ∀ i, i < ln → 32 ≤ tx i ∧ tx i ≤ 126) : (nI 48 ≤ chC tx ln i ∧ chC tx ln i ≤ nI 57) ↔ isD tx ln i := by
  unfold chC
  by_cases h : i < ln
  · have := ht i h
    rw [if_pos h, nI_leI (by omega) (by omega), nI_leI (by omega) (by omega)]
    exact ⟨fun e => ⟨h, e⟩, fun e => e.2⟩
  · rw [if_neg h]
    exact ⟨fun e => absurd e.1 (by decide), fun e => absurd e.1 h⟩
theorem chC_let {tx : Nat → Nat} {ln i : Nat} (ht : ∀ i, i < ln → 32 ≤ tx i ∧ tx i ≤ 126) : (chC tx ln i = nI 108 ∨ chC tx ln i = nI 100 ∨ chC tx ln i = nI 114 ∨ chC tx ln i = nI 97 ∨ chC tx ln i = nI 119) ↔ isL tx ln i := by
  rw [chC_eq ht (by decide), chC_eq ht (by decide), chC_eq ht (by decide), chC_eq ht (by decide), chC_eq ht (by decide)]
  unfold isL isC
  constructor
  · rintro (h | h | h | h | h)
    · exact ⟨h.1, Or.inl h.2⟩
    · exact ⟨h.1, Or.inr (Or.inl h.2)⟩
    · exact ⟨h.1, Or.inr (Or.inr (Or.inl h.2))⟩
    · exact ⟨h.1, Or.inr (Or.inr (Or.inr (Or.inl h.2)))⟩
    · exact ⟨h.1, Or.inr (Or.inr (Or.inr (Or.inr h.2)))⟩
  · rintro ⟨h, h2 | h2 | h2 | h2 | h2⟩
    · exact Or.inl ⟨h, h2⟩
    · exact Or.inr (Or.inl ⟨h, h2⟩)
    · exact Or.inr (Or.inr (Or.inl ⟨h, h2⟩))
    · exact Or.inr (Or.inr (Or.inr (Or.inl ⟨h, h2⟩)))
    · exact Or.inr (Or.inr (Or.inr (Or.inr ⟨h, h2⟩)))
def rsn (b : Prop) (a r : Int32) : Prop := (¬ b ∧ r = nI 2) ∨ (b ∧ a < 0 ∧ r = nI 3) ∨ (b ∧ ¬ a < 0 ∧ r = nI 0)
/-- one order: its letter, its number, the reason why it is not possible -/
def ordQ (bt : (Nat → Int32) → Nat → Nat → Bool) (fin : (Nat → Int32) → Nat → Nat → Nat → List Nat → Nat → Int32) (e : Enc) (X : Nat → Int32) (N K L v : Nat) (r : Int32) (X' : Nat → Int32) : Prop := ∃ a : Int32,
  (L = 104 ∧ hearQ bt e X N K a X' ∧ rsn True a r) ∨ (L = 119 ∧ passQ X (nI v) a X' ∧ rsn True a r) ∨ (L = 97 ∧ applQ X K (nI v) a X' ∧ rsn (v < K) a r) ∨ (L = 108 ∧ layQ e X N (nI v) a X' ∧ rsn (v < N) a r) ∨ (L = 100 ∧ digQ fin e X N K (nI v) a X' ∧ rsn (v < N) a r) ∨ (L = 114 ∧ ripQ e X N (nI v) a X' ∧ rsn (v < N) a r)

theorem dX4_characterAt_0 : decode cX4_characterAt 0 = .ok (.iload_n 1, 1) := by decide +kernel
theorem dX4_characterAt_1 : decode cX4_characterAt 1 = .ok (.ifCond .lt 26, 3) := by decide +kernel
theorem dX4_characterAt_4 : decode cX4_characterAt 4 = .ok (.iload_n 1, 1) := by decide +kernel
theorem dX4_characterAt_5 : decode cX4_characterAt 5 = .ok (.aload_n 0, 1) := by decide +kernel
theorem dX4_characterAt_6 : decode cX4_characterAt 6 = .ok (.getfield 16, 3) := by decide +kernel
theorem dX4_characterAt_9 : decode cX4_characterAt 9 = .ok (.if_icmp .ge 18, 3) := by decide +kernel
theorem dX4_characterAt_12 : decode cX4_characterAt 12 = .ok (.iload_n 1, 1) := by decide +kernel
theorem dX4_characterAt_13 : decode cX4_characterAt 13 = .ok (.bipush 60, 2) := by decide +kernel
theorem dX4_characterAt_15 : decode cX4_characterAt 15 = .ok (.if_icmp .ge 12, 3) := by decide +kernel
theorem dX4_characterAt_18 : decode cX4_characterAt 18 = .ok (.aload_n 0, 1) := by decide +kernel
theorem dX4_characterAt_19 : decode cX4_characterAt 19 = .ok (.getfield 9, 3) := by decide +kernel
theorem dX4_characterAt_22 : decode cX4_characterAt 22 = .ok (.iload_n 1, 1) := by decide +kernel
theorem dX4_characterAt_23 : decode cX4_characterAt 23 = .ok (.iaload, 1) := by decide +kernel
theorem dX4_characterAt_24 : decode cX4_characterAt 24 = .ok (.goto 4, 3) := by decide +kernel
theorem dX4_characterAt_27 : decode cX4_characterAt 27 = .ok (.iconst (-1), 1) := by decide +kernel
theorem dX4_characterAt_28 : decode cX4_characterAt 28 = .ok (.ireturn, 1) := by decide +kernel
abbrev rmX4_characterAt : Room := { frames := 0, cells := 0, slots := 0, locals := 0 }
set_option maxRecDepth 20000 in
theorem in_X4_characterAt_X4 : ∀ w ∈ wsX40, w ∈ wsX4_characterAt := by decide +kernel

set_option maxRecDepth 100000 in
set_option maxHeartbeats 4000000 in
theorem c_X4_characterAt {l : Launch} {g : Geo} {M : Nat → Nat → Int32} {P : Nat → Nat} {tx : Nat → Nat} {ln : Nat} (hT : TxM M tx ln) {i : Nat} (hi : i < 2 ^ 31) : Met l yX4_characterAt wsX4_characterAt rmX4_characterAt (cPre g [.ref (g.1 147), .int (nI i)] M P) (cQi g (fun r M' P' => (P = P' ∧ M = M') ∧ r = chC tx ln i)) 0 0 (gA g) := by
  refine met_i (cc := cX4_characterAt) (maxL := 2) (by decide) rfl ⟨rfl, rfl⟩ (Nat.le_of_ble_eq_true rfl) (fun x hx h hret => ?_)
  replace h : Cxk x g cX4_characterAt 2 wsX4_characterAt RX4 rmX4_characterAt := h
  show X x 0 [(0, .ref (g.1 147)), (1, .int (nI i))] [] M P
  refine x_iload_n h 1 dX4_characterAt_0 rfl rfl ?_
  refine x_if_lt_n h 27 dX4_characterAt_1 (by decide) (by first | omega | (have := hT.2.1; omega)) ?_
  refine x_iload_n h 1 dX4_characterAt_4 rfl rfl ?_
  refine x_aload_n h 0 dX4_characterAt_5 rfl rfl ?_
  refine xg_X4_1 h in_X4_characterAt_X4 (by decide +kernel) dX4_characterAt_6 ?_
  refine x_top (nI ln) (hT.1) ?_
  refine x_icmp_ge_n h 27 dX4_characterAt_9 (by decide) (by first | omega | (have := hT.2.1; omega)) (by first | omega | (have := hT.2.1; omega)) (fun c_9 => ?_) (fun c_9 => ?_)
  · -- 9 true
    refine x_iconst h ((-1)) dX4_characterAt_27 (by decide) ?_
    exact hret _ _ _ _ _ dX4_characterAt_28 (by refine ⟨⟨rfl, rfl⟩, ?_⟩; unfold chC; rw [if_neg (by omega)])
  · -- 9 false
    refine x_iload_n h 1 dX4_characterAt_12 rfl rfl ?_
    refine x_bipush h (nI 60) dX4_characterAt_13 (by decide) ?_
    refine x_icmp_ge_n h 27 dX4_characterAt_15 (by decide) (by first | omega | (have := hT.2.1; omega)) (by decide) (fun c_15 => by have := hT.2.1; omega) (fun c_15 => ?_)
    refine x_aload_n h 0 dX4_characterAt_18 rfl rfl ?_
    refine xg_X4_0 h in_X4_characterAt_X4 (by decide +kernel) dX4_characterAt_19 ?_
    refine x_iload_n h 1 dX4_characterAt_22 rfl rfl ?_
    refine xl_148 h dX4_characterAt_23 (by have := hT.2.1; omega) ?_
    refine x_top (nI (tx i)) ((hT.2.2 i (by omega)).1) ?_
    refine x_goto h 28 dX4_characterAt_24 (by decide) ?_
    exact hret _ _ _ _ _ dX4_characterAt_28 (by refine ⟨⟨rfl, rfl⟩, ?_⟩; unfold chC; rw [if_pos (by omega)])

theorem dX4_isDigit_0 : decode cX4_isDigit 0 = .ok (.iload_n 0, 1) := by decide +kernel
theorem dX4_isDigit_1 : decode cX4_isDigit 1 = .ok (.bipush 48, 2) := by decide +kernel
theorem dX4_isDigit_3 : decode cX4_isDigit 3 = .ok (.if_icmp .lt 13, 3) := by decide +kernel
theorem dX4_isDigit_6 : decode cX4_isDigit 6 = .ok (.iload_n 0, 1) := by decide +kernel
theorem dX4_isDigit_7 : decode cX4_isDigit 7 = .ok (.bipush 57, 2) := by decide +kernel
theorem dX4_isDigit_9 : decode cX4_isDigit 9 = .ok (.if_icmp .gt 7, 3) := by decide +kernel
theorem dX4_isDigit_12 : decode cX4_isDigit 12 = .ok (.iconst 1, 1) := by decide +kernel
theorem dX4_isDigit_13 : decode cX4_isDigit 13 = .ok (.goto 4, 3) := by decide +kernel
theorem dX4_isDigit_16 : decode cX4_isDigit 16 = .ok (.iconst 0, 1) := by decide +kernel
theorem dX4_isDigit_17 : decode cX4_isDigit 17 = .ok (.ireturn, 1) := by decide +kernel
abbrev rmX4_isDigit : Room := { frames := 0, cells := 0, slots := 0, locals := 0 }

set_option maxRecDepth 100000 in
set_option maxHeartbeats 4000000 in
theorem c_X4_isDigit {l : Launch} {g : Geo} {M : Nat → Nat → Int32} {P : Nat → Nat} {a : Int32} : Met l yX4_isDigit wsX4_isDigit rmX4_isDigit (cPre g [.int a] M P) (cQi g (fun r M' P' => (P = P' ∧ M = M') ∧ (((nI 48 ≤ a ∧ a ≤ nI 57) ∧ r = nI 1) ∨ (¬ (nI 48 ≤ a ∧ a ≤ nI 57) ∧ r = nI 0)))) 0 0 (gA g) := by
  refine met_z (cc := cX4_isDigit) (maxL := 1) (by decide) rfl ⟨rfl, rfl⟩ (Nat.le_of_ble_eq_true rfl) (fun x hx h hret => ?_)
  replace h : Cxk x g cX4_isDigit 1 wsX4_isDigit RX4 rmX4_isDigit := h
  show X x 0 [(0, .int a)] [] M P
  refine x_iload_n h 0 dX4_isDigit_0 rfl rfl ?_
  refine x_bipush h (nI 48) dX4_isDigit_1 (by decide) ?_
  refine x_icmp_lt h 16 dX4_isDigit_3 (by decide) (fun c_3 => ?_) (fun c_3 => ?_)
  · -- 3 true
    refine x_iconst h (nI 0) dX4_isDigit_16 (by decide) ?_
    exact hret _ _ _ _ _ dX4_isDigit_17 (by decide) (by exact ⟨⟨rfl, rfl⟩, Or.inr ⟨fun q => (by first | exact absurd q.1 (Int32.not_le.mpr c_3) | exact absurd q.2 (Int32.not_le.mpr c_9)), rfl⟩⟩)
  · -- 3 false
    refine x_iload_n h 0 dX4_isDigit_6 rfl rfl ?_
    refine x_bipush h (nI 57) dX4_isDigit_7 (by decide) ?_
    refine x_icmp_gt h 16 dX4_isDigit_9 (by decide) (fun c_9 => ?_) (fun c_9 => ?_)
    · -- 9 true
      refine x_iconst h (nI 0) dX4_isDigit_16 (by decide) ?_
      exact hret _ _ _ _ _ dX4_isDigit_17 (by decide) (by exact ⟨⟨rfl, rfl⟩, Or.inr ⟨fun q => (by first | exact absurd q.1 (Int32.not_le.mpr c_3) | exact absurd q.2 (Int32.not_le.mpr c_9)), rfl⟩⟩)
    · -- 9 false
      refine x_iconst h (nI 1) dX4_isDigit_12 (by decide) ?_
      refine x_goto h 17 dX4_isDigit_13 (by decide) ?_
      exact hret _ _ _ _ _ dX4_isDigit_17 (by decide) (by exact ⟨⟨rfl, rfl⟩, Or.inl ⟨⟨Int32.not_lt.mp c_3, Int32.not_lt.mp c_9⟩, rfl⟩⟩)

theorem dX4_isLetterWithNumber_0 : decode cX4_isLetterWithNumber 0 = .ok (.iload_n 0, 1) := by decide +kernel
theorem dX4_isLetterWithNumber_1 : decode cX4_isLetterWithNumber 1 = .ok (.bipush 108, 2) := by decide +kernel
theorem dX4_isLetterWithNumber_3 : decode cX4_isLetterWithNumber 3 = .ok (.if_icmp .eq 27, 3) := by decide +kernel
theorem dX4_isLetterWithNumber_6 : decode cX4_isLetterWithNumber 6 = .ok (.iload_n 0, 1) := by decide +kernel
theorem dX4_isLetterWithNumber_7 : decode cX4_isLetterWithNumber 7 = .ok (.bipush 100, 2) := by decide +kernel
theorem dX4_isLetterWithNumber_9 : decode cX4_isLetterWithNumber 9 = .ok (.if_icmp .eq 21, 3) := by decide +kernel
theorem dX4_isLetterWithNumber_12 : decode cX4_isLetterWithNumber 12 = .ok (.iload_n 0, 1) := by decide +kernel
theorem dX4_isLetterWithNumber_13 : decode cX4_isLetterWithNumber 13 = .ok (.bipush 114, 2) := by decide +kernel
theorem dX4_isLetterWithNumber_15 : decode cX4_isLetterWithNumber 15 = .ok (.if_icmp .eq 15, 3) := by decide +kernel
theorem dX4_isLetterWithNumber_18 : decode cX4_isLetterWithNumber 18 = .ok (.iload_n 0, 1) := by decide +kernel
theorem dX4_isLetterWithNumber_19 : decode cX4_isLetterWithNumber 19 = .ok (.bipush 97, 2) := by decide +kernel
theorem dX4_isLetterWithNumber_21 : decode cX4_isLetterWithNumber 21 = .ok (.if_icmp .eq 9, 3) := by decide +kernel
theorem dX4_isLetterWithNumber_24 : decode cX4_isLetterWithNumber 24 = .ok (.iload_n 0, 1) := by decide +kernel
theorem dX4_isLetterWithNumber_25 : decode cX4_isLetterWithNumber 25 = .ok (.bipush 119, 2) := by decide +kernel
theorem dX4_isLetterWithNumber_27 : decode cX4_isLetterWithNumber 27 = .ok (.if_icmp .ne 7, 3) := by decide +kernel
theorem dX4_isLetterWithNumber_30 : decode cX4_isLetterWithNumber 30 = .ok (.iconst 1, 1) := by decide +kernel
theorem dX4_isLetterWithNumber_31 : decode cX4_isLetterWithNumber 31 = .ok (.goto 4, 3) := by decide +kernel
theorem dX4_isLetterWithNumber_34 : decode cX4_isLetterWithNumber 34 = .ok (.iconst 0, 1) := by decide +kernel
theorem dX4_isLetterWithNumber_35 : decode cX4_isLetterWithNumber 35 = .ok (.ireturn, 1) := by decide +kernel
abbrev rmX4_isLetterWithNumber : Room := { frames := 0, cells := 0, slots := 0, locals := 0 }

set_option maxRecDepth 100000 in
set_option maxHeartbeats 4000000 in
theorem c_X4_isLetterWithNumber {l : Launch} {g : Geo} {M : Nat → Nat → Int32} {P : Nat → Nat} {a : Int32} : Met l yX4_isLetterWithNumber wsX4_isLetterWithNumber rmX4_isLetterWithNumber (cPre g [.int a] M P) (cQi g (fun r M' P' => (P = P' ∧ M = M') ∧ (((a = nI 108 ∨ a = nI 100 ∨ a = nI 114 ∨ a = nI 97 ∨ a = nI 119) ∧ r = nI 1) ∨ (¬ (a = nI 108 ∨ a = nI 100 ∨ a = nI 114 ∨ a = nI 97 ∨ a = nI 119) ∧ r = nI 0)))) 0 0 (gA g) := by
  refine met_z (cc := cX4_isLetterWithNumber) (maxL := 1) (by decide) rfl ⟨rfl, rfl⟩ (Nat.le_of_ble_eq_true rfl) (fun x hx h hret => ?_)
  replace h : Cxk x g cX4_isLetterWithNumber 1 wsX4_isLetterWithNumber RX4 rmX4_isLetterWithNumber := h
  show X x 0 [(0, .int a)] [] M P
  refine x_iload_n h 0 dX4_isLetterWithNumber_0 rfl rfl ?_
  refine x_bipush h (nI 108) dX4_isLetterWithNumber_1 (by decide) ?_
  refine x_icmp_eq h 30 dX4_isLetterWithNumber_3 (by decide) (fun c_3 => ?_) (fun c_3 => ?_)
  · -- 3 true
    refine x_iconst h (nI 1) dX4_isLetterWithNumber_30 (by decide) ?_
    refine x_goto h 35 dX4_isLetterWithNumber_31 (by decide) ?_
    exact hret _ _ _ _ _ dX4_isLetterWithNumber_35 (by decide) (by exact ⟨⟨rfl, rfl⟩, Or.inl ⟨by first | exact Or.inl c_3 | exact Or.inr (Or.inl c_9) | exact Or.inr (Or.inr (Or.inl c_15)) | exact Or.inr (Or.inr (Or.inr (Or.inl c_21))) | exact Or.inr (Or.inr (Or.inr (Or.inr c_27))), rfl⟩⟩)
  · -- 3 false
    refine x_iload_n h 0 dX4_isLetterWithNumber_6 rfl rfl ?_
    refine x_bipush h (nI 100) dX4_isLetterWithNumber_7 (by decide) ?_
    refine x_icmp_eq h 30 dX4_isLetterWithNumber_9 (by decide) (fun c_9 => ?_) (fun c_9 => ?_)
    · -- 9 true
      refine x_iconst h (nI 1) dX4_isLetterWithNumber_30 (by decide) ?_
      refine x_goto h 35 dX4_isLetterWithNumber_31 (by decide) ?_
      exact hret _ _ _ _ _ dX4_isLetterWithNumber_35 (by decide) (by exact ⟨⟨rfl, rfl⟩, Or.inl ⟨by first | exact Or.inl c_3 | exact Or.inr (Or.inl c_9) | exact Or.inr (Or.inr (Or.inl c_15)) | exact Or.inr (Or.inr (Or.inr (Or.inl c_21))) | exact Or.inr (Or.inr (Or.inr (Or.inr c_27))), rfl⟩⟩)
    · -- 9 false
      refine x_iload_n h 0 dX4_isLetterWithNumber_12 rfl rfl ?_
      refine x_bipush h (nI 114) dX4_isLetterWithNumber_13 (by decide) ?_
      refine x_icmp_eq h 30 dX4_isLetterWithNumber_15 (by decide) (fun c_15 => ?_) (fun c_15 => ?_)
      · -- 15 true
        refine x_iconst h (nI 1) dX4_isLetterWithNumber_30 (by decide) ?_
        refine x_goto h 35 dX4_isLetterWithNumber_31 (by decide) ?_
        exact hret _ _ _ _ _ dX4_isLetterWithNumber_35 (by decide) (by exact ⟨⟨rfl, rfl⟩, Or.inl ⟨by first | exact Or.inl c_3 | exact Or.inr (Or.inl c_9) | exact Or.inr (Or.inr (Or.inl c_15)) | exact Or.inr (Or.inr (Or.inr (Or.inl c_21))) | exact Or.inr (Or.inr (Or.inr (Or.inr c_27))), rfl⟩⟩)
      · -- 15 false
        refine x_iload_n h 0 dX4_isLetterWithNumber_18 rfl rfl ?_
        refine x_bipush h (nI 97) dX4_isLetterWithNumber_19 (by decide) ?_
        refine x_icmp_eq h 30 dX4_isLetterWithNumber_21 (by decide) (fun c_21 => ?_) (fun c_21 => ?_)
        · -- 21 true
          refine x_iconst h (nI 1) dX4_isLetterWithNumber_30 (by decide) ?_
          refine x_goto h 35 dX4_isLetterWithNumber_31 (by decide) ?_
          exact hret _ _ _ _ _ dX4_isLetterWithNumber_35 (by decide) (by exact ⟨⟨rfl, rfl⟩, Or.inl ⟨by first | exact Or.inl c_3 | exact Or.inr (Or.inl c_9) | exact Or.inr (Or.inr (Or.inl c_15)) | exact Or.inr (Or.inr (Or.inr (Or.inl c_21))) | exact Or.inr (Or.inr (Or.inr (Or.inr c_27))), rfl⟩⟩)
        · -- 21 false
          refine x_iload_n h 0 dX4_isLetterWithNumber_24 rfl rfl ?_
          refine x_bipush h (nI 119) dX4_isLetterWithNumber_25 (by decide) ?_
          refine x_icmp_ne h 34 dX4_isLetterWithNumber_27 (by decide) (fun c_27 => ?_) (fun c_27 => ?_)
          · -- 27 true
            refine x_iconst h (nI 0) dX4_isLetterWithNumber_34 (by decide) ?_
            exact hret _ _ _ _ _ dX4_isLetterWithNumber_35 (by decide) (by exact ⟨⟨rfl, rfl⟩, Or.inr ⟨by rintro (q | q | q | q | q); exact c_3 q; exact c_9 q; exact c_15 q; exact c_21 q; exact c_27 q, rfl⟩⟩)
          · -- 27 false
            refine x_iconst h (nI 1) dX4_isLetterWithNumber_30 (by decide) ?_
            refine x_goto h 35 dX4_isLetterWithNumber_31 (by decide) ?_
            exact hret _ _ _ _ _ dX4_isLetterWithNumber_35 (by decide) (by exact ⟨⟨rfl, rfl⟩, Or.inl ⟨by first | exact Or.inl c_3 | exact Or.inr (Or.inl c_9) | exact Or.inr (Or.inr (Or.inl c_15)) | exact Or.inr (Or.inr (Or.inr (Or.inl c_21))) | exact Or.inr (Or.inr (Or.inr (Or.inr c_27))), rfl⟩⟩)

set_option maxRecDepth 20000 in
theorem ggX4_numberIn_X4_characterAt : GoodIn wsX4_numberIn wsX4_characterAt := goodIn_r _ [5, 6, 7, 8, 9, 10, 11, 12] (by decide +kernel) (by decide +kernel)
set_option maxRecDepth 20000 in
theorem gX4_numberIn_X4_characterAt : GoodIn wsX4_numberIn (wsV RX4 34 RX4 yX4_characterAt wsX4_characterAt) := goodIn_app (goodIn_of _ (by decide +kernel)) ggX4_numberIn_X4_characterAt
theorem dX4_numberIn_0 : decode cX4_numberIn 0 = .ok (.iconst 0, 1) := by decide +kernel
theorem dX4_numberIn_1 : decode cX4_numberIn 1 = .ok (.istore_n 3, 1) := by decide +kernel
theorem dX4_numberIn_2 : decode cX4_numberIn 2 = .ok (.iload_n 1, 1) := by decide +kernel
theorem dX4_numberIn_3 : decode cX4_numberIn 3 = .ok (.istore 4, 2) := by decide +kernel
theorem dX4_numberIn_5 : decode cX4_numberIn 5 = .ok (.iload 4, 2) := by decide +kernel
theorem dX4_numberIn_7 : decode cX4_numberIn 7 = .ok (.iload_n 2, 1) := by decide +kernel
theorem dX4_numberIn_8 : decode cX4_numberIn 8 = .ok (.if_icmp .ge 24, 3) := by decide +kernel
theorem dX4_numberIn_11 : decode cX4_numberIn 11 = .ok (.bipush 10, 2) := by decide +kernel
theorem dX4_numberIn_13 : decode cX4_numberIn 13 = .ok (.iload_n 3, 1) := by decide +kernel
theorem dX4_numberIn_14 : decode cX4_numberIn 14 = .ok (.imul, 1) := by decide +kernel
theorem dX4_numberIn_15 : decode cX4_numberIn 15 = .ok (.aload_n 0, 1) := by decide +kernel
theorem dX4_numberIn_16 : decode cX4_numberIn 16 = .ok (.iload 4, 2) := by decide +kernel
theorem dX4_numberIn_18 : decode cX4_numberIn 18 = .ok (.invokevirtual 34, 3) := by decide +kernel
theorem dX4_numberIn_21 : decode cX4_numberIn 21 = .ok (.iadd, 1) := by decide +kernel
theorem dX4_numberIn_22 : decode cX4_numberIn 22 = .ok (.bipush 48, 2) := by decide +kernel
theorem dX4_numberIn_24 : decode cX4_numberIn 24 = .ok (.isub, 1) := by decide +kernel
theorem dX4_numberIn_25 : decode cX4_numberIn 25 = .ok (.istore_n 3, 1) := by decide +kernel
theorem dX4_numberIn_26 : decode cX4_numberIn 26 = .ok (.iinc 4 1, 3) := by decide +kernel
theorem dX4_numberIn_29 : decode cX4_numberIn 29 = .ok (.goto (-24), 3) := by decide +kernel
theorem dX4_numberIn_32 : decode cX4_numberIn 32 = .ok (.iload_n 3, 1) := by decide +kernel
theorem dX4_numberIn_33 : decode cX4_numberIn 33 = .ok (.ireturn, 1) := by decide +kernel
abbrev rmX4_numberIn : Room := { frames := 1, cells := 0, slots := 0, locals := 21 }

set_option maxRecDepth 100000 in
set_option maxHeartbeats 4000000 in
theorem c_X4_numberIn {l : Launch} {g : Geo} {M : Nat → Nat → Int32} {P : Nat → Nat} {tx : Nat → Nat} {ln : Nat} (hT : TxM M tx ln) {b m : Nat} (hb : b + m ≤ ln) (hd : ∀ j, j < m → 48 ≤ tx (b + j)) : Met l yX4_numberIn wsX4_numberIn rmX4_numberIn (cPre g [.ref (g.1 147), .int (nI b), .int (nI (b + m))] M P) (cQi g (fun r M' P' => (P = P' ∧ M = M') ∧ r = nI (numL tx b m))) 0 0 (gA g) := by
  refine met_i (cc := cX4_numberIn) (maxL := 5) (by decide) rfl ⟨rfl, rfl⟩ (Nat.le_of_ble_eq_true rfl) (fun x hx h hret => ?_)
  replace h : Cxk x g cX4_numberIn 5 wsX4_numberIn RX4 rmX4_numberIn := h
  show X x 0 [(0, .ref (g.1 147)), (1, .int (nI b)), (2, .int (nI (b + m)))] [] M P
  refine x_iconst h (nI 0) dX4_numberIn_0 (by decide) ?_
  refine x_istore_n h [(3, .int (nI 0)), (0, .ref (g.1 147)), (1, .int (nI b)), (2, .int (nI (b + m)))] dX4_numberIn_1 rfl (by decide) rfl ?_
  refine x_iload_n h 2 dX4_numberIn_2 rfl rfl ?_
  refine x_istore h [(4, .int (nI b)), (3, .int (nI 0)), (0, .ref (g.1 147)), (1, .int (nI b)), (2, .int (nI (b + m)))] dX4_numberIn_3 (by decide) rfl ?_
  have L5 : ∀ (fu : Nat) (j : Nat) (z : Nat), (m - j) < fu → (j ≤ m) → (z = numL tx b j) → X x 5 [(0, .ref (g.1 147)), (2, .int (nI (b + m))), (3, .int (nI z)), (4, .int (nI (b + j)))] [] M P := by
    intro fu
    induction fu with
    | zero => intro j z hmu5; exact absurd hmu5 (Nat.not_lt_zero _)
    | succ fu ih5 =>
      intro j z hmu5 hj hz
      refine x_iload h 3 dX4_numberIn_5 rfl ?_
      refine x_iload_n h 1 dX4_numberIn_7 rfl rfl ?_
      refine x_icmp_ge_n h 32 dX4_numberIn_8 (by decide) (by first | omega | (have := hT.2.1; omega)) (by first | omega | (have := hT.2.1; omega)) (fun c_8 => ?_) (fun c_8 => ?_)
      · -- 8 true
        refine x_iload_n h 2 dX4_numberIn_32 rfl rfl ?_
        exact hret _ _ _ _ _ dX4_numberIn_33 (by obtain rfl : j = m := (by omega); subst hz; exact ⟨⟨rfl, rfl⟩, rfl⟩)
      · -- 8 false
        refine x_bipush h (nI 10) dX4_numberIn_11 (by decide) ?_
        refine x_iload_n h 2 dX4_numberIn_13 rfl rfl ?_
        refine x_imul_n h dX4_numberIn_14 ?_
        refine x_aload_n h 0 dX4_numberIn_15 rfl rfl ?_
        refine x_iload h 3 dX4_numberIn_16 rfl ?_
        refine x_callV h (As := [.int (nI (b + j))]) 1 hx (c_X4_characterAt hT (by have := hT.2.1; omega)) gX4_numberIn_X4_characterAt rfl ⟨rfl, rfl⟩ (by decide +kernel) rfl (by decide) (by decide) E_147 rfl rfl (Nat.le_of_ble_eq_true rfl) dX4_numberIn_18 (fun rv M' P' hp => ?_)
        obtain ⟨⟨rfl, rfl⟩, rfl⟩ := hp
        refine x_top (nI (tx (b + j))) (if_pos (by omega)) ?_
        refine x_iadd_n h dX4_numberIn_21 ?_
        refine x_bipush h (nI 48) dX4_numberIn_22 (by decide) ?_
        refine x_isub_n h dX4_numberIn_24 (by have := hd j (by omega); omega) ?_
        refine x_istore_n h [(3, .int (nI (((10 * z) + (tx (b + j))) - 48))), (0, .ref (g.1 147)), (2, .int (nI (b + m))), (4, .int (nI (b + j)))] dX4_numberIn_25 rfl (by decide) rfl ?_
        refine x_iinc_n h 3 (n := 1) [(4, .int (nI ((b + j) + 1))), (3, .int (nI (((10 * z) + (tx (b + j))) - 48))), (0, .ref (g.1 147)), (2, .int (nI (b + m)))] dX4_numberIn_26 rfl (by decide) rfl ?_
        refine x_goto h 5 dX4_numberIn_29 (by decide) ?_
        exact x_lv (ih5 (j + 1) (((10 * z) + (tx (b + j))) - 48) (by omega) (by omega) (by rw [hz]; rfl)) [2, 3, 1, 0] rfl
  exact x_lv (L5 _ 0 0 (Nat.lt_succ_self _) (by omega) (by rfl)) [2, 4, 1, 0] rfl

set_option maxRecDepth 20000 in
theorem ggX4_endOfOrder_X4_characterAt : GoodIn wsX4_endOfOrder wsX4_characterAt := goodIn_r _ [5, 6, 7, 14, 15, 16, 17, 18] (by decide +kernel) (by decide +kernel)
set_option maxRecDepth 20000 in
theorem gX4_endOfOrder_X4_characterAt : GoodIn wsX4_endOfOrder (wsV RX4 34 RX4 yX4_characterAt wsX4_characterAt) := goodIn_app (goodIn_of _ (by decide +kernel)) ggX4_endOfOrder_X4_characterAt
set_option maxRecDepth 20000 in
theorem ggX4_endOfOrder_X4_isLetterWithNumber : GoodIn wsX4_endOfOrder wsX4_isLetterWithNumber := goodIn_r _ [10] (by decide +kernel) (by decide +kernel)
set_option maxRecDepth 20000 in
theorem gX4_endOfOrder_X4_isLetterWithNumber : GoodIn wsX4_endOfOrder (va_wsS RX4 45 yX4_isLetterWithNumber wsX4_isLetterWithNumber) := goodIn_app (goodIn_of _ (by decide +kernel)) ggX4_endOfOrder_X4_isLetterWithNumber
set_option maxRecDepth 20000 in
theorem ggX4_endOfOrder_X4_isDigit : GoodIn wsX4_endOfOrder wsX4_isDigit := goodIn_r _ [13] (by decide +kernel) (by decide +kernel)
set_option maxRecDepth 20000 in
theorem gX4_endOfOrder_X4_isDigit : GoodIn wsX4_endOfOrder (va_wsS RX4 49 yX4_isDigit wsX4_isDigit) := goodIn_app (goodIn_of _ (by decide +kernel)) ggX4_endOfOrder_X4_isDigit
theorem dX4_endOfOrder_0 : decode cX4_endOfOrder 0 = .ok (.aload_n 0, 1) := by decide +kernel
theorem dX4_endOfOrder_1 : decode cX4_endOfOrder 1 = .ok (.iload_n 1, 1) := by decide +kernel
theorem dX4_endOfOrder_2 : decode cX4_endOfOrder 2 = .ok (.invokevirtual 34, 3) := by decide +kernel
theorem dX4_endOfOrder_5 : decode cX4_endOfOrder 5 = .ok (.istore_n 2, 1) := by decide +kernel
theorem dX4_endOfOrder_6 : decode cX4_endOfOrder 6 = .ok (.iload_n 1, 1) := by decide +kernel
theorem dX4_endOfOrder_7 : decode cX4_endOfOrder 7 = .ok (.iconst 1, 1) := by decide +kernel
theorem dX4_endOfOrder_8 : decode cX4_endOfOrder 8 = .ok (.iadd, 1) := by decide +kernel
theorem dX4_endOfOrder_9 : decode cX4_endOfOrder 9 = .ok (.istore_n 3, 1) := by decide +kernel
theorem dX4_endOfOrder_10 : decode cX4_endOfOrder 10 = .ok (.iload_n 2, 1) := by decide +kernel
theorem dX4_endOfOrder_11 : decode cX4_endOfOrder 11 = .ok (.bipush 104, 2) := by decide +kernel
theorem dX4_endOfOrder_13 : decode cX4_endOfOrder 13 = .ok (.if_icmp .eq 44, 3) := by decide +kernel
theorem dX4_endOfOrder_16 : decode cX4_endOfOrder 16 = .ok (.iload_n 2, 1) := by decide +kernel
theorem dX4_endOfOrder_17 : decode cX4_endOfOrder 17 = .ok (.invokestatic 45, 3) := by decide +kernel
theorem dX4_endOfOrder_20 : decode cX4_endOfOrder 20 = .ok (.ifCond .eq 14, 3) := by decide +kernel
theorem dX4_endOfOrder_23 : decode cX4_endOfOrder 23 = .ok (.aload_n 0, 1) := by decide +kernel
theorem dX4_endOfOrder_24 : decode cX4_endOfOrder 24 = .ok (.iload_n 3, 1) := by decide +kernel
theorem dX4_endOfOrder_25 : decode cX4_endOfOrder 25 = .ok (.invokevirtual 34, 3) := by decide +kernel
theorem dX4_endOfOrder_28 : decode cX4_endOfOrder 28 = .ok (.invokestatic 49, 3) := by decide +kernel
theorem dX4_endOfOrder_31 : decode cX4_endOfOrder 31 = .ok (.ifCond .ne 5, 3) := by decide +kernel
theorem dX4_endOfOrder_34 : decode cX4_endOfOrder 34 = .ok (.iconst (-1), 1) := by decide +kernel
theorem dX4_endOfOrder_35 : decode cX4_endOfOrder 35 = .ok (.ireturn, 1) := by decide +kernel
theorem dX4_endOfOrder_36 : decode cX4_endOfOrder 36 = .ok (.iload_n 3, 1) := by decide +kernel
theorem dX4_endOfOrder_37 : decode cX4_endOfOrder 37 = .ok (.aload_n 0, 1) := by decide +kernel
theorem dX4_endOfOrder_38 : decode cX4_endOfOrder 38 = .ok (.iload_n 3, 1) := by decide +kernel
theorem dX4_endOfOrder_39 : decode cX4_endOfOrder 39 = .ok (.iconst 1, 1) := by decide +kernel
theorem dX4_endOfOrder_40 : decode cX4_endOfOrder 40 = .ok (.iadd, 1) := by decide +kernel
theorem dX4_endOfOrder_41 : decode cX4_endOfOrder 41 = .ok (.invokevirtual 34, 3) := by decide +kernel
theorem dX4_endOfOrder_44 : decode cX4_endOfOrder 44 = .ok (.invokestatic 49, 3) := by decide +kernel
theorem dX4_endOfOrder_47 : decode cX4_endOfOrder 47 = .ok (.ifCond .eq 7, 3) := by decide +kernel
theorem dX4_endOfOrder_50 : decode cX4_endOfOrder 50 = .ok (.iconst 2, 1) := by decide +kernel
theorem dX4_endOfOrder_51 : decode cX4_endOfOrder 51 = .ok (.goto 4, 3) := by decide +kernel
theorem dX4_endOfOrder_54 : decode cX4_endOfOrder 54 = .ok (.iconst 1, 1) := by decide +kernel
theorem dX4_endOfOrder_55 : decode cX4_endOfOrder 55 = .ok (.iadd, 1) := by decide +kernel
theorem dX4_endOfOrder_56 : decode cX4_endOfOrder 56 = .ok (.istore_n 3, 1) := by decide +kernel
theorem dX4_endOfOrder_57 : decode cX4_endOfOrder 57 = .ok (.aload_n 0, 1) := by decide +kernel
theorem dX4_endOfOrder_58 : decode cX4_endOfOrder 58 = .ok (.iload_n 3, 1) := by decide +kernel
theorem dX4_endOfOrder_59 : decode cX4_endOfOrder 59 = .ok (.invokevirtual 34, 3) := by decide +kernel
theorem dX4_endOfOrder_62 : decode cX4_endOfOrder 62 = .ok (.bipush 59, 2) := by decide +kernel
theorem dX4_endOfOrder_64 : decode cX4_endOfOrder 64 = .ok (.if_icmp .ne 7, 3) := by decide +kernel
theorem dX4_endOfOrder_67 : decode cX4_endOfOrder 67 = .ok (.iload_n 3, 1) := by decide +kernel
theorem dX4_endOfOrder_68 : decode cX4_endOfOrder 68 = .ok (.goto 4, 3) := by decide +kernel
theorem dX4_endOfOrder_71 : decode cX4_endOfOrder 71 = .ok (.iconst (-1), 1) := by decide +kernel
theorem dX4_endOfOrder_72 : decode cX4_endOfOrder 72 = .ok (.ireturn, 1) := by decide +kernel
abbrev rmX4_endOfOrder : Room := { frames := 1, cells := 0, slots := 0, locals := 21 }

set_option maxRecDepth 100000 in
set_option maxHeartbeats 4000000 in
theorem c_X4_endOfOrder {l : Launch} {g : Geo} {M : Nat → Nat → Int32} {P : Nat → Nat} {tx : Nat → Nat} {ln : Nat} (hT : TxM M tx ln) {p : Nat} (hp : p < 2 ^ 30) : Met l yX4_endOfOrder wsX4_endOfOrder rmX4_endOfOrder (cPre g [.ref (g.1 147), .int (nI p)] M P) (cQi g (fun r M' P' => (P = P' ∧ M = M') ∧ r = ngh (endO tx ln p))) 0 0 (gA g) := by
  refine met_i (cc := cX4_endOfOrder) (maxL := 4) (by decide) rfl ⟨rfl, rfl⟩ (Nat.le_of_ble_eq_true rfl) (fun x hx h hret => ?_)
  replace h : Cxk x g cX4_endOfOrder 4 wsX4_endOfOrder RX4 rmX4_endOfOrder := h
  show X x 0 [(0, .ref (g.1 147)), (1, .int (nI p))] [] M P
  have hts : ∀ i, i < ln → 32 ≤ tx i ∧ tx i ≤ 126 := fun i hi => (hT.2.2 i hi).2
  refine x_aload_n h 0 dX4_endOfOrder_0 rfl rfl ?_
  refine x_iload_n h 1 dX4_endOfOrder_1 rfl rfl ?_
  refine x_callV h (As := [.int (nI p)]) 1 hx (c_X4_characterAt hT (by omega)) gX4_endOfOrder_X4_characterAt rfl ⟨rfl, rfl⟩ (by decide +kernel) rfl (by decide) (by decide) E_147 rfl rfl (Nat.le_of_ble_eq_true rfl) dX4_endOfOrder_2 (fun rv M' P' hp => ?_)
  obtain ⟨⟨rfl, rfl⟩, rfl⟩ := hp
  refine x_istore_n h [(2, .int (chC tx ln p)), (0, .ref (g.1 147)), (1, .int (nI p))] dX4_endOfOrder_5 rfl (by decide) rfl ?_
  refine x_iload_n h 2 dX4_endOfOrder_6 rfl rfl ?_
  refine x_iconst h (nI 1) dX4_endOfOrder_7 (by decide) ?_
  refine x_iadd_n h dX4_endOfOrder_8 ?_
  refine x_istore_n h [(3, .int (nI (p + 1))), (2, .int (chC tx ln p)), (0, .ref (g.1 147)), (1, .int (nI p))] dX4_endOfOrder_9 rfl (by decide) rfl ?_
  refine x_iload_n h 1 dX4_endOfOrder_10 rfl rfl ?_
  refine x_bipush h (nI 104) dX4_endOfOrder_11 (by decide) ?_
  refine x_icmp_eq h 57 dX4_endOfOrder_13 (by decide) (fun c_13 => ?_) (fun c_13 => ?_)
  · -- 13 true
    have e13 : isC tx ln p 104 := (chC_eq hts (by decide)).mp c_13
    refine x_aload_n h 2 dX4_endOfOrder_57 rfl rfl ?_
    refine x_iload_n h 0 dX4_endOfOrder_58 rfl rfl ?_
    refine x_callV h (As := [.int (nI (p + 1))]) 1 hx (c_X4_characterAt hT (by omega)) gX4_endOfOrder_X4_characterAt rfl ⟨rfl, rfl⟩ (by decide +kernel) rfl (by decide) (by decide) E_147 rfl rfl (Nat.le_of_ble_eq_true rfl) dX4_endOfOrder_59 (fun rv M' P' hp => ?_)
    obtain ⟨⟨rfl, rfl⟩, rfl⟩ := hp
    refine x_bipush h (nI 59) dX4_endOfOrder_62 (by decide) ?_
    refine x_icmp_ne h 71 dX4_endOfOrder_64 (by decide) (fun c_64 => ?_) (fun c_64 => ?_)
    · -- 64 true
      have e64 := fun q => c_64 ((chC_eq (k := 59) hts (by decide)).mpr q)
      refine x_iconst h ((-1)) dX4_endOfOrder_71 (by decide) ?_
      exact hret _ _ _ _ _ dX4_endOfOrder_72 (by refine ⟨⟨rfl, rfl⟩, ?_⟩; unfold endO; first | (rw [if_pos e13, if_pos e64]; rfl) | (rw [if_pos e13, if_neg e64]; rfl) | (rw [if_neg e13, if_neg (fun q => nq17 ((chC_let hts).mpr q.1))]; rfl) | (rw [if_neg e13, if_neg (fun q => nd28 ((chC_dig hts).mpr q.2))]; rfl) | (rw [if_neg e13, if_pos ⟨(chC_let hts).mp q17, (chC_dig hts).mp d28⟩, if_pos ((chC_dig hts).mp d44), if_pos e64]; rfl) | (rw [if_neg e13, if_pos ⟨(chC_let hts).mp q17, (chC_dig hts).mp d28⟩, if_pos ((chC_dig hts).mp d44), if_neg e64]; rfl) | (rw [if_neg e13, if_pos ⟨(chC_let hts).mp q17, (chC_dig hts).mp d28⟩, if_neg (fun q => nd44 ((chC_dig hts).mpr q)), if_pos e64]; rfl) | (rw [if_neg e13, if_pos ⟨(chC_let hts).mp q17, (chC_dig hts).mp d28⟩, if_neg (fun q => nd44 ((chC_dig hts).mpr q)), if_neg e64]; rfl))
    · -- 64 false
      have e64 := (chC_eq (k := 59) hts (by decide)).mp c_64
      refine x_iload_n h 0 dX4_endOfOrder_67 rfl rfl ?_
      refine x_goto h 72 dX4_endOfOrder_68 (by decide) ?_
      exact hret _ _ _ _ _ dX4_endOfOrder_72 (by refine ⟨⟨rfl, rfl⟩, ?_⟩; unfold endO; first | (rw [if_pos e13, if_pos e64]; rfl) | (rw [if_pos e13, if_neg e64]; rfl) | (rw [if_neg e13, if_neg (fun q => nq17 ((chC_let hts).mpr q.1))]; rfl) | (rw [if_neg e13, if_neg (fun q => nd28 ((chC_dig hts).mpr q.2))]; rfl) | (rw [if_neg e13, if_pos ⟨(chC_let hts).mp q17, (chC_dig hts).mp d28⟩, if_pos ((chC_dig hts).mp d44), if_pos e64]; rfl) | (rw [if_neg e13, if_pos ⟨(chC_let hts).mp q17, (chC_dig hts).mp d28⟩, if_pos ((chC_dig hts).mp d44), if_neg e64]; rfl) | (rw [if_neg e13, if_pos ⟨(chC_let hts).mp q17, (chC_dig hts).mp d28⟩, if_neg (fun q => nd44 ((chC_dig hts).mpr q)), if_pos e64]; rfl) | (rw [if_neg e13, if_pos ⟨(chC_let hts).mp q17, (chC_dig hts).mp d28⟩, if_neg (fun q => nd44 ((chC_dig hts).mpr q)), if_neg e64]; rfl))
  · -- 13 false
    have e13 : ¬ isC tx ln p 104 := fun q => c_13 ((chC_eq hts (by decide)).mpr q)
    refine x_iload_n h 1 dX4_endOfOrder_16 rfl rfl ?_
    refine x_callS h (As := [.int (chC tx ln p)]) 1 hx (c_X4_isLetterWithNumber) gX4_endOfOrder_X4_isLetterWithNumber rfl ⟨rfl, rfl⟩ (by decide +kernel) rfl (by decide) (Nat.le_of_ble_eq_true rfl) dX4_endOfOrder_17 (fun rv M' P' hp => ?_)
    obtain ⟨⟨rfl, rfl⟩, hp⟩ := hp
    rcases hp with ⟨q17, rfl⟩ | ⟨nq17, rfl⟩
    · -- call 17
      refine x_if_eq h 34 dX4_endOfOrder_20 (by decide) (fun c => absurd c (by decide)) (fun _ => ?_)
      refine x_aload_n h 2 dX4_endOfOrder_23 rfl rfl ?_
      refine x_iload_n h 0 dX4_endOfOrder_24 rfl rfl ?_
      refine x_callV h (As := [.int (nI (p + 1))]) 1 hx (c_X4_characterAt hT (by omega)) gX4_endOfOrder_X4_characterAt rfl ⟨rfl, rfl⟩ (by decide +kernel) rfl (by decide) (by decide) E_147 rfl rfl (Nat.le_of_ble_eq_true rfl) dX4_endOfOrder_25 (fun rv M' P' hp => ?_)
      obtain ⟨⟨rfl, rfl⟩, rfl⟩ := hp
      refine x_callS h (As := [.int (chC tx ln (p + 1))]) 1 hx (c_X4_isDigit) gX4_endOfOrder_X4_isDigit rfl ⟨rfl, rfl⟩ (by decide +kernel) rfl (by decide) (Nat.le_of_ble_eq_true rfl) dX4_endOfOrder_28 (fun rv M' P' hp => ?_)
      obtain ⟨⟨rfl, rfl⟩, hp⟩ := hp
      rcases hp with ⟨d28, rfl⟩ | ⟨nd28, rfl⟩
      · -- call 28
        refine x_if_ne h 36 dX4_endOfOrder_31 (by decide) (fun _ => ?_) (fun c => absurd c (by decide))
        refine x_iload_n h 0 dX4_endOfOrder_36 rfl rfl ?_
        refine x_aload_n h 2 dX4_endOfOrder_37 rfl rfl ?_
        refine x_iload_n h 0 dX4_endOfOrder_38 rfl rfl ?_
        refine x_iconst h (nI 1) dX4_endOfOrder_39 (by decide) ?_
        refine x_iadd_n h dX4_endOfOrder_40 ?_
        refine x_callV h (As := [.int (nI ((p + 1) + 1))]) 1 hx (c_X4_characterAt hT (by omega)) gX4_endOfOrder_X4_characterAt rfl ⟨rfl, rfl⟩ (by decide +kernel) rfl (by decide) (by decide) E_147 rfl rfl (Nat.le_of_ble_eq_true rfl) dX4_endOfOrder_41 (fun rv M' P' hp => ?_)
        obtain ⟨⟨rfl, rfl⟩, rfl⟩ := hp
        refine x_callS h (As := [.int (chC tx ln ((p + 1) + 1))]) 1 hx (c_X4_isDigit) gX4_endOfOrder_X4_isDigit rfl ⟨rfl, rfl⟩ (by decide +kernel) rfl (by decide) (Nat.le_of_ble_eq_true rfl) dX4_endOfOrder_44 (fun rv M' P' hp => ?_)
        obtain ⟨⟨rfl, rfl⟩, hp⟩ := hp
        rcases hp with ⟨d44, rfl⟩ | ⟨nd44, rfl⟩
        · -- call 44
          refine x_if_eq h 54 dX4_endOfOrder_47 (by decide) (fun c => absurd c (by decide)) (fun _ => ?_)
          refine x_iconst h (nI 2) dX4_endOfOrder_50 (by decide) ?_
          refine x_goto h 55 dX4_endOfOrder_51 (by decide) ?_
          refine x_iadd_n h dX4_endOfOrder_55 ?_
          refine x_istore_n h [(3, .int (nI ((p + 1) + 2))), (2, .int (chC tx ln p)), (0, .ref (g.1 147)), (1, .int (nI p))] dX4_endOfOrder_56 rfl (by decide) rfl ?_
          refine x_aload_n h 2 dX4_endOfOrder_57 rfl rfl ?_
          refine x_iload_n h 0 dX4_endOfOrder_58 rfl rfl ?_
          refine x_callV h (As := [.int (nI ((p + 1) + 2))]) 1 hx (c_X4_characterAt hT (by omega)) gX4_endOfOrder_X4_characterAt rfl ⟨rfl, rfl⟩ (by decide +kernel) rfl (by decide) (by decide) E_147 rfl rfl (Nat.le_of_ble_eq_true rfl) dX4_endOfOrder_59 (fun rv M' P' hp => ?_)
          obtain ⟨⟨rfl, rfl⟩, rfl⟩ := hp
          refine x_bipush h (nI 59) dX4_endOfOrder_62 (by decide) ?_
          refine x_icmp_ne h 71 dX4_endOfOrder_64 (by decide) (fun c_64 => ?_) (fun c_64 => ?_)
          · -- 64 true
            have e64 := fun q => c_64 ((chC_eq (k := 59) hts (by decide)).mpr q)
            refine x_iconst h ((-1)) dX4_endOfOrder_71 (by decide) ?_
            exact hret _ _ _ _ _ dX4_endOfOrder_72 (by refine ⟨⟨rfl, rfl⟩, ?_⟩; unfold endO; first | (rw [if_pos e13, if_pos e64]; rfl) | (rw [if_pos e13, if_neg e64]; rfl) | (rw [if_neg e13, if_neg (fun q => nq17 ((chC_let hts).mpr q.1))]; rfl) | (rw [if_neg e13, if_neg (fun q => nd28 ((chC_dig hts).mpr q.2))]; rfl) | (rw [if_neg e13, if_pos ⟨(chC_let hts).mp q17, (chC_dig hts).mp d28⟩, if_pos ((chC_dig hts).mp d44), if_pos e64]; rfl) | (rw [if_neg e13, if_pos ⟨(chC_let hts).mp q17, (chC_dig hts).mp d28⟩, if_pos ((chC_dig hts).mp d44), if_neg e64]; rfl) | (rw [if_neg e13, if_pos ⟨(chC_let hts).mp q17, (chC_dig hts).mp d28⟩, if_neg (fun q => nd44 ((chC_dig hts).mpr q)), if_pos e64]; rfl) | (rw [if_neg e13, if_pos ⟨(chC_let hts).mp q17, (chC_dig hts).mp d28⟩, if_neg (fun q => nd44 ((chC_dig hts).mpr q)), if_neg e64]; rfl))
          · -- 64 false
            have e64 := (chC_eq (k := 59) hts (by decide)).mp c_64
            refine x_iload_n h 0 dX4_endOfOrder_67 rfl rfl ?_
            refine x_goto h 72 dX4_endOfOrder_68 (by decide) ?_
            exact hret _ _ _ _ _ dX4_endOfOrder_72 (by refine ⟨⟨rfl, rfl⟩, ?_⟩; unfold endO; first | (rw [if_pos e13, if_pos e64]; rfl) | (rw [if_pos e13, if_neg e64]; rfl) | (rw [if_neg e13, if_neg (fun q => nq17 ((chC_let hts).mpr q.1))]; rfl) | (rw [if_neg e13, if_neg (fun q => nd28 ((chC_dig hts).mpr q.2))]; rfl) | (rw [if_neg e13, if_pos ⟨(chC_let hts).mp q17, (chC_dig hts).mp d28⟩, if_pos ((chC_dig hts).mp d44), if_pos e64]; rfl) | (rw [if_neg e13, if_pos ⟨(chC_let hts).mp q17, (chC_dig hts).mp d28⟩, if_pos ((chC_dig hts).mp d44), if_neg e64]; rfl) | (rw [if_neg e13, if_pos ⟨(chC_let hts).mp q17, (chC_dig hts).mp d28⟩, if_neg (fun q => nd44 ((chC_dig hts).mpr q)), if_pos e64]; rfl) | (rw [if_neg e13, if_pos ⟨(chC_let hts).mp q17, (chC_dig hts).mp d28⟩, if_neg (fun q => nd44 ((chC_dig hts).mpr q)), if_neg e64]; rfl))
        · -- call 44
          refine x_if_eq h 54 dX4_endOfOrder_47 (by decide) (fun _ => ?_) (fun c => absurd (by decide) c)
          refine x_iconst h (nI 1) dX4_endOfOrder_54 (by decide) ?_
          refine x_iadd_n h dX4_endOfOrder_55 ?_
          refine x_istore_n h [(3, .int (nI ((p + 1) + 1))), (2, .int (chC tx ln p)), (0, .ref (g.1 147)), (1, .int (nI p))] dX4_endOfOrder_56 rfl (by decide) rfl ?_
          refine x_aload_n h 2 dX4_endOfOrder_57 rfl rfl ?_
          refine x_iload_n h 0 dX4_endOfOrder_58 rfl rfl ?_
          refine x_callV h (As := [.int (nI ((p + 1) + 1))]) 1 hx (c_X4_characterAt hT (by omega)) gX4_endOfOrder_X4_characterAt rfl ⟨rfl, rfl⟩ (by decide +kernel) rfl (by decide) (by decide) E_147 rfl rfl (Nat.le_of_ble_eq_true rfl) dX4_endOfOrder_59 (fun rv M' P' hp => ?_)
          obtain ⟨⟨rfl, rfl⟩, rfl⟩ := hp
          refine x_bipush h (nI 59) dX4_endOfOrder_62 (by decide) ?_
          refine x_icmp_ne h 71 dX4_endOfOrder_64 (by decide) (fun c_64 => ?_) (fun c_64 => ?_)
          · -- 64 true
            have e64 := fun q => c_64 ((chC_eq (k := 59) hts (by decide)).mpr q)
            refine x_iconst h ((-1)) dX4_endOfOrder_71 (by decide) ?_
            exact hret _ _ _ _ _ dX4_endOfOrder_72 (by refine ⟨⟨rfl, rfl⟩, ?_⟩; unfold endO; first | (rw [if_pos e13, if_pos e64]; rfl) | (rw [if_pos e13, if_neg e64]; rfl) | (rw [if_neg e13, if_neg (fun q => nq17 ((chC_let hts).mpr q.1))]; rfl) | (rw [if_neg e13, if_neg (fun q => nd28 ((chC_dig hts).mpr q.2))]; rfl) | (rw [if_neg e13, if_pos ⟨(chC_let hts).mp q17, (chC_dig hts).mp d28⟩, if_pos ((chC_dig hts).mp d44), if_pos e64]; rfl) | (rw [if_neg e13, if_pos ⟨(chC_let hts).mp q17, (chC_dig hts).mp d28⟩, if_pos ((chC_dig hts).mp d44), if_neg e64]; rfl) | (rw [if_neg e13, if_pos ⟨(chC_let hts).mp q17, (chC_dig hts).mp d28⟩, if_neg (fun q => nd44 ((chC_dig hts).mpr q)), if_pos e64]; rfl) | (rw [if_neg e13, if_pos ⟨(chC_let hts).mp q17, (chC_dig hts).mp d28⟩, if_neg (fun q => nd44 ((chC_dig hts).mpr q)), if_neg e64]; rfl))
          · -- 64 false
            have e64 := (chC_eq (k := 59) hts (by decide)).mp c_64
            refine x_iload_n h 0 dX4_endOfOrder_67 rfl rfl ?_
            refine x_goto h 72 dX4_endOfOrder_68 (by decide) ?_
            exact hret _ _ _ _ _ dX4_endOfOrder_72 (by refine ⟨⟨rfl, rfl⟩, ?_⟩; unfold endO; first | (rw [if_pos e13, if_pos e64]; rfl) | (rw [if_pos e13, if_neg e64]; rfl) | (rw [if_neg e13, if_neg (fun q => nq17 ((chC_let hts).mpr q.1))]; rfl) | (rw [if_neg e13, if_neg (fun q => nd28 ((chC_dig hts).mpr q.2))]; rfl) | (rw [if_neg e13, if_pos ⟨(chC_let hts).mp q17, (chC_dig hts).mp d28⟩, if_pos ((chC_dig hts).mp d44), if_pos e64]; rfl) | (rw [if_neg e13, if_pos ⟨(chC_let hts).mp q17, (chC_dig hts).mp d28⟩, if_pos ((chC_dig hts).mp d44), if_neg e64]; rfl) | (rw [if_neg e13, if_pos ⟨(chC_let hts).mp q17, (chC_dig hts).mp d28⟩, if_neg (fun q => nd44 ((chC_dig hts).mpr q)), if_pos e64]; rfl) | (rw [if_neg e13, if_pos ⟨(chC_let hts).mp q17, (chC_dig hts).mp d28⟩, if_neg (fun q => nd44 ((chC_dig hts).mpr q)), if_neg e64]; rfl))
      · -- call 28
        refine x_if_ne h 36 dX4_endOfOrder_31 (by decide) (fun c => absurd c (by decide)) (fun _ => ?_)
        refine x_iconst h ((-1)) dX4_endOfOrder_34 (by decide) ?_
        exact hret _ _ _ _ _ dX4_endOfOrder_35 (by refine ⟨⟨rfl, rfl⟩, ?_⟩; unfold endO; first | (rw [if_pos e13, if_pos e64]; rfl) | (rw [if_pos e13, if_neg e64]; rfl) | (rw [if_neg e13, if_neg (fun q => nq17 ((chC_let hts).mpr q.1))]; rfl) | (rw [if_neg e13, if_neg (fun q => nd28 ((chC_dig hts).mpr q.2))]; rfl) | (rw [if_neg e13, if_pos ⟨(chC_let hts).mp q17, (chC_dig hts).mp d28⟩, if_pos ((chC_dig hts).mp d44), if_pos e64]; rfl) | (rw [if_neg e13, if_pos ⟨(chC_let hts).mp q17, (chC_dig hts).mp d28⟩, if_pos ((chC_dig hts).mp d44), if_neg e64]; rfl) | (rw [if_neg e13, if_pos ⟨(chC_let hts).mp q17, (chC_dig hts).mp d28⟩, if_neg (fun q => nd44 ((chC_dig hts).mpr q)), if_pos e64]; rfl) | (rw [if_neg e13, if_pos ⟨(chC_let hts).mp q17, (chC_dig hts).mp d28⟩, if_neg (fun q => nd44 ((chC_dig hts).mpr q)), if_neg e64]; rfl))
    · -- call 17
      refine x_if_eq h 34 dX4_endOfOrder_20 (by decide) (fun _ => ?_) (fun c => absurd (by decide) c)
      refine x_iconst h ((-1)) dX4_endOfOrder_34 (by decide) ?_
      exact hret _ _ _ _ _ dX4_endOfOrder_35 (by refine ⟨⟨rfl, rfl⟩, ?_⟩; unfold endO; first | (rw [if_pos e13, if_pos e64]; rfl) | (rw [if_pos e13, if_neg e64]; rfl) | (rw [if_neg e13, if_neg (fun q => nq17 ((chC_let hts).mpr q.1))]; rfl) | (rw [if_neg e13, if_neg (fun q => nd28 ((chC_dig hts).mpr q.2))]; rfl) | (rw [if_neg e13, if_pos ⟨(chC_let hts).mp q17, (chC_dig hts).mp d28⟩, if_pos ((chC_dig hts).mp d44), if_pos e64]; rfl) | (rw [if_neg e13, if_pos ⟨(chC_let hts).mp q17, (chC_dig hts).mp d28⟩, if_pos ((chC_dig hts).mp d44), if_neg e64]; rfl) | (rw [if_neg e13, if_pos ⟨(chC_let hts).mp q17, (chC_dig hts).mp d28⟩, if_neg (fun q => nd44 ((chC_dig hts).mpr q)), if_pos e64]; rfl) | (rw [if_neg e13, if_pos ⟨(chC_let hts).mp q17, (chC_dig hts).mp d28⟩, if_neg (fun q => nd44 ((chC_dig hts).mpr q)), if_neg e64]; rfl))

theorem dX4_reasonOf_0 : decode cX4_reasonOf 0 = .ok (.iload_n 0, 1) := by decide +kernel
theorem dX4_reasonOf_1 : decode cX4_reasonOf 1 = .ok (.ifCond .ne 5, 3) := by decide +kernel
theorem dX4_reasonOf_4 : decode cX4_reasonOf 4 = .ok (.iconst 2, 1) := by decide +kernel
theorem dX4_reasonOf_5 : decode cX4_reasonOf 5 = .ok (.ireturn, 1) := by decide +kernel
theorem dX4_reasonOf_6 : decode cX4_reasonOf 6 = .ok (.iload_n 1, 1) := by decide +kernel
theorem dX4_reasonOf_7 : decode cX4_reasonOf 7 = .ok (.ifCond .ge 7, 3) := by decide +kernel
theorem dX4_reasonOf_10 : decode cX4_reasonOf 10 = .ok (.iconst 3, 1) := by decide +kernel
theorem dX4_reasonOf_11 : decode cX4_reasonOf 11 = .ok (.goto 4, 3) := by decide +kernel
theorem dX4_reasonOf_14 : decode cX4_reasonOf 14 = .ok (.iconst 0, 1) := by decide +kernel
theorem dX4_reasonOf_15 : decode cX4_reasonOf 15 = .ok (.ireturn, 1) := by decide +kernel
abbrev rmX4_reasonOf : Room := { frames := 0, cells := 0, slots := 0, locals := 0 }

set_option maxRecDepth 100000 in
set_option maxHeartbeats 4000000 in
theorem c_X4_reasonOf {l : Launch} {g : Geo} {M : Nat → Nat → Int32} {P : Nat → Nat} {b a : Int32} : Met l yX4_reasonOf wsX4_reasonOf rmX4_reasonOf (cPre g [.int b, .int a] M P) (cQi g (fun r M' P' => (P = P' ∧ M = M') ∧ rsn (¬ b = 0) a r)) 0 0 (gA g) := by
  refine met_i (cc := cX4_reasonOf) (maxL := 2) (by decide) rfl ⟨rfl, rfl⟩ (Nat.le_of_ble_eq_true rfl) (fun x hx h hret => ?_)
  replace h : Cxk x g cX4_reasonOf 2 wsX4_reasonOf RX4 rmX4_reasonOf := h
  show X x 0 [(0, .int b), (1, .int a)] [] M P
  refine x_iload_n h 0 dX4_reasonOf_0 rfl rfl ?_
  refine x_if_ne h 6 dX4_reasonOf_1 (by decide) (fun c_1 => ?_) (fun c_1 => ?_)
  · -- 1 true
    refine x_iload_n h 1 dX4_reasonOf_6 rfl rfl ?_
    refine x_if_ge h 14 dX4_reasonOf_7 (by decide) (fun c_7 => ?_) (fun c_7 => ?_)
    · -- 7 true
      refine x_iconst h (nI 0) dX4_reasonOf_14 (by decide) ?_
      exact hret _ _ _ _ _ dX4_reasonOf_15 (by exact ⟨⟨rfl, rfl⟩, Or.inr (Or.inr ⟨c_1, Int32.not_lt.mpr c_7, rfl⟩)⟩)
    · -- 7 false
      refine x_iconst h (nI 3) dX4_reasonOf_10 (by decide) ?_
      refine x_goto h 15 dX4_reasonOf_11 (by decide) ?_
      exact hret _ _ _ _ _ dX4_reasonOf_15 (by exact ⟨⟨rfl, rfl⟩, Or.inr (Or.inl ⟨c_1, Int32.not_le.mp c_7, rfl⟩)⟩)
  · -- 1 false
    refine x_iconst h (nI 2) dX4_reasonOf_4 (by decide) ?_
    exact hret _ _ _ _ _ dX4_reasonOf_5 (by exact ⟨⟨rfl, rfl⟩, Or.inl ⟨fun q => q c_1, rfl⟩⟩)

theorem dX4_append_0 : decode cX4_append 0 = .ok (.iload_n 1, 1) := by decide +kernel
theorem dX4_append_1 : decode cX4_append 1 = .ok (.bipush 32, 2) := by decide +kernel
theorem dX4_append_3 : decode cX4_append 3 = .ok (.if_icmp .lt 9, 3) := by decide +kernel
theorem dX4_append_6 : decode cX4_append 6 = .ok (.iload_n 1, 1) := by decide +kernel
theorem dX4_append_7 : decode cX4_append 7 = .ok (.bipush 126, 2) := by decide +kernel
theorem dX4_append_9 : decode cX4_append 9 = .ok (.if_icmp .le 6, 3) := by decide +kernel
theorem dX4_append_12 : decode cX4_append 12 = .ok (.ldc 15, 2) := by decide +kernel
theorem dX4_append_14 : decode cX4_append 14 = .ok (.ireturn, 1) := by decide +kernel
theorem dX4_append_15 : decode cX4_append 15 = .ok (.aload_n 0, 1) := by decide +kernel
theorem dX4_append_16 : decode cX4_append 16 = .ok (.getfield 16, 3) := by decide +kernel
theorem dX4_append_19 : decode cX4_append 19 = .ok (.bipush 60, 2) := by decide +kernel
theorem dX4_append_21 : decode cX4_append 21 = .ok (.if_icmp .lt 6, 3) := by decide +kernel
theorem dX4_append_24 : decode cX4_append 24 = .ok (.ldc 20, 2) := by decide +kernel
theorem dX4_append_26 : decode cX4_append 26 = .ok (.ireturn, 1) := by decide +kernel
theorem dX4_append_27 : decode cX4_append 27 = .ok (.aload_n 0, 1) := by decide +kernel
theorem dX4_append_28 : decode cX4_append 28 = .ok (.getfield 9, 3) := by decide +kernel
theorem dX4_append_31 : decode cX4_append 31 = .ok (.aload_n 0, 1) := by decide +kernel
theorem dX4_append_32 : decode cX4_append 32 = .ok (.getfield 16, 3) := by decide +kernel
theorem dX4_append_35 : decode cX4_append 35 = .ok (.iload_n 1, 1) := by decide +kernel
theorem dX4_append_36 : decode cX4_append 36 = .ok (.iastore, 1) := by decide +kernel
theorem dX4_append_37 : decode cX4_append 37 = .ok (.aload_n 0, 1) := by decide +kernel
theorem dX4_append_38 : decode cX4_append 38 = .ok (.dup, 1) := by decide +kernel
theorem dX4_append_39 : decode cX4_append 39 = .ok (.getfield 16, 3) := by decide +kernel
theorem dX4_append_42 : decode cX4_append 42 = .ok (.iconst 1, 1) := by decide +kernel
theorem dX4_append_43 : decode cX4_append 43 = .ok (.iadd, 1) := by decide +kernel
theorem dX4_append_44 : decode cX4_append 44 = .ok (.putfield 16, 3) := by decide +kernel
theorem dX4_append_47 : decode cX4_append 47 = .ok (.aload_n 0, 1) := by decide +kernel
theorem dX4_append_48 : decode cX4_append 48 = .ok (.getfield 16, 3) := by decide +kernel
theorem dX4_append_51 : decode cX4_append 51 = .ok (.ireturn, 1) := by decide +kernel
abbrev rmX4_append : Room := { frames := 0, cells := 0, slots := 0, locals := 0 }
set_option maxRecDepth 20000 in
theorem in_X4_append_X4 : ∀ w ∈ wsX40, w ∈ wsX4_append := by decide +kernel

set_option maxRecDepth 100000 in
set_option maxHeartbeats 4000000 in
theorem c_X4_append {l : Launch} {g : Geo} {M : Nat → Nat → Int32} {P : Nat → Nat} {tx : Nat → Nat} {ln : Nat} (hT : TxM M tx ln) {a : Int32} : Met l yX4_append wsX4_append rmX4_append (cPre g [.ref (g.1 147), .int a] M P) (cQi g (fun r M' P' => P = P' ∧ ((¬ (nI 32 ≤ a ∧ a ≤ nI 126) ∧ r = -1000001 ∧ M = M') ∨ ((nI 32 ≤ a ∧ a ≤ nI 126) ∧ ((60 ≤ ln ∧ r = -1000003 ∧ M = M') ∨ (ln < 60 ∧ r = nI (ln + 1) ∧ M' = st2 (st2 M 148 ln a) 147 1 (nI (ln + 1)))))))) 0 0 (gA g) := by
  refine met_i (cc := cX4_append) (maxL := 2) (by decide) rfl ⟨rfl, rfl⟩ (Nat.le_of_ble_eq_true rfl) (fun x hx h hret => ?_)
  replace h : Cxk x g cX4_append 2 wsX4_append RX4 rmX4_append := h
  show X x 0 [(0, .ref (g.1 147)), (1, .int a)] [] M P
  refine x_iload_n h 1 dX4_append_0 rfl rfl ?_
  refine x_bipush h (nI 32) dX4_append_1 (by decide) ?_
  refine x_icmp_lt h 12 dX4_append_3 (by decide) (fun c_3 => ?_) (fun c_3 => ?_)
  · -- 3 true
    refine x_ldc h ((-1000001)) (by decide +kernel) dX4_append_12 ?_
    exact hret _ _ _ _ _ dX4_append_14 (by exact ⟨rfl, Or.inl ⟨fun q => (by first | exact absurd q.1 (Int32.not_le.mpr c_3) | exact c_9 q.2), rfl, rfl⟩⟩)
  · -- 3 false
    refine x_iload_n h 1 dX4_append_6 rfl rfl ?_
    refine x_bipush h (nI 126) dX4_append_7 (by decide) ?_
    refine x_icmp_le h 15 dX4_append_9 (by decide) (fun c_9 => ?_) (fun c_9 => ?_)
    · -- 9 true
      refine x_aload_n h 0 dX4_append_15 rfl rfl ?_
      refine xg_X4_1 h in_X4_append_X4 (by decide +kernel) dX4_append_16 ?_
      refine x_top (nI ln) (hT.1) ?_
      refine x_bipush h (nI 60) dX4_append_19 (by decide) ?_
      refine x_icmp_lt_n h 27 dX4_append_21 (by decide) (by first | omega | (have := hT.2.1; omega)) (by decide) (fun c_21 => ?_) (fun c_21 => ?_)
      · -- 21 true
        refine x_aload_n h 0 dX4_append_27 rfl rfl ?_
        refine xg_X4_0 h in_X4_append_X4 (by decide +kernel) dX4_append_28 ?_
        refine x_aload_n h 0 dX4_append_31 rfl rfl ?_
        refine xg_X4_1 h in_X4_append_X4 (by decide +kernel) dX4_append_32 ?_
        refine x_top (nI ln) (hT.1) ?_
        refine x_iload_n h 1 dX4_append_35 rfl rfl ?_
        refine xs_148 h dX4_append_36 (by omega) ?_
        refine x_aload_n h 0 dX4_append_37 rfl rfl ?_
        refine x_dup h dX4_append_38 rfl ?_
        refine xg_X4_1 h in_X4_append_X4 (by decide +kernel) dX4_append_39 ?_
        refine x_top (nI ln) (by rw [st2_n _ _ _ (by decide)]; exact hT.1) ?_
        refine x_iconst h (nI 1) dX4_append_42 (by decide) ?_
        refine x_iadd_n h dX4_append_43 ?_
        refine xp_X4_1 h in_X4_append_X4 (by decide +kernel) dX4_append_44 ?_
        refine x_aload_n h 0 dX4_append_47 rfl rfl ?_
        refine xg_X4_1 h in_X4_append_X4 (by decide +kernel) dX4_append_48 ?_
        refine x_top (nI (ln + 1)) (by rw [st2_k, pk_us]) ?_
        exact hret _ _ _ _ _ dX4_append_51 (by exact ⟨rfl, Or.inr ⟨⟨Int32.not_lt.mp c_3, c_9⟩, Or.inr ⟨by omega, rfl, rfl⟩⟩⟩)
      · -- 21 false
        refine x_ldc h ((-1000003)) (by decide +kernel) dX4_append_24 ?_
        exact hret _ _ _ _ _ dX4_append_26 (by exact ⟨rfl, Or.inr ⟨⟨Int32.not_lt.mp c_3, c_9⟩, Or.inl ⟨by omega, rfl, rfl⟩⟩⟩)
    · -- 9 false
      refine x_ldc h ((-1000001)) (by decide +kernel) dX4_append_12 ?_
      exact hret _ _ _ _ _ dX4_append_14 (by exact ⟨rfl, Or.inl ⟨fun q => (by first | exact absurd q.1 (Int32.not_le.mpr c_3) | exact c_9 q.2), rfl, rfl⟩⟩)

set_option maxRecDepth 20000 in
theorem ggX4_doOrder_X0_hearFirst : GoodIn wsX4_doOrder wsX0_hearFirst := goodIn_r _ [5, 6, 7, 8, 9, 10, 11, 12, 13, 14, 15, 16, 17, 18, 19, 20, 21, 22, 23, 24, 4, 25, 26, 27, 28, 29, 30, 31, 32, 33, 34, 35, 36, 37, 38, 39, 40, 41, 42, 43, 44, 45, 46, 47, 48, 49, 50, 51, 52, 53, 54, 55, 56, 57, 58, 59, 60, 61, 62, 63, 64, 65, 66, 67, 68, 69, 70, 71, 72, 73, 211, 212, 213, 214, 215, 216, 217, 218, 219, 220, 221, 222, 223, 224, 225, 226, 227, 228, 229, 230, 231, 232, 233, 234] (by decide +kernel) (by decide +kernel)
set_option maxRecDepth 20000 in
theorem gX4_doOrder_X0_hearFirst : GoodIn wsX4_doOrder (wsV RX4 52 RX0 yX0_hearFirst wsX0_hearFirst) := goodIn_app (goodIn_of _ (by decide +kernel)) ggX4_doOrder_X0_hearFirst
set_option maxRecDepth 20000 in
theorem ggX4_doOrder_X4_reasonOf : GoodIn wsX4_doOrder wsX4_reasonOf := goodIn_r _ [77] (by decide +kernel) (by decide +kernel)
set_option maxRecDepth 20000 in
theorem gX4_doOrder_X4_reasonOf : GoodIn wsX4_doOrder (va_wsS RX4 58 yX4_reasonOf wsX4_reasonOf) := goodIn_app (goodIn_of _ (by decide +kernel)) ggX4_doOrder_X4_reasonOf
set_option maxRecDepth 20000 in
theorem ggX4_doOrder_X0_letPass : GoodIn wsX4_doOrder wsX0_letPass := goodIn_r _ [81, 82, 21, 83, 84, 211, 212, 213, 214, 215, 216, 217, 218] (by decide +kernel) (by decide +kernel)
set_option maxRecDepth 20000 in
theorem gX4_doOrder_X0_letPass : GoodIn wsX4_doOrder (wsV RX4 62 RX0 yX0_letPass wsX0_letPass) := goodIn_app (goodIn_of _ (by decide +kernel)) ggX4_doOrder_X0_letPass
set_option maxRecDepth 20000 in
theorem ggX4_doOrder_X0_hasClaim : GoodIn wsX4_doOrder wsX0_hasClaim := goodIn_r _ [41, 26, 211, 212, 213, 214, 215, 216, 217, 218] (by decide +kernel) (by decide +kernel)
set_option maxRecDepth 20000 in
theorem gX4_doOrder_X0_hasClaim : GoodIn wsX4_doOrder (wsV RX4 65 RX0 yX0_hasClaim wsX0_hasClaim) := goodIn_app (goodIn_of _ (by decide +kernel)) ggX4_doOrder_X0_hasClaim
set_option maxRecDepth 20000 in
theorem ggX4_doOrder_X0_appealClaim : GoodIn wsX4_doOrder wsX0_appealClaim := goodIn_r _ [89, 82, 7, 20, 21, 90, 35, 6, 38, 39, 40, 4, 41, 26, 91, 92, 93, 94, 211, 212, 213, 214, 215, 216, 217, 218, 219, 220, 221, 222, 223, 224, 225] (by decide +kernel) (by decide +kernel)
set_option maxRecDepth 20000 in
theorem gX4_doOrder_X0_appealClaim : GoodIn wsX4_doOrder (wsV RX4 68 RX0 yX0_appealClaim wsX0_appealClaim) := goodIn_app (goodIn_of _ (by decide +kernel)) ggX4_doOrder_X0_appealClaim
set_option maxRecDepth 20000 in
theorem ggX4_doOrder_X0_hasNet : GoodIn wsX4_doOrder wsX0_hasNet := goodIn_r _ [45, 46, 211, 212, 213, 214, 215, 216, 217, 218] (by decide +kernel) (by decide +kernel)
set_option maxRecDepth 20000 in
theorem gX4_doOrder_X0_hasNet : GoodIn wsX4_doOrder (wsV RX4 71 RX0 yX0_hasNet wsX0_hasNet) := goodIn_app (goodIn_of _ (by decide +kernel)) ggX4_doOrder_X0_hasNet
set_option maxRecDepth 20000 in
theorem ggX4_doOrder_X0_layNet : GoodIn wsX4_doOrder wsX0_layNet := goodIn_r _ [99, 82, 10, 64, 6, 21, 100, 42, 43, 44, 4, 45, 46, 101, 102, 103, 104, 105, 106, 107, 108, 109, 110, 111, 112, 113, 114, 115, 116, 117, 118, 119, 120, 121, 122, 123, 63, 35, 124, 125, 126, 127, 128, 129, 130, 131, 132, 133, 134, 135, 136, 137, 138, 139, 140, 141, 142, 143, 144, 145, 146, 147, 148, 149, 150, 151, 152, 153, 154, 155, 156, 157, 158, 159, 160, 161, 162, 163, 164, 165, 166, 167, 168, 169, 170, 171, 172, 173, 174, 175, 176, 177, 178, 179, 211, 212, 213, 214, 215, 216, 217, 218, 226, 227, 228, 229, 230, 231, 232, 233, 234, 235, 236, 237, 238, 239, 240, 241, 242, 243, 244, 245, 246, 247, 248, 249] (by decide +kernel) (by decide +kernel)
set_option maxRecDepth 20000 in
theorem gX4_doOrder_X0_layNet : GoodIn wsX4_doOrder (wsV RX4 74 RX0 yX0_layNet wsX0_layNet) := goodIn_app (goodIn_of _ (by decide +kernel)) ggX4_doOrder_X0_layNet
set_option maxRecDepth 20000 in
theorem ggX4_doOrder_X0_digForNet : GoodIn wsX4_doOrder wsX0_digForNet := goodIn_r _ [183, 82, 10, 64, 12, 184, 6, 26, 185, 84, 21, 186, 187, 42, 43, 44, 4, 45, 46, 101, 102, 103, 104, 105, 106, 107, 108, 109, 110, 111, 112, 113, 114, 115, 116, 117, 118, 119, 120, 121, 122, 123, 63, 35, 124, 125, 126, 127, 128, 129, 130, 131, 132, 133, 134, 135, 136, 137, 138, 139, 140, 141, 142, 143, 144, 145, 146, 147, 148, 149, 150, 151, 152, 153, 154, 155, 156, 157, 158, 159, 160, 161, 162, 163, 164, 165, 166, 167, 168, 169, 188, 189, 190, 191, 192, 193, 194, 47, 48, 49, 50, 51, 52, 53, 195, 196, 197, 198, 7, 9, 8, 36, 37, 11, 20, 90, 69, 199, 200, 201, 202, 203, 204, 205, 206, 54, 55, 56, 57, 58, 59, 60, 61, 62, 170, 171, 172, 173, 174, 175, 176, 177, 178, 179, 211, 212, 213, 214, 215, 216, 217, 218, 226, 227, 228, 229, 230, 231, 232, 233, 234, 235, 236, 237, 238, 239, 240, 241, 242, 243, 244, 245, 246, 247, 248, 249, 219, 220, 221, 222, 223, 224, 225] (by decide +kernel) (by decide +kernel)
set_option maxRecDepth 20000 in
theorem gX4_doOrder_X0_digForNet : GoodIn wsX4_doOrder (wsV RX4 78 RX0 yX0_digForNet wsX0_digForNet) := goodIn_app (goodIn_of _ (by decide +kernel)) ggX4_doOrder_X0_digForNet
set_option maxRecDepth 20000 in
theorem ggX4_doOrder_X0_ripNet : GoodIn wsX4_doOrder wsX0_ripNet := goodIn_r _ [210, 82, 10, 64, 6, 21, 42, 43, 44, 4, 45, 46, 199, 200, 201, 202, 63, 59, 60, 61, 62, 211, 212, 213, 214, 215, 216, 217, 218, 226, 227, 228, 229, 230, 231, 232, 233, 234] (by decide +kernel) (by decide +kernel)
set_option maxRecDepth 20000 in
theorem gX4_doOrder_X0_ripNet : GoodIn wsX4_doOrder (wsV RX4 81 RX0 yX0_ripNet wsX0_ripNet) := goodIn_app (goodIn_of _ (by decide +kernel)) ggX4_doOrder_X0_ripNet
theorem dX4_doOrder_0 : decode cX4_doOrder 0 = .ok (.iload_n 2, 1) := by decide +kernel
theorem dX4_doOrder_1 : decode cX4_doOrder 1 = .ok (.lookupswitch 114 #[(97, 70), (100, 99), (104, 51), (108, 84), (119, 60)], 51) := by decide +kernel
theorem dX4_doOrder_52 : decode cX4_doOrder 52 = .ok (.iconst 1, 1) := by decide +kernel
theorem dX4_doOrder_53 : decode cX4_doOrder 53 = .ok (.aload_n 0, 1) := by decide +kernel
theorem dX4_doOrder_54 : decode cX4_doOrder 54 = .ok (.invokevirtual 52, 3) := by decide +kernel
theorem dX4_doOrder_57 : decode cX4_doOrder 57 = .ok (.invokestatic 58, 3) := by decide +kernel
theorem dX4_doOrder_60 : decode cX4_doOrder 60 = .ok (.ireturn, 1) := by decide +kernel
theorem dX4_doOrder_61 : decode cX4_doOrder 61 = .ok (.iconst 1, 1) := by decide +kernel
theorem dX4_doOrder_62 : decode cX4_doOrder 62 = .ok (.aload_n 0, 1) := by decide +kernel
theorem dX4_doOrder_63 : decode cX4_doOrder 63 = .ok (.iload_n 3, 1) := by decide +kernel
theorem dX4_doOrder_64 : decode cX4_doOrder 64 = .ok (.invokevirtual 62, 3) := by decide +kernel
theorem dX4_doOrder_67 : decode cX4_doOrder 67 = .ok (.invokestatic 58, 3) := by decide +kernel
theorem dX4_doOrder_70 : decode cX4_doOrder 70 = .ok (.ireturn, 1) := by decide +kernel
theorem dX4_doOrder_71 : decode cX4_doOrder 71 = .ok (.aload_n 0, 1) := by decide +kernel
theorem dX4_doOrder_72 : decode cX4_doOrder 72 = .ok (.iload_n 3, 1) := by decide +kernel
theorem dX4_doOrder_73 : decode cX4_doOrder 73 = .ok (.invokevirtual 65, 3) := by decide +kernel
theorem dX4_doOrder_76 : decode cX4_doOrder 76 = .ok (.aload_n 0, 1) := by decide +kernel
theorem dX4_doOrder_77 : decode cX4_doOrder 77 = .ok (.iload_n 3, 1) := by decide +kernel
theorem dX4_doOrder_78 : decode cX4_doOrder 78 = .ok (.invokevirtual 68, 3) := by decide +kernel
theorem dX4_doOrder_81 : decode cX4_doOrder 81 = .ok (.invokestatic 58, 3) := by decide +kernel
theorem dX4_doOrder_84 : decode cX4_doOrder 84 = .ok (.ireturn, 1) := by decide +kernel
theorem dX4_doOrder_85 : decode cX4_doOrder 85 = .ok (.aload_n 0, 1) := by decide +kernel
theorem dX4_doOrder_86 : decode cX4_doOrder 86 = .ok (.iload_n 3, 1) := by decide +kernel
theorem dX4_doOrder_87 : decode cX4_doOrder 87 = .ok (.invokevirtual 71, 3) := by decide +kernel
theorem dX4_doOrder_90 : decode cX4_doOrder 90 = .ok (.aload_n 0, 1) := by decide +kernel
theorem dX4_doOrder_91 : decode cX4_doOrder 91 = .ok (.aload_n 1, 1) := by decide +kernel
theorem dX4_doOrder_92 : decode cX4_doOrder 92 = .ok (.iload_n 3, 1) := by decide +kernel
theorem dX4_doOrder_93 : decode cX4_doOrder 93 = .ok (.invokevirtual 74, 3) := by decide +kernel
theorem dX4_doOrder_96 : decode cX4_doOrder 96 = .ok (.invokestatic 58, 3) := by decide +kernel
theorem dX4_doOrder_99 : decode cX4_doOrder 99 = .ok (.ireturn, 1) := by decide +kernel
theorem dX4_doOrder_100 : decode cX4_doOrder 100 = .ok (.aload_n 0, 1) := by decide +kernel
theorem dX4_doOrder_101 : decode cX4_doOrder 101 = .ok (.iload_n 3, 1) := by decide +kernel
theorem dX4_doOrder_102 : decode cX4_doOrder 102 = .ok (.invokevirtual 71, 3) := by decide +kernel
theorem dX4_doOrder_105 : decode cX4_doOrder 105 = .ok (.aload_n 0, 1) := by decide +kernel
theorem dX4_doOrder_106 : decode cX4_doOrder 106 = .ok (.aload_n 1, 1) := by decide +kernel
theorem dX4_doOrder_107 : decode cX4_doOrder 107 = .ok (.iload_n 3, 1) := by decide +kernel
theorem dX4_doOrder_108 : decode cX4_doOrder 108 = .ok (.invokevirtual 78, 3) := by decide +kernel
theorem dX4_doOrder_111 : decode cX4_doOrder 111 = .ok (.invokestatic 58, 3) := by decide +kernel
theorem dX4_doOrder_114 : decode cX4_doOrder 114 = .ok (.ireturn, 1) := by decide +kernel
theorem dX4_doOrder_115 : decode cX4_doOrder 115 = .ok (.aload_n 0, 1) := by decide +kernel
theorem dX4_doOrder_116 : decode cX4_doOrder 116 = .ok (.iload_n 3, 1) := by decide +kernel
theorem dX4_doOrder_117 : decode cX4_doOrder 117 = .ok (.invokevirtual 71, 3) := by decide +kernel
theorem dX4_doOrder_120 : decode cX4_doOrder 120 = .ok (.aload_n 0, 1) := by decide +kernel
theorem dX4_doOrder_121 : decode cX4_doOrder 121 = .ok (.iload_n 3, 1) := by decide +kernel
theorem dX4_doOrder_122 : decode cX4_doOrder 122 = .ok (.invokevirtual 81, 3) := by decide +kernel
theorem dX4_doOrder_125 : decode cX4_doOrder 125 = .ok (.invokestatic 58, 3) := by decide +kernel
theorem dX4_doOrder_128 : decode cX4_doOrder 128 = .ok (.ireturn, 1) := by decide +kernel
abbrev rmX4_doOrder : Room := { frames := 5, cells := 0, slots := 0, locals := 121 }

set_option maxRecDepth 100000 in
set_option maxHeartbeats 8000000 in
theorem c_X4_doOrder {l : Launch} {g : Geo} {M : Nat → Nat → Int32} {P : Nat → Nat} {c : Nat} (hc : c < 6) {N K : Nat} (hG : GdX eC (M c) N K) (hNb : Nbr M) {L v : Nat} (hv : v < 2 ^ 31) (hL : L = 104 ∨ L = 119 ∨ L = 97 ∨ L = 108 ∨ L = 100 ∨ L = 114) : Met l yX4_doOrder wsX4_doOrder rmX4_doOrder (cPre g [.ref (g.1 (24 * c)), .ref (g.1 149), .int (nI L), .int (nI v)] M P) (cQi g (fun r M' P' => P = P' ∧ FrC c M M' ∧ ordQ bC finC eC (M c) N K L v r (M' c))) 0 0 (gA g) := by
  refine met_i (cc := cX4_doOrder) (maxL := 4) (by decide) rfl ⟨rfl, rfl⟩ (Nat.le_of_ble_eq_true rfl) (fun x hx h hret => ?_)
  replace h : Cxk x g cX4_doOrder 4 wsX4_doOrder RX4 rmX4_doOrder := h
  show X x 0 [(0, .ref (g.1 (24 * c))), (1, .ref (g.1 149)), (2, .int (nI L)), (3, .int (nI v))] [] M P
  have hN := hG.1
  have hN6 := hG.2.1
  have hK := hG.2.2.1
  have hK12 := hG.2.2.2.1
  rcases hL with rfl | rfl | rfl | rfl | rfl | rfl
  · -- h
    refine x_iload_n h 2 dX4_doOrder_0 rfl rfl ?_
    refine x_lookup h (51) 52 dX4_doOrder_1 (by decide) (by decide) (by decide) ?_
    refine x_iconst h (nI 1) dX4_doOrder_52 (by decide) ?_
    refine x_aload_n h 0 dX4_doOrder_53 rfl rfl ?_
    refine x_callV h (As := []) 0 hx (c_X0_hearFirst hc hG) gX4_doOrder_X0_hearFirst rfl ⟨rfl, rfl⟩ (by decide +kernel) rfl (by decide) (hk_chip hc) (E_chip hc) rfl rfl (Nat.le_of_ble_eq_true rfl) dX4_doOrder_54 (fun a54 M54 P' hp => ?_)
    obtain ⟨rfl, hF54, hQ54⟩ := hp
    refine x_callS h (As := [.int (nI 1), .int a54]) 2 hx (c_X4_reasonOf) gX4_doOrder_X4_reasonOf rfl ⟨rfl, rfl⟩ (by decide +kernel) rfl (by decide) (Nat.le_of_ble_eq_true rfl) dX4_doOrder_57 (fun rr M' P' hp => ?_)
    obtain ⟨⟨rfl, rfl⟩, hrs⟩ := hp
    exact hret _ _ _ _ _ dX4_doOrder_60 (by first | (have hr0 : rsn (True) a54 rr := (by rcases hrs with ⟨q, e⟩ | ⟨q, e⟩ | ⟨q, e⟩; exact absurd (by decide) q; exact Or.inr (Or.inl ⟨(by first | trivial | assumption), e⟩); exact Or.inr (Or.inr ⟨(by first | trivial | assumption), e⟩)); exact ⟨rfl, hF54, a54, Or.inl ⟨rfl, hQ54, hr0⟩⟩) | (have hr0 : rsn (True) a54 rr := (by rcases hrs with ⟨q, e⟩ | ⟨q, e⟩ | ⟨q, e⟩; exact Or.inl ⟨(by first | exact fun z => nk73 ⟨_, z, rfl⟩ | exact fun z => nk87 ⟨_, z, rfl⟩ | exact fun z => nk102 ⟨_, z, rfl⟩ | exact fun z => nk117 ⟨_, z, rfl⟩), e⟩; exact absurd rfl q; exact absurd rfl q); exact ⟨rfl, hF54, a54, Or.inl ⟨rfl, hQ54, hr0⟩⟩))
  · -- w
    refine x_iload_n h 2 dX4_doOrder_0 rfl rfl ?_
    refine x_lookup h (60) 61 dX4_doOrder_1 (by decide) (by decide) (by decide) ?_
    refine x_iconst h (nI 1) dX4_doOrder_61 (by decide) ?_
    refine x_aload_n h 0 dX4_doOrder_62 rfl rfl ?_
    refine x_iload_n h 3 dX4_doOrder_63 rfl rfl ?_
    refine x_callV h (As := [.int (nI v)]) 1 hx (c_X0_letPass hc) gX4_doOrder_X0_letPass rfl ⟨rfl, rfl⟩ (by decide +kernel) rfl (by decide) (hk_chip hc) (E_chip hc) rfl rfl (Nat.le_of_ble_eq_true rfl) dX4_doOrder_64 (fun a64 M64 P' hp => ?_)
    obtain ⟨rfl, X64, hQ64, hM64⟩ := hp
    have hF64 : FrC c M M64 := by rw [hM64]; exact FrC_v
    rw [show X64 = M64 c by rw [hM64, va_up_k]] at hQ64
    refine x_callS h (As := [.int (nI 1), .int a64]) 2 hx (c_X4_reasonOf) gX4_doOrder_X4_reasonOf rfl ⟨rfl, rfl⟩ (by decide +kernel) rfl (by decide) (Nat.le_of_ble_eq_true rfl) dX4_doOrder_67 (fun rr M' P' hp => ?_)
    obtain ⟨⟨rfl, rfl⟩, hrs⟩ := hp
    exact hret _ _ _ _ _ dX4_doOrder_70 (by first | (have hr0 : rsn (True) a64 rr := (by rcases hrs with ⟨q, e⟩ | ⟨q, e⟩ | ⟨q, e⟩; exact absurd (by decide) q; exact Or.inr (Or.inl ⟨(by first | trivial | assumption), e⟩); exact Or.inr (Or.inr ⟨(by first | trivial | assumption), e⟩)); exact ⟨rfl, hF64, a64, Or.inr (Or.inl ⟨rfl, hQ64, hr0⟩)⟩) | (have hr0 : rsn (True) a64 rr := (by rcases hrs with ⟨q, e⟩ | ⟨q, e⟩ | ⟨q, e⟩; exact Or.inl ⟨(by first | exact fun z => nk73 ⟨_, z, rfl⟩ | exact fun z => nk87 ⟨_, z, rfl⟩ | exact fun z => nk102 ⟨_, z, rfl⟩ | exact fun z => nk117 ⟨_, z, rfl⟩), e⟩; exact absurd rfl q; exact absurd rfl q); exact ⟨rfl, hF64, a64, Or.inr (Or.inl ⟨rfl, hQ64, hr0⟩)⟩))
  · -- a
    refine x_iload_n h 2 dX4_doOrder_0 rfl rfl ?_
    refine x_lookup h (70) 71 dX4_doOrder_1 (by decide) (by decide) (by decide) ?_
    refine x_aload_n h 0 dX4_doOrder_71 rfl rfl ?_
    refine x_iload_n h 3 dX4_doOrder_72 rfl rfl ?_
    refine x_callV h (As := [.int (nI v)]) 1 hx (c_X0_hasClaim hc hK hK12) gX4_doOrder_X0_hasClaim rfl ⟨rfl, rfl⟩ (by decide +kernel) rfl (by decide) (hk_chip hc) (E_chip hc) rfl rfl (Nat.le_of_ble_eq_true rfl) dX4_doOrder_73 (fun rv M' P' hp => ?_)
    obtain ⟨⟨rfl, rfl⟩, hp⟩ := hp
    rcases hp with ⟨ky73, rfl⟩ | ⟨nk73, rfl⟩
    · -- there
      have hvk : v < K := InR_nI (by omega) hv ky73
      refine x_aload_n h 0 dX4_doOrder_76 rfl rfl ?_
      refine x_iload_n h 3 dX4_doOrder_77 rfl rfl ?_
      refine x_callV h (As := [.int (nI v)]) 1 hx (c_X0_appealClaim hc hK hK12) gX4_doOrder_X0_appealClaim rfl ⟨rfl, rfl⟩ (by decide +kernel) rfl (by decide) (hk_chip hc) (E_chip hc) rfl rfl (Nat.le_of_ble_eq_true rfl) dX4_doOrder_78 (fun a78 M78 P' hp => ?_)
      obtain ⟨rfl, X78, hQ78, hM78⟩ := hp
      have hF78 : FrC c M M78 := by rw [hM78]; exact FrC_v
      rw [show X78 = M78 c by rw [hM78, va_up_k]] at hQ78
      refine x_callS h (As := [.int (nI 1), .int a78]) 2 hx (c_X4_reasonOf) gX4_doOrder_X4_reasonOf rfl ⟨rfl, rfl⟩ (by decide +kernel) rfl (by decide) (Nat.le_of_ble_eq_true rfl) dX4_doOrder_81 (fun rr M' P' hp => ?_)
      obtain ⟨⟨rfl, rfl⟩, hrs⟩ := hp
      exact hret _ _ _ _ _ dX4_doOrder_84 (by first | (have hr0 : rsn (v < K) a78 rr := (by rcases hrs with ⟨q, e⟩ | ⟨q, e⟩ | ⟨q, e⟩; exact absurd (by decide) q; exact Or.inr (Or.inl ⟨(by first | trivial | assumption), e⟩); exact Or.inr (Or.inr ⟨(by first | trivial | assumption), e⟩)); exact ⟨rfl, hF78, a78, Or.inr (Or.inr (Or.inl ⟨rfl, hQ78, hr0⟩))⟩) | (have hr0 : rsn (v < K) a78 rr := (by rcases hrs with ⟨q, e⟩ | ⟨q, e⟩ | ⟨q, e⟩; exact Or.inl ⟨(by first | exact fun z => nk73 ⟨_, z, rfl⟩ | exact fun z => nk87 ⟨_, z, rfl⟩ | exact fun z => nk102 ⟨_, z, rfl⟩ | exact fun z => nk117 ⟨_, z, rfl⟩), e⟩; exact absurd rfl q; exact absurd rfl q); exact ⟨rfl, hF78, a78, Or.inr (Or.inr (Or.inl ⟨rfl, hQ78, hr0⟩))⟩))
    · -- not there
      refine x_aload_n h 0 dX4_doOrder_76 rfl rfl ?_
      refine x_iload_n h 3 dX4_doOrder_77 rfl rfl ?_
      refine x_callV h (As := [.int (nI v)]) 1 hx (c_X0_appealClaim hc hK hK12) gX4_doOrder_X0_appealClaim rfl ⟨rfl, rfl⟩ (by decide +kernel) rfl (by decide) (hk_chip hc) (E_chip hc) rfl rfl (Nat.le_of_ble_eq_true rfl) dX4_doOrder_78 (fun a78 M78 P' hp => ?_)
      obtain ⟨rfl, X78, hQ78, hM78⟩ := hp
      have hF78 : FrC c M M78 := by rw [hM78]; exact FrC_v
      rw [show X78 = M78 c by rw [hM78, va_up_k]] at hQ78
      refine x_callS h (As := [.int (nI 0), .int a78]) 2 hx (c_X4_reasonOf) gX4_doOrder_X4_reasonOf rfl ⟨rfl, rfl⟩ (by decide +kernel) rfl (by decide) (Nat.le_of_ble_eq_true rfl) dX4_doOrder_81 (fun rr M' P' hp => ?_)
      obtain ⟨⟨rfl, rfl⟩, hrs⟩ := hp
      exact hret _ _ _ _ _ dX4_doOrder_84 (by first | (have hr0 : rsn (v < K) a78 rr := (by rcases hrs with ⟨q, e⟩ | ⟨q, e⟩ | ⟨q, e⟩; exact absurd (by decide) q; exact Or.inr (Or.inl ⟨(by first | trivial | assumption), e⟩); exact Or.inr (Or.inr ⟨(by first | trivial | assumption), e⟩)); exact ⟨rfl, hF78, a78, Or.inr (Or.inr (Or.inl ⟨rfl, hQ78, hr0⟩))⟩) | (have hr0 : rsn (v < K) a78 rr := (by rcases hrs with ⟨q, e⟩ | ⟨q, e⟩ | ⟨q, e⟩; exact Or.inl ⟨(by first | exact fun z => nk73 ⟨_, z, rfl⟩ | exact fun z => nk87 ⟨_, z, rfl⟩ | exact fun z => nk102 ⟨_, z, rfl⟩ | exact fun z => nk117 ⟨_, z, rfl⟩), e⟩; exact absurd rfl q; exact absurd rfl q); exact ⟨rfl, hF78, a78, Or.inr (Or.inr (Or.inl ⟨rfl, hQ78, hr0⟩))⟩))
  · -- l
    refine x_iload_n h 2 dX4_doOrder_0 rfl rfl ?_
    refine x_lookup h (84) 85 dX4_doOrder_1 (by decide) (by decide) (by decide) ?_
    refine x_aload_n h 0 dX4_doOrder_85 rfl rfl ?_
    refine x_iload_n h 3 dX4_doOrder_86 rfl rfl ?_
    refine x_callV h (As := [.int (nI v)]) 1 hx (c_X0_hasNet hc hN hN6) gX4_doOrder_X0_hasNet rfl ⟨rfl, rfl⟩ (by decide +kernel) rfl (by decide) (hk_chip hc) (E_chip hc) rfl rfl (Nat.le_of_ble_eq_true rfl) dX4_doOrder_87 (fun rv M' P' hp => ?_)
    obtain ⟨⟨rfl, rfl⟩, hp⟩ := hp
    rcases hp with ⟨ky87, rfl⟩ | ⟨nk87, rfl⟩
    · -- there
      have hvk : v < N := InR_nI (by omega) hv ky87
      refine x_aload_n h 0 dX4_doOrder_90 rfl rfl ?_
      refine x_aload_n h 1 dX4_doOrder_91 rfl rfl ?_
      refine x_iload_n h 3 dX4_doOrder_92 rfl rfl ?_
      refine x_callV h (As := [.ref (g.1 149), .int (nI v)]) 2 hx (c_X0_layNet hc hG hNb) gX4_doOrder_X0_layNet rfl ⟨rfl, rfl⟩ (by decide +kernel) rfl (by decide) (hk_chip hc) (E_chip hc) rfl rfl (Nat.le_of_ble_eq_true rfl) dX4_doOrder_93 (fun a93 M93 P' hp => ?_)
      obtain ⟨rfl, hF93, hQ93⟩ := hp
      refine x_callS h (As := [.int (nI 1), .int a93]) 2 hx (c_X4_reasonOf) gX4_doOrder_X4_reasonOf rfl ⟨rfl, rfl⟩ (by decide +kernel) rfl (by decide) (Nat.le_of_ble_eq_true rfl) dX4_doOrder_96 (fun rr M' P' hp => ?_)
      obtain ⟨⟨rfl, rfl⟩, hrs⟩ := hp
      exact hret _ _ _ _ _ dX4_doOrder_99 (by first | (have hr0 : rsn (v < N) a93 rr := (by rcases hrs with ⟨q, e⟩ | ⟨q, e⟩ | ⟨q, e⟩; exact absurd (by decide) q; exact Or.inr (Or.inl ⟨(by first | trivial | assumption), e⟩); exact Or.inr (Or.inr ⟨(by first | trivial | assumption), e⟩)); exact ⟨rfl, hF93, a93, Or.inr (Or.inr (Or.inr (Or.inl ⟨rfl, hQ93, hr0⟩)))⟩) | (have hr0 : rsn (v < N) a93 rr := (by rcases hrs with ⟨q, e⟩ | ⟨q, e⟩ | ⟨q, e⟩; exact Or.inl ⟨(by first | exact fun z => nk73 ⟨_, z, rfl⟩ | exact fun z => nk87 ⟨_, z, rfl⟩ | exact fun z => nk102 ⟨_, z, rfl⟩ | exact fun z => nk117 ⟨_, z, rfl⟩), e⟩; exact absurd rfl q; exact absurd rfl q); exact ⟨rfl, hF93, a93, Or.inr (Or.inr (Or.inr (Or.inl ⟨rfl, hQ93, hr0⟩)))⟩))
    · -- not there
      refine x_aload_n h 0 dX4_doOrder_90 rfl rfl ?_
      refine x_aload_n h 1 dX4_doOrder_91 rfl rfl ?_
      refine x_iload_n h 3 dX4_doOrder_92 rfl rfl ?_
      refine x_callV h (As := [.ref (g.1 149), .int (nI v)]) 2 hx (c_X0_layNet hc hG hNb) gX4_doOrder_X0_layNet rfl ⟨rfl, rfl⟩ (by decide +kernel) rfl (by decide) (hk_chip hc) (E_chip hc) rfl rfl (Nat.le_of_ble_eq_true rfl) dX4_doOrder_93 (fun a93 M93 P' hp => ?_)
      obtain ⟨rfl, hF93, hQ93⟩ := hp
      refine x_callS h (As := [.int (nI 0), .int a93]) 2 hx (c_X4_reasonOf) gX4_doOrder_X4_reasonOf rfl ⟨rfl, rfl⟩ (by decide +kernel) rfl (by decide) (Nat.le_of_ble_eq_true rfl) dX4_doOrder_96 (fun rr M' P' hp => ?_)
      obtain ⟨⟨rfl, rfl⟩, hrs⟩ := hp
      exact hret _ _ _ _ _ dX4_doOrder_99 (by first | (have hr0 : rsn (v < N) a93 rr := (by rcases hrs with ⟨q, e⟩ | ⟨q, e⟩ | ⟨q, e⟩; exact absurd (by decide) q; exact Or.inr (Or.inl ⟨(by first | trivial | assumption), e⟩); exact Or.inr (Or.inr ⟨(by first | trivial | assumption), e⟩)); exact ⟨rfl, hF93, a93, Or.inr (Or.inr (Or.inr (Or.inl ⟨rfl, hQ93, hr0⟩)))⟩) | (have hr0 : rsn (v < N) a93 rr := (by rcases hrs with ⟨q, e⟩ | ⟨q, e⟩ | ⟨q, e⟩; exact Or.inl ⟨(by first | exact fun z => nk73 ⟨_, z, rfl⟩ | exact fun z => nk87 ⟨_, z, rfl⟩ | exact fun z => nk102 ⟨_, z, rfl⟩ | exact fun z => nk117 ⟨_, z, rfl⟩), e⟩; exact absurd rfl q; exact absurd rfl q); exact ⟨rfl, hF93, a93, Or.inr (Or.inr (Or.inr (Or.inl ⟨rfl, hQ93, hr0⟩)))⟩))
  · -- d
    refine x_iload_n h 2 dX4_doOrder_0 rfl rfl ?_
    refine x_lookup h (99) 100 dX4_doOrder_1 (by decide) (by decide) (by decide) ?_
    refine x_aload_n h 0 dX4_doOrder_100 rfl rfl ?_
    refine x_iload_n h 3 dX4_doOrder_101 rfl rfl ?_
    refine x_callV h (As := [.int (nI v)]) 1 hx (c_X0_hasNet hc hN hN6) gX4_doOrder_X0_hasNet rfl ⟨rfl, rfl⟩ (by decide +kernel) rfl (by decide) (hk_chip hc) (E_chip hc) rfl rfl (Nat.le_of_ble_eq_true rfl) dX4_doOrder_102 (fun rv M' P' hp => ?_)
    obtain ⟨⟨rfl, rfl⟩, hp⟩ := hp
    rcases hp with ⟨ky102, rfl⟩ | ⟨nk102, rfl⟩
    · -- there
      have hvk : v < N := InR_nI (by omega) hv ky102
      refine x_aload_n h 0 dX4_doOrder_105 rfl rfl ?_
      refine x_aload_n h 1 dX4_doOrder_106 rfl rfl ?_
      refine x_iload_n h 3 dX4_doOrder_107 rfl rfl ?_
      refine x_callV h (As := [.ref (g.1 149), .int (nI v)]) 2 hx (c_X0_digForNet hc hG hNb) gX4_doOrder_X0_digForNet rfl ⟨rfl, rfl⟩ (by decide +kernel) rfl (by decide) (hk_chip hc) (E_chip hc) rfl rfl (Nat.le_of_ble_eq_true rfl) dX4_doOrder_108 (fun a108 M108 P' hp => ?_)
      obtain ⟨rfl, hF108, hQ108⟩ := hp
      refine x_callS h (As := [.int (nI 1), .int a108]) 2 hx (c_X4_reasonOf) gX4_doOrder_X4_reasonOf rfl ⟨rfl, rfl⟩ (by decide +kernel) rfl (by decide) (Nat.le_of_ble_eq_true rfl) dX4_doOrder_111 (fun rr M' P' hp => ?_)
      obtain ⟨⟨rfl, rfl⟩, hrs⟩ := hp
      exact hret _ _ _ _ _ dX4_doOrder_114 (by first | (have hr0 : rsn (v < N) a108 rr := (by rcases hrs with ⟨q, e⟩ | ⟨q, e⟩ | ⟨q, e⟩; exact absurd (by decide) q; exact Or.inr (Or.inl ⟨(by first | trivial | assumption), e⟩); exact Or.inr (Or.inr ⟨(by first | trivial | assumption), e⟩)); exact ⟨rfl, hF108, a108, Or.inr (Or.inr (Or.inr (Or.inr (Or.inl ⟨rfl, hQ108, hr0⟩))))⟩) | (have hr0 : rsn (v < N) a108 rr := (by rcases hrs with ⟨q, e⟩ | ⟨q, e⟩ | ⟨q, e⟩; exact Or.inl ⟨(by first | exact fun z => nk73 ⟨_, z, rfl⟩ | exact fun z => nk87 ⟨_, z, rfl⟩ | exact fun z => nk102 ⟨_, z, rfl⟩ | exact fun z => nk117 ⟨_, z, rfl⟩), e⟩; exact absurd rfl q; exact absurd rfl q); exact ⟨rfl, hF108, a108, Or.inr (Or.inr (Or.inr (Or.inr (Or.inl ⟨rfl, hQ108, hr0⟩))))⟩))
    · -- not there
      refine x_aload_n h 0 dX4_doOrder_105 rfl rfl ?_
      refine x_aload_n h 1 dX4_doOrder_106 rfl rfl ?_
      refine x_iload_n h 3 dX4_doOrder_107 rfl rfl ?_
      refine x_callV h (As := [.ref (g.1 149), .int (nI v)]) 2 hx (c_X0_digForNet hc hG hNb) gX4_doOrder_X0_digForNet rfl ⟨rfl, rfl⟩ (by decide +kernel) rfl (by decide) (hk_chip hc) (E_chip hc) rfl rfl (Nat.le_of_ble_eq_true rfl) dX4_doOrder_108 (fun a108 M108 P' hp => ?_)
      obtain ⟨rfl, hF108, hQ108⟩ := hp
      refine x_callS h (As := [.int (nI 0), .int a108]) 2 hx (c_X4_reasonOf) gX4_doOrder_X4_reasonOf rfl ⟨rfl, rfl⟩ (by decide +kernel) rfl (by decide) (Nat.le_of_ble_eq_true rfl) dX4_doOrder_111 (fun rr M' P' hp => ?_)
      obtain ⟨⟨rfl, rfl⟩, hrs⟩ := hp
      exact hret _ _ _ _ _ dX4_doOrder_114 (by first | (have hr0 : rsn (v < N) a108 rr := (by rcases hrs with ⟨q, e⟩ | ⟨q, e⟩ | ⟨q, e⟩; exact absurd (by decide) q; exact Or.inr (Or.inl ⟨(by first | trivial | assumption), e⟩); exact Or.inr (Or.inr ⟨(by first | trivial | assumption), e⟩)); exact ⟨rfl, hF108, a108, Or.inr (Or.inr (Or.inr (Or.inr (Or.inl ⟨rfl, hQ108, hr0⟩))))⟩) | (have hr0 : rsn (v < N) a108 rr := (by rcases hrs with ⟨q, e⟩ | ⟨q, e⟩ | ⟨q, e⟩; exact Or.inl ⟨(by first | exact fun z => nk73 ⟨_, z, rfl⟩ | exact fun z => nk87 ⟨_, z, rfl⟩ | exact fun z => nk102 ⟨_, z, rfl⟩ | exact fun z => nk117 ⟨_, z, rfl⟩), e⟩; exact absurd rfl q; exact absurd rfl q); exact ⟨rfl, hF108, a108, Or.inr (Or.inr (Or.inr (Or.inr (Or.inl ⟨rfl, hQ108, hr0⟩))))⟩))
  · -- r
    refine x_iload_n h 2 dX4_doOrder_0 rfl rfl ?_
    refine x_lookup h (114) 115 dX4_doOrder_1 (by decide) (by decide) (by decide) ?_
    refine x_aload_n h 0 dX4_doOrder_115 rfl rfl ?_
    refine x_iload_n h 3 dX4_doOrder_116 rfl rfl ?_
    refine x_callV h (As := [.int (nI v)]) 1 hx (c_X0_hasNet hc hN hN6) gX4_doOrder_X0_hasNet rfl ⟨rfl, rfl⟩ (by decide +kernel) rfl (by decide) (hk_chip hc) (E_chip hc) rfl rfl (Nat.le_of_ble_eq_true rfl) dX4_doOrder_117 (fun rv M' P' hp => ?_)
    obtain ⟨⟨rfl, rfl⟩, hp⟩ := hp
    rcases hp with ⟨ky117, rfl⟩ | ⟨nk117, rfl⟩
    · -- there
      have hvk : v < N := InR_nI (by omega) hv ky117
      refine x_aload_n h 0 dX4_doOrder_120 rfl rfl ?_
      refine x_iload_n h 3 dX4_doOrder_121 rfl rfl ?_
      refine x_callV h (As := [.int (nI v)]) 1 hx (c_X0_ripNet hc hN hN6) gX4_doOrder_X0_ripNet rfl ⟨rfl, rfl⟩ (by decide +kernel) rfl (by decide) (hk_chip hc) (E_chip hc) rfl rfl (Nat.le_of_ble_eq_true rfl) dX4_doOrder_122 (fun a122 M122 P' hp => ?_)
      obtain ⟨rfl, X122, hQ122, hM122⟩ := hp
      have hF122 : FrC c M M122 := by rw [hM122]; exact FrC_v
      rw [show X122 = M122 c by rw [hM122, va_up_k]] at hQ122
      refine x_callS h (As := [.int (nI 1), .int a122]) 2 hx (c_X4_reasonOf) gX4_doOrder_X4_reasonOf rfl ⟨rfl, rfl⟩ (by decide +kernel) rfl (by decide) (Nat.le_of_ble_eq_true rfl) dX4_doOrder_125 (fun rr M' P' hp => ?_)
      obtain ⟨⟨rfl, rfl⟩, hrs⟩ := hp
      exact hret _ _ _ _ _ dX4_doOrder_128 (by first | (have hr0 : rsn (v < N) a122 rr := (by rcases hrs with ⟨q, e⟩ | ⟨q, e⟩ | ⟨q, e⟩; exact absurd (by decide) q; exact Or.inr (Or.inl ⟨(by first | trivial | assumption), e⟩); exact Or.inr (Or.inr ⟨(by first | trivial | assumption), e⟩)); exact ⟨rfl, hF122, a122, Or.inr (Or.inr (Or.inr (Or.inr (Or.inr ⟨rfl, hQ122, hr0⟩))))⟩) | (have hr0 : rsn (v < N) a122 rr := (by rcases hrs with ⟨q, e⟩ | ⟨q, e⟩ | ⟨q, e⟩; exact Or.inl ⟨(by first | exact fun z => nk73 ⟨_, z, rfl⟩ | exact fun z => nk87 ⟨_, z, rfl⟩ | exact fun z => nk102 ⟨_, z, rfl⟩ | exact fun z => nk117 ⟨_, z, rfl⟩), e⟩; exact absurd rfl q; exact absurd rfl q); exact ⟨rfl, hF122, a122, Or.inr (Or.inr (Or.inr (Or.inr (Or.inr ⟨rfl, hQ122, hr0⟩))))⟩))
    · -- not there
      refine x_aload_n h 0 dX4_doOrder_120 rfl rfl ?_
      refine x_iload_n h 3 dX4_doOrder_121 rfl rfl ?_
      refine x_callV h (As := [.int (nI v)]) 1 hx (c_X0_ripNet hc hN hN6) gX4_doOrder_X0_ripNet rfl ⟨rfl, rfl⟩ (by decide +kernel) rfl (by decide) (hk_chip hc) (E_chip hc) rfl rfl (Nat.le_of_ble_eq_true rfl) dX4_doOrder_122 (fun a122 M122 P' hp => ?_)
      obtain ⟨rfl, X122, hQ122, hM122⟩ := hp
      have hF122 : FrC c M M122 := by rw [hM122]; exact FrC_v
      rw [show X122 = M122 c by rw [hM122, va_up_k]] at hQ122
      refine x_callS h (As := [.int (nI 0), .int a122]) 2 hx (c_X4_reasonOf) gX4_doOrder_X4_reasonOf rfl ⟨rfl, rfl⟩ (by decide +kernel) rfl (by decide) (Nat.le_of_ble_eq_true rfl) dX4_doOrder_125 (fun rr M' P' hp => ?_)
      obtain ⟨⟨rfl, rfl⟩, hrs⟩ := hp
      exact hret _ _ _ _ _ dX4_doOrder_128 (by first | (have hr0 : rsn (v < N) a122 rr := (by rcases hrs with ⟨q, e⟩ | ⟨q, e⟩ | ⟨q, e⟩; exact absurd (by decide) q; exact Or.inr (Or.inl ⟨(by first | trivial | assumption), e⟩); exact Or.inr (Or.inr ⟨(by first | trivial | assumption), e⟩)); exact ⟨rfl, hF122, a122, Or.inr (Or.inr (Or.inr (Or.inr (Or.inr ⟨rfl, hQ122, hr0⟩))))⟩) | (have hr0 : rsn (v < N) a122 rr := (by rcases hrs with ⟨q, e⟩ | ⟨q, e⟩ | ⟨q, e⟩; exact Or.inl ⟨(by first | exact fun z => nk73 ⟨_, z, rfl⟩ | exact fun z => nk87 ⟨_, z, rfl⟩ | exact fun z => nk102 ⟨_, z, rfl⟩ | exact fun z => nk117 ⟨_, z, rfl⟩), e⟩; exact absurd rfl q; exact absurd rfl q); exact ⟨rfl, hF122, a122, Or.inr (Or.inr (Or.inr (Or.inr (Or.inr ⟨rfl, hQ122, hr0⟩))))⟩))
