theorem eC1 (g : Geo) (X : Nat → Int32) (c : Nat) : eChip g X c 1 = .inl (g.2.2.1 0, 4, .inl (fun j => if j < 4 then X (0 + j) else 0)) := by simp [eChip]
theorem eC2 (g : Geo) (X : Nat → Int32) (c : Nat) : eChip g X c 2 = .inl (g.2.2.1 0, 162, .inl (fun j => if j < 162 then X (7 + j) else 0)) := by simp [eChip]
theorem eC3 (g : Geo) (X : Nat → Int32) (c : Nat) : eChip g X c 3 = .inl (g.2.2.1 0, 162, .inl (fun j => if j < 162 then X (400 + j) else 0)) := by simp [eChip]
/-- what a row says, said by another -/
def LvX (X Y : Nat → Int32) (N K : Nat) : Prop := (∀ j, (j < 169 ∨ (400 ≤ j ∧ j < 562)) → Y j = X j) ∧ (∀ k, k < N → ∀ j, j < 9 → Y (169 + 9 * k + j) = X (169 + 9 * k + j)) ∧ ∀ i, i < K → ∀ j, j < 7 → Y (223 + 13 * i + j) = X (223 + 13 * i + j)

theorem dX1_copyFrom_0 : decode cX1_copyFrom 0 = .ok (.aload_n 0, 1) := by decide +kernel
theorem dX1_copyFrom_1 : decode cX1_copyFrom 1 = .ok (.aload_n 1, 1) := by decide +kernel
theorem dX1_copyFrom_2 : decode cX1_copyFrom 2 = .ok (.getfield 7, 3) := by decide +kernel
theorem dX1_copyFrom_5 : decode cX1_copyFrom 5 = .ok (.putfield 7, 3) := by decide +kernel
theorem dX1_copyFrom_8 : decode cX1_copyFrom 8 = .ok (.aload_n 0, 1) := by decide +kernel
theorem dX1_copyFrom_9 : decode cX1_copyFrom 9 = .ok (.aload_n 1, 1) := by decide +kernel
theorem dX1_copyFrom_10 : decode cX1_copyFrom 10 = .ok (.getfield 13, 3) := by decide +kernel
theorem dX1_copyFrom_13 : decode cX1_copyFrom 13 = .ok (.putfield 13, 3) := by decide +kernel
theorem dX1_copyFrom_16 : decode cX1_copyFrom 16 = .ok (.aload_n 0, 1) := by decide +kernel
theorem dX1_copyFrom_17 : decode cX1_copyFrom 17 = .ok (.aload_n 1, 1) := by decide +kernel
theorem dX1_copyFrom_18 : decode cX1_copyFrom 18 = .ok (.getfield 16, 3) := by decide +kernel
theorem dX1_copyFrom_21 : decode cX1_copyFrom 21 = .ok (.putfield 16, 3) := by decide +kernel
theorem dX1_copyFrom_24 : decode cX1_copyFrom 24 = .ok (.aload_n 0, 1) := by decide +kernel
theorem dX1_copyFrom_25 : decode cX1_copyFrom 25 = .ok (.aload_n 1, 1) := by decide +kernel
theorem dX1_copyFrom_26 : decode cX1_copyFrom 26 = .ok (.getfield 19, 3) := by decide +kernel
theorem dX1_copyFrom_29 : decode cX1_copyFrom 29 = .ok (.putfield 19, 3) := by decide +kernel
theorem dX1_copyFrom_32 : decode cX1_copyFrom 32 = .ok (.aload_n 0, 1) := by decide +kernel
theorem dX1_copyFrom_33 : decode cX1_copyFrom 33 = .ok (.aload_n 1, 1) := by decide +kernel
theorem dX1_copyFrom_34 : decode cX1_copyFrom 34 = .ok (.getfield 22, 3) := by decide +kernel
theorem dX1_copyFrom_37 : decode cX1_copyFrom 37 = .ok (.putfield 22, 3) := by decide +kernel
theorem dX1_copyFrom_40 : decode cX1_copyFrom 40 = .ok (.aload_n 0, 1) := by decide +kernel
theorem dX1_copyFrom_41 : decode cX1_copyFrom 41 = .ok (.aload_n 1, 1) := by decide +kernel
theorem dX1_copyFrom_42 : decode cX1_copyFrom 42 = .ok (.getfield 25, 3) := by decide +kernel
theorem dX1_copyFrom_45 : decode cX1_copyFrom 45 = .ok (.putfield 25, 3) := by decide +kernel
theorem dX1_copyFrom_48 : decode cX1_copyFrom 48 = .ok (.aload_n 0, 1) := by decide +kernel
theorem dX1_copyFrom_49 : decode cX1_copyFrom 49 = .ok (.aload_n 1, 1) := by decide +kernel
theorem dX1_copyFrom_50 : decode cX1_copyFrom 50 = .ok (.getfield 28, 3) := by decide +kernel
theorem dX1_copyFrom_53 : decode cX1_copyFrom 53 = .ok (.putfield 28, 3) := by decide +kernel
theorem dX1_copyFrom_56 : decode cX1_copyFrom 56 = .ok (.return_, 1) := by decide +kernel
abbrev rmX1_copyFrom : Room := { frames := 0, cells := 0, slots := 0, locals := 0 }
set_option maxRecDepth 20000 in
theorem in_X1_copyFrom_X1 : ∀ w ∈ wsX10, w ∈ wsX1_copyFrom := by decide +kernel

set_option maxRecDepth 100000 in
set_option maxHeartbeats 4000000 in
theorem c_X1_copyFrom {l : Launch} {g : Geo} {M : Nat → Nat → Int32} {P : Nat → Nat} {c d : Nat} (hc : c < 6) (hd6 : d < 6) (hcd : d ≠ c) {i : Nat} (hi : i < 12) : Met l yX1_copyFrom wsX1_copyFrom rmX1_copyFrom (cPre g [.ref (g.1 (24 * c + 12 + i)), .ref (g.1 (24 * d + 12 + i))] M P) (cQv g (fun M' P' => P = P' ∧ (∀ k, k ≠ c → M' k = M k) ∧ (∀ j, j < 7 → M' c (223 + 13 * i + j) = M d (223 + 13 * i + j)) ∧ ∀ j, (j < 223 + 13 * i ∨ 223 + 13 * i + 7 ≤ j) → M' c j = M c j)) 0 0 (gA g) := by
  refine met_v (cc := cX1_copyFrom) (maxL := 2) (by decide) rfl ⟨rfl, rfl⟩ (Nat.le_of_ble_eq_true rfl) (fun x hx h hret => ?_)
  replace h : Cxk x g cX1_copyFrom 2 wsX1_copyFrom RX1 rmX1_copyFrom := h
  show X x 0 [(0, .ref (g.1 (24 * c + 12 + i))), (1, .ref (g.1 (24 * d + 12 + i)))] [] M P
  refine x_aload_n h 0 dX1_copyFrom_0 rfl rfl ?_
  refine x_aload_n h 1 dX1_copyFrom_1 rfl rfl ?_
  refine xg_X1_0 h hd6 (by omega) in_X1_copyFrom_X1 (by decide +kernel) dX1_copyFrom_2 ?_
  refine x_top ((M d (223 + 13 * i))) (rfl) ?_
  refine xp_X1_0 h hc (by omega) in_X1_copyFrom_X1 (by decide +kernel) dX1_copyFrom_5 ?_
  refine x_aload_n h 0 dX1_copyFrom_8 rfl rfl ?_
  refine x_aload_n h 1 dX1_copyFrom_9 rfl rfl ?_
  refine xg_X1_1 h hd6 (by omega) in_X1_copyFrom_X1 (by decide +kernel) dX1_copyFrom_10 ?_
  refine x_top ((M d (223 + 13 * i + 1))) (by (repeat rw [st2_n _ _ _ hcd])) ?_
  refine xp_X1_1 h hc (by omega) in_X1_copyFrom_X1 (by decide +kernel) dX1_copyFrom_13 ?_
  refine x_aload_n h 0 dX1_copyFrom_16 rfl rfl ?_
  refine x_aload_n h 1 dX1_copyFrom_17 rfl rfl ?_
  refine xg_X1_2 h hd6 (by omega) in_X1_copyFrom_X1 (by decide +kernel) dX1_copyFrom_18 ?_
  refine x_top ((M d (223 + 13 * i + 2))) (by (repeat rw [st2_n _ _ _ hcd])) ?_
  refine xp_X1_2 h hc (by omega) in_X1_copyFrom_X1 (by decide +kernel) dX1_copyFrom_21 ?_
  refine x_aload_n h 0 dX1_copyFrom_24 rfl rfl ?_
  refine x_aload_n h 1 dX1_copyFrom_25 rfl rfl ?_
  refine xg_X1_3 h hd6 (by omega) in_X1_copyFrom_X1 (by decide +kernel) dX1_copyFrom_26 ?_
  refine x_top ((M d (223 + 13 * i + 3))) (by (repeat rw [st2_n _ _ _ hcd])) ?_
  refine xp_X1_3 h hc (by omega) in_X1_copyFrom_X1 (by decide +kernel) dX1_copyFrom_29 ?_
  refine x_aload_n h 0 dX1_copyFrom_32 rfl rfl ?_
  refine x_aload_n h 1 dX1_copyFrom_33 rfl rfl ?_
  refine xg_X1_4 h hd6 (by omega) in_X1_copyFrom_X1 (by decide +kernel) dX1_copyFrom_34 ?_
  refine x_top ((M d (223 + 13 * i + 4))) (by (repeat rw [st2_n _ _ _ hcd])) ?_
  refine xp_X1_4 h hc (by omega) in_X1_copyFrom_X1 (by decide +kernel) dX1_copyFrom_37 ?_
  refine x_aload_n h 0 dX1_copyFrom_40 rfl rfl ?_
  refine x_aload_n h 1 dX1_copyFrom_41 rfl rfl ?_
  refine xg_X1_5 h hd6 (by omega) in_X1_copyFrom_X1 (by decide +kernel) dX1_copyFrom_42 ?_
  refine x_top ((M d (223 + 13 * i + 5))) (by (repeat rw [st2_n _ _ _ hcd])) ?_
  refine xp_X1_5 h hc (by omega) in_X1_copyFrom_X1 (by decide +kernel) dX1_copyFrom_45 ?_
  refine x_aload_n h 0 dX1_copyFrom_48 rfl rfl ?_
  refine x_aload_n h 1 dX1_copyFrom_49 rfl rfl ?_
  refine xg_X1_6 h hd6 (by omega) in_X1_copyFrom_X1 (by decide +kernel) dX1_copyFrom_50 ?_
  refine x_top ((M d (223 + 13 * i + 6))) (by (repeat rw [st2_n _ _ _ hcd])) ?_
  refine xp_X1_6 h hc (by omega) in_X1_copyFrom_X1 (by decide +kernel) dX1_copyFrom_53 ?_
  exact hret _ _ _ _ dX1_copyFrom_56 (by 
          refine ⟨rfl, fun k hk => by (repeat rw [st2_n _ _ _ hk]), fun j hj => ?_, fun j hj => by (simp only [st2_k, Nat.add_zero]; repeat first | rw [pk_us] | rw [pk_un (by omega)])⟩
          rcases (show j = 0 ∨ j = 1 ∨ j = 2 ∨ j = 3 ∨ j = 4 ∨ j = 5 ∨ j = 6 by omega) with rfl | rfl | rfl | rfl | rfl | rfl | rfl <;> (simp only [st2_k, Nat.add_zero]; repeat first | rw [pk_us] | rw [pk_un (by omega)]))

theorem dX2_copyFrom_0 : decode cX2_copyFrom 0 = .ok (.aload_n 0, 1) := by decide +kernel
theorem dX2_copyFrom_1 : decode cX2_copyFrom 1 = .ok (.aload_n 1, 1) := by decide +kernel
theorem dX2_copyFrom_2 : decode cX2_copyFrom 2 = .ok (.getfield 7, 3) := by decide +kernel
theorem dX2_copyFrom_5 : decode cX2_copyFrom 5 = .ok (.putfield 7, 3) := by decide +kernel
theorem dX2_copyFrom_8 : decode cX2_copyFrom 8 = .ok (.aload_n 0, 1) := by decide +kernel
theorem dX2_copyFrom_9 : decode cX2_copyFrom 9 = .ok (.aload_n 1, 1) := by decide +kernel
theorem dX2_copyFrom_10 : decode cX2_copyFrom 10 = .ok (.getfield 13, 3) := by decide +kernel
theorem dX2_copyFrom_13 : decode cX2_copyFrom 13 = .ok (.putfield 13, 3) := by decide +kernel
theorem dX2_copyFrom_16 : decode cX2_copyFrom 16 = .ok (.aload_n 0, 1) := by decide +kernel
theorem dX2_copyFrom_17 : decode cX2_copyFrom 17 = .ok (.aload_n 1, 1) := by decide +kernel
theorem dX2_copyFrom_18 : decode cX2_copyFrom 18 = .ok (.getfield 16, 3) := by decide +kernel
theorem dX2_copyFrom_21 : decode cX2_copyFrom 21 = .ok (.putfield 16, 3) := by decide +kernel
theorem dX2_copyFrom_24 : decode cX2_copyFrom 24 = .ok (.aload_n 0, 1) := by decide +kernel
theorem dX2_copyFrom_25 : decode cX2_copyFrom 25 = .ok (.aload_n 1, 1) := by decide +kernel
theorem dX2_copyFrom_26 : decode cX2_copyFrom 26 = .ok (.getfield 19, 3) := by decide +kernel
theorem dX2_copyFrom_29 : decode cX2_copyFrom 29 = .ok (.putfield 19, 3) := by decide +kernel
theorem dX2_copyFrom_32 : decode cX2_copyFrom 32 = .ok (.aload_n 0, 1) := by decide +kernel
theorem dX2_copyFrom_33 : decode cX2_copyFrom 33 = .ok (.aload_n 1, 1) := by decide +kernel
theorem dX2_copyFrom_34 : decode cX2_copyFrom 34 = .ok (.getfield 22, 3) := by decide +kernel
theorem dX2_copyFrom_37 : decode cX2_copyFrom 37 = .ok (.putfield 22, 3) := by decide +kernel
theorem dX2_copyFrom_40 : decode cX2_copyFrom 40 = .ok (.aload_n 0, 1) := by decide +kernel
theorem dX2_copyFrom_41 : decode cX2_copyFrom 41 = .ok (.aload_n 1, 1) := by decide +kernel
theorem dX2_copyFrom_42 : decode cX2_copyFrom 42 = .ok (.getfield 25, 3) := by decide +kernel
theorem dX2_copyFrom_45 : decode cX2_copyFrom 45 = .ok (.putfield 25, 3) := by decide +kernel
theorem dX2_copyFrom_48 : decode cX2_copyFrom 48 = .ok (.aload_n 0, 1) := by decide +kernel
theorem dX2_copyFrom_49 : decode cX2_copyFrom 49 = .ok (.aload_n 1, 1) := by decide +kernel
theorem dX2_copyFrom_50 : decode cX2_copyFrom 50 = .ok (.getfield 29, 3) := by decide +kernel
theorem dX2_copyFrom_53 : decode cX2_copyFrom 53 = .ok (.putfield 29, 3) := by decide +kernel
theorem dX2_copyFrom_56 : decode cX2_copyFrom 56 = .ok (.aload_n 0, 1) := by decide +kernel
theorem dX2_copyFrom_57 : decode cX2_copyFrom 57 = .ok (.aload_n 1, 1) := by decide +kernel
theorem dX2_copyFrom_58 : decode cX2_copyFrom 58 = .ok (.getfield 32, 3) := by decide +kernel
theorem dX2_copyFrom_61 : decode cX2_copyFrom 61 = .ok (.putfield 32, 3) := by decide +kernel
theorem dX2_copyFrom_64 : decode cX2_copyFrom 64 = .ok (.aload_n 0, 1) := by decide +kernel
theorem dX2_copyFrom_65 : decode cX2_copyFrom 65 = .ok (.aload_n 1, 1) := by decide +kernel
theorem dX2_copyFrom_66 : decode cX2_copyFrom 66 = .ok (.getfield 35, 3) := by decide +kernel
theorem dX2_copyFrom_69 : decode cX2_copyFrom 69 = .ok (.putfield 35, 3) := by decide +kernel
theorem dX2_copyFrom_72 : decode cX2_copyFrom 72 = .ok (.return_, 1) := by decide +kernel
abbrev rmX2_copyFrom : Room := { frames := 0, cells := 0, slots := 0, locals := 0 }
set_option maxRecDepth 20000 in
theorem in_X2_copyFrom_X2 : ∀ w ∈ wsX20, w ∈ wsX2_copyFrom := by decide +kernel

set_option maxRecDepth 100000 in
set_option maxHeartbeats 4000000 in
theorem c_X2_copyFrom {l : Launch} {g : Geo} {M : Nat → Nat → Int32} {P : Nat → Nat} {c d : Nat} (hc : c < 6) (hd6 : d < 6) (hcd : d ≠ c) {i : Nat} (hi : i < 6) (hbo : M d (169 + 9 * i + 5) = 0 ∨ M d (169 + 9 * i + 5) = 1) : Met l yX2_copyFrom wsX2_copyFrom rmX2_copyFrom (cPre g [.ref (g.1 (24 * c + 5 + i)), .ref (g.1 (24 * d + 5 + i))] M P) (cQv g (fun M' P' => P = P' ∧ (∀ k, k ≠ c → M' k = M k) ∧ (∀ j, j < 9 → M' c (169 + 9 * i + j) = M d (169 + 9 * i + j)) ∧ ∀ j, (j < 169 + 9 * i ∨ 169 + 9 * i + 9 ≤ j) → M' c j = M c j)) 0 0 (gA g) := by
  refine met_v (cc := cX2_copyFrom) (maxL := 2) (by decide) rfl ⟨rfl, rfl⟩ (Nat.le_of_ble_eq_true rfl) (fun x hx h hret => ?_)
  replace h : Cxk x g cX2_copyFrom 2 wsX2_copyFrom RX2 rmX2_copyFrom := h
  show X x 0 [(0, .ref (g.1 (24 * c + 5 + i))), (1, .ref (g.1 (24 * d + 5 + i)))] [] M P
  refine x_aload_n h 0 dX2_copyFrom_0 rfl rfl ?_
  refine x_aload_n h 1 dX2_copyFrom_1 rfl rfl ?_
  refine xg_X2_0 h hd6 (by omega) in_X2_copyFrom_X2 (by decide +kernel) dX2_copyFrom_2 ?_
  refine x_top ((M d (169 + 9 * i))) (rfl) ?_
  refine xp_X2_0 h hc (by omega) in_X2_copyFrom_X2 (by decide +kernel) dX2_copyFrom_5 ?_
  refine x_aload_n h 0 dX2_copyFrom_8 rfl rfl ?_
  refine x_aload_n h 1 dX2_copyFrom_9 rfl rfl ?_
  refine xg_X2_1 h hd6 (by omega) in_X2_copyFrom_X2 (by decide +kernel) dX2_copyFrom_10 ?_
  refine x_top ((M d (169 + 9 * i + 1))) (by (repeat rw [st2_n _ _ _ hcd])) ?_
  refine xp_X2_1 h hc (by omega) in_X2_copyFrom_X2 (by decide +kernel) dX2_copyFrom_13 ?_
  refine x_aload_n h 0 dX2_copyFrom_16 rfl rfl ?_
  refine x_aload_n h 1 dX2_copyFrom_17 rfl rfl ?_
  refine xg_X2_2 h hd6 (by omega) in_X2_copyFrom_X2 (by decide +kernel) dX2_copyFrom_18 ?_
  refine x_top ((M d (169 + 9 * i + 2))) (by (repeat rw [st2_n _ _ _ hcd])) ?_
  refine xp_X2_2 h hc (by omega) in_X2_copyFrom_X2 (by decide +kernel) dX2_copyFrom_21 ?_
  refine x_aload_n h 0 dX2_copyFrom_24 rfl rfl ?_
  refine x_aload_n h 1 dX2_copyFrom_25 rfl rfl ?_
  refine xg_X2_3 h hd6 (by omega) in_X2_copyFrom_X2 (by decide +kernel) dX2_copyFrom_26 ?_
  refine x_top ((M d (169 + 9 * i + 3))) (by (repeat rw [st2_n _ _ _ hcd])) ?_
  refine xp_X2_3 h hc (by omega) in_X2_copyFrom_X2 (by decide +kernel) dX2_copyFrom_29 ?_
  refine x_aload_n h 0 dX2_copyFrom_32 rfl rfl ?_
  refine x_aload_n h 1 dX2_copyFrom_33 rfl rfl ?_
  refine xg_X2_4 h hd6 (by omega) in_X2_copyFrom_X2 (by decide +kernel) dX2_copyFrom_34 ?_
  refine x_top ((M d (169 + 9 * i + 4))) (by (repeat rw [st2_n _ _ _ hcd])) ?_
  refine xp_X2_4 h hc (by omega) in_X2_copyFrom_X2 (by decide +kernel) dX2_copyFrom_37 ?_
  refine x_aload_n h 0 dX2_copyFrom_40 rfl rfl ?_
  refine x_aload_n h 1 dX2_copyFrom_41 rfl rfl ?_
  refine xg_X2_5 h hd6 (by omega) in_X2_copyFrom_X2 (by decide +kernel) dX2_copyFrom_42 ?_
  refine x_top ((M d (169 + 9 * i + 5))) (by (repeat rw [st2_n _ _ _ hcd])) ?_
  refine xp_X2_5 h hc (by omega) (by exact hbo) in_X2_copyFrom_X2 (by decide +kernel) dX2_copyFrom_45 ?_
  refine x_aload_n h 0 dX2_copyFrom_48 rfl rfl ?_
  refine x_aload_n h 1 dX2_copyFrom_49 rfl rfl ?_
  refine xg_X2_6 h hd6 (by omega) in_X2_copyFrom_X2 (by decide +kernel) dX2_copyFrom_50 ?_
  refine x_top ((M d (169 + 9 * i + 6))) (by (repeat rw [st2_n _ _ _ hcd])) ?_
  refine xp_X2_6 h hc (by omega) in_X2_copyFrom_X2 (by decide +kernel) dX2_copyFrom_53 ?_
  refine x_aload_n h 0 dX2_copyFrom_56 rfl rfl ?_
  refine x_aload_n h 1 dX2_copyFrom_57 rfl rfl ?_
  refine xg_X2_7 h hd6 (by omega) in_X2_copyFrom_X2 (by decide +kernel) dX2_copyFrom_58 ?_
  refine x_top ((M d (169 + 9 * i + 7))) (by (repeat rw [st2_n _ _ _ hcd])) ?_
  refine xp_X2_7 h hc (by omega) in_X2_copyFrom_X2 (by decide +kernel) dX2_copyFrom_61 ?_
  refine x_aload_n h 0 dX2_copyFrom_64 rfl rfl ?_
  refine x_aload_n h 1 dX2_copyFrom_65 rfl rfl ?_
  refine xg_X2_8 h hd6 (by omega) in_X2_copyFrom_X2 (by decide +kernel) dX2_copyFrom_66 ?_
  refine x_top ((M d (169 + 9 * i + 8))) (by (repeat rw [st2_n _ _ _ hcd])) ?_
  refine xp_X2_8 h hc (by omega) in_X2_copyFrom_X2 (by decide +kernel) dX2_copyFrom_69 ?_
  exact hret _ _ _ _ dX2_copyFrom_72 (by 
          refine ⟨rfl, fun k hk => by (repeat rw [st2_n _ _ _ hk]), fun j hj => ?_, fun j hj => by (simp only [st2_k, Nat.add_zero]; repeat first | rw [pk_us] | rw [pk_un (by omega)])⟩
          rcases (show j = 0 ∨ j = 1 ∨ j = 2 ∨ j = 3 ∨ j = 4 ∨ j = 5 ∨ j = 6 ∨ j = 7 ∨ j = 8 by omega) with rfl | rfl | rfl | rfl | rfl | rfl | rfl | rfl | rfl <;> (simp only [st2_k, Nat.add_zero]; repeat first | rw [pk_us] | rw [pk_un (by omega)]))

set_option maxRecDepth 20000 in
theorem ggX0_copyFrom_X2_copyFrom : GoodIn wsX0_copyFrom wsX2_copyFrom := goodIn_r _ [17, 18, 19, 20, 21, 22, 23, 24, 25, 26, 47, 48, 49, 50, 51, 52, 53, 54, 55] (by decide +kernel) (by decide +kernel)
set_option maxRecDepth 20000 in
theorem gX0_copyFrom_X2_copyFrom : GoodIn wsX0_copyFrom (wsV RX0 45 RX2 yX2_copyFrom wsX2_copyFrom) := goodIn_app (goodIn_of _ (by decide +kernel)) ggX0_copyFrom_X2_copyFrom
set_option maxRecDepth 20000 in
theorem ggX0_copyFrom_X1_copyFrom : GoodIn wsX0_copyFrom wsX1_copyFrom := goodIn_r _ [31, 32, 33, 34, 35, 36, 37, 38, 56, 57, 58, 59, 60, 61, 62] (by decide +kernel) (by decide +kernel)
set_option maxRecDepth 20000 in
theorem gX0_copyFrom_X1_copyFrom : GoodIn wsX0_copyFrom (wsV RX0 52 RX1 yX1_copyFrom wsX1_copyFrom) := goodIn_app (goodIn_of _ (by decide +kernel)) ggX0_copyFrom_X1_copyFrom
theorem dX0_copyFrom_0 : decode cX0_copyFrom 0 = .ok (.aload_n 1, 1) := by decide +kernel
theorem dX0_copyFrom_1 : decode cX0_copyFrom 1 = .ok (.getfield 9, 3) := by decide +kernel
theorem dX0_copyFrom_4 : decode cX0_copyFrom 4 = .ok (.iconst 0, 1) := by decide +kernel
theorem dX0_copyFrom_5 : decode cX0_copyFrom 5 = .ok (.aload_n 0, 1) := by decide +kernel
theorem dX0_copyFrom_6 : decode cX0_copyFrom 6 = .ok (.getfield 9, 3) := by decide +kernel
theorem dX0_copyFrom_9 : decode cX0_copyFrom 9 = .ok (.iconst 0, 1) := by decide +kernel
theorem dX0_copyFrom_10 : decode cX0_copyFrom 10 = .ok (.iconst 4, 1) := by decide +kernel
theorem dX0_copyFrom_11 : decode cX0_copyFrom 11 = .ok (.invokestatic 35, 3) := by decide +kernel
theorem dX0_copyFrom_14 : decode cX0_copyFrom 14 = .ok (.aload_n 1, 1) := by decide +kernel
theorem dX0_copyFrom_15 : decode cX0_copyFrom 15 = .ok (.getfield 15, 3) := by decide +kernel
theorem dX0_copyFrom_18 : decode cX0_copyFrom 18 = .ok (.iconst 0, 1) := by decide +kernel
theorem dX0_copyFrom_19 : decode cX0_copyFrom 19 = .ok (.aload_n 0, 1) := by decide +kernel
theorem dX0_copyFrom_20 : decode cX0_copyFrom 20 = .ok (.getfield 15, 3) := by decide +kernel
theorem dX0_copyFrom_23 : decode cX0_copyFrom 23 = .ok (.iconst 0, 1) := by decide +kernel
theorem dX0_copyFrom_24 : decode cX0_copyFrom 24 = .ok (.sipush 162, 3) := by decide +kernel
theorem dX0_copyFrom_27 : decode cX0_copyFrom 27 = .ok (.invokestatic 35, 3) := by decide +kernel
theorem dX0_copyFrom_30 : decode cX0_copyFrom 30 = .ok (.aload_n 1, 1) := by decide +kernel
theorem dX0_copyFrom_31 : decode cX0_copyFrom 31 = .ok (.getfield 18, 3) := by decide +kernel
theorem dX0_copyFrom_34 : decode cX0_copyFrom 34 = .ok (.iconst 0, 1) := by decide +kernel
theorem dX0_copyFrom_35 : decode cX0_copyFrom 35 = .ok (.aload_n 0, 1) := by decide +kernel
theorem dX0_copyFrom_36 : decode cX0_copyFrom 36 = .ok (.getfield 18, 3) := by decide +kernel
theorem dX0_copyFrom_39 : decode cX0_copyFrom 39 = .ok (.iconst 0, 1) := by decide +kernel
theorem dX0_copyFrom_40 : decode cX0_copyFrom 40 = .ok (.sipush 162, 3) := by decide +kernel
theorem dX0_copyFrom_43 : decode cX0_copyFrom 43 = .ok (.invokestatic 35, 3) := by decide +kernel
theorem dX0_copyFrom_46 : decode cX0_copyFrom 46 = .ok (.aload_n 0, 1) := by decide +kernel
theorem dX0_copyFrom_47 : decode cX0_copyFrom 47 = .ok (.aload_n 1, 1) := by decide +kernel
theorem dX0_copyFrom_48 : decode cX0_copyFrom 48 = .ok (.getfield 41, 3) := by decide +kernel
theorem dX0_copyFrom_51 : decode cX0_copyFrom 51 = .ok (.putfield 41, 3) := by decide +kernel
theorem dX0_copyFrom_54 : decode cX0_copyFrom 54 = .ok (.iconst 0, 1) := by decide +kernel
theorem dX0_copyFrom_55 : decode cX0_copyFrom 55 = .ok (.istore_n 2, 1) := by decide +kernel
theorem dX0_copyFrom_56 : decode cX0_copyFrom 56 = .ok (.iload_n 2, 1) := by decide +kernel
theorem dX0_copyFrom_57 : decode cX0_copyFrom 57 = .ok (.aload_n 0, 1) := by decide +kernel
theorem dX0_copyFrom_58 : decode cX0_copyFrom 58 = .ok (.getfield 41, 3) := by decide +kernel
theorem dX0_copyFrom_61 : decode cX0_copyFrom 61 = .ok (.if_icmp .ge 30, 3) := by decide +kernel
theorem dX0_copyFrom_64 : decode cX0_copyFrom 64 = .ok (.iload_n 2, 1) := by decide +kernel
theorem dX0_copyFrom_65 : decode cX0_copyFrom 65 = .ok (.bipush 6, 2) := by decide +kernel
theorem dX0_copyFrom_67 : decode cX0_copyFrom 67 = .ok (.if_icmp .ge 24, 3) := by decide +kernel
theorem dX0_copyFrom_70 : decode cX0_copyFrom 70 = .ok (.aload_n 0, 1) := by decide +kernel
theorem dX0_copyFrom_71 : decode cX0_copyFrom 71 = .ok (.getfield 23, 3) := by decide +kernel
theorem dX0_copyFrom_74 : decode cX0_copyFrom 74 = .ok (.iload_n 2, 1) := by decide +kernel
theorem dX0_copyFrom_75 : decode cX0_copyFrom 75 = .ok (.aaload, 1) := by decide +kernel
theorem dX0_copyFrom_76 : decode cX0_copyFrom 76 = .ok (.aload_n 1, 1) := by decide +kernel
theorem dX0_copyFrom_77 : decode cX0_copyFrom 77 = .ok (.getfield 23, 3) := by decide +kernel
theorem dX0_copyFrom_80 : decode cX0_copyFrom 80 = .ok (.iload_n 2, 1) := by decide +kernel
theorem dX0_copyFrom_81 : decode cX0_copyFrom 81 = .ok (.aaload, 1) := by decide +kernel
theorem dX0_copyFrom_82 : decode cX0_copyFrom 82 = .ok (.invokevirtual 45, 3) := by decide +kernel
theorem dX0_copyFrom_85 : decode cX0_copyFrom 85 = .ok (.iinc 2 1, 3) := by decide +kernel
theorem dX0_copyFrom_88 : decode cX0_copyFrom 88 = .ok (.goto (-32), 3) := by decide +kernel
theorem dX0_copyFrom_91 : decode cX0_copyFrom 91 = .ok (.aload_n 0, 1) := by decide +kernel
theorem dX0_copyFrom_92 : decode cX0_copyFrom 92 = .ok (.aload_n 1, 1) := by decide +kernel
theorem dX0_copyFrom_93 : decode cX0_copyFrom 93 = .ok (.getfield 49, 3) := by decide +kernel
theorem dX0_copyFrom_96 : decode cX0_copyFrom 96 = .ok (.putfield 49, 3) := by decide +kernel
theorem dX0_copyFrom_99 : decode cX0_copyFrom 99 = .ok (.iconst 0, 1) := by decide +kernel
theorem dX0_copyFrom_100 : decode cX0_copyFrom 100 = .ok (.istore_n 2, 1) := by decide +kernel
theorem dX0_copyFrom_101 : decode cX0_copyFrom 101 = .ok (.iload_n 2, 1) := by decide +kernel
theorem dX0_copyFrom_102 : decode cX0_copyFrom 102 = .ok (.aload_n 0, 1) := by decide +kernel
theorem dX0_copyFrom_103 : decode cX0_copyFrom 103 = .ok (.getfield 49, 3) := by decide +kernel
theorem dX0_copyFrom_106 : decode cX0_copyFrom 106 = .ok (.if_icmp .ge 30, 3) := by decide +kernel
theorem dX0_copyFrom_109 : decode cX0_copyFrom 109 = .ok (.iload_n 2, 1) := by decide +kernel
theorem dX0_copyFrom_110 : decode cX0_copyFrom 110 = .ok (.bipush 12, 2) := by decide +kernel
theorem dX0_copyFrom_112 : decode cX0_copyFrom 112 = .ok (.if_icmp .ge 24, 3) := by decide +kernel
theorem dX0_copyFrom_115 : decode cX0_copyFrom 115 = .ok (.aload_n 0, 1) := by decide +kernel
theorem dX0_copyFrom_116 : decode cX0_copyFrom 116 = .ok (.getfield 30, 3) := by decide +kernel
theorem dX0_copyFrom_119 : decode cX0_copyFrom 119 = .ok (.iload_n 2, 1) := by decide +kernel
theorem dX0_copyFrom_120 : decode cX0_copyFrom 120 = .ok (.aaload, 1) := by decide +kernel
theorem dX0_copyFrom_121 : decode cX0_copyFrom 121 = .ok (.aload_n 1, 1) := by decide +kernel
theorem dX0_copyFrom_122 : decode cX0_copyFrom 122 = .ok (.getfield 30, 3) := by decide +kernel
theorem dX0_copyFrom_125 : decode cX0_copyFrom 125 = .ok (.iload_n 2, 1) := by decide +kernel
theorem dX0_copyFrom_126 : decode cX0_copyFrom 126 = .ok (.aaload, 1) := by decide +kernel
theorem dX0_copyFrom_127 : decode cX0_copyFrom 127 = .ok (.invokevirtual 52, 3) := by decide +kernel
theorem dX0_copyFrom_130 : decode cX0_copyFrom 130 = .ok (.iinc 2 1, 3) := by decide +kernel
theorem dX0_copyFrom_133 : decode cX0_copyFrom 133 = .ok (.goto (-32), 3) := by decide +kernel
theorem dX0_copyFrom_136 : decode cX0_copyFrom 136 = .ok (.aload_n 0, 1) := by decide +kernel
theorem dX0_copyFrom_137 : decode cX0_copyFrom 137 = .ok (.aload_n 1, 1) := by decide +kernel
theorem dX0_copyFrom_138 : decode cX0_copyFrom 138 = .ok (.getfield 55, 3) := by decide +kernel
theorem dX0_copyFrom_141 : decode cX0_copyFrom 141 = .ok (.putfield 55, 3) := by decide +kernel
theorem dX0_copyFrom_144 : decode cX0_copyFrom 144 = .ok (.return_, 1) := by decide +kernel
abbrev rmX0_copyFrom : Room := { frames := 1, cells := 0, slots := 0, locals := 40 }
set_option maxRecDepth 20000 in
theorem in_X0_copyFrom_X0 : ∀ w ∈ wsX00, w ∈ wsX0_copyFrom := by decide +kernel

set_option maxRecDepth 100000 in
set_option maxHeartbeats 4000000 in
theorem c_X0_copyFrom {l : Launch} {g : Geo} {M : Nat → Nat → Int32} {P : Nat → Nat} {c d : Nat} (hc : c < 6) (hd6 : d < 6) (hcd : d ≠ c) {N K : Nat} (hG : GdX eC (M d) N K) : Met l yX0_copyFrom wsX0_copyFrom rmX0_copyFrom (cPre g [.ref (g.1 (24 * c)), .ref (g.1 (24 * d))] M P) (cQv g (fun M' P' => P = P' ∧ (∀ k, k ≠ c → M' k = M k) ∧ LvX (M d) (M' c) N K)) 0 0 (gA g) := by
  refine met_v (cc := cX0_copyFrom) (maxL := 3) (by decide) rfl ⟨rfl, rfl⟩ (Nat.le_of_ble_eq_true rfl) (fun x hx h hret => ?_)
  replace h : Cxk x g cX0_copyFrom 3 wsX0_copyFrom RX0 rmX0_copyFrom := h
  show X x 0 [(0, .ref (g.1 (24 * c))), (1, .ref (g.1 (24 * d)))] [] M P
  have hN := hG.1
  have hN6 := hG.2.1
  have hK := hG.2.2.1
  have hK12 := hG.2.2.2.1
  refine x_aload_n h 1 dX0_copyFrom_0 rfl rfl ?_
  refine xg_X0_0 h hd6 in_X0_copyFrom_X0 (by decide +kernel) dX0_copyFrom_1 ?_
  refine x_iconst h (nI 0) dX0_copyFrom_4 (by decide) ?_
  refine x_aload_n h 0 dX0_copyFrom_5 rfl rfl ?_
  refine xg_X0_0 h hc in_X0_copyFrom_X0 (by decide +kernel) dX0_copyFrom_6 ?_
  refine x_iconst h (nI 0) dX0_copyFrom_9 (by decide) ?_
  refine x_iconst h (nI 4) dX0_copyFrom_10 (by decide) ?_
  refine x_copyc h 1 4 0 hc hd6 (by decide) (by decide) (by rw [enc_c g _ P hd6 (o := 1) (by decide) rfl]; exact eC1 g _ d) (by rw [enc_c g _ P hc (o := 1) (by decide) rfl]; exact eC1 g _ c) (fun j hj => by unfold eDep; omega) (fun X => eC1 g X c) (by decide +kernel) ⟨Nat.le_of_ble_eq_true rfl, Nat.le_of_ble_eq_true rfl⟩ dX0_copyFrom_11 ?_
  obtain ⟨V1, hV1⟩ : ∃ q : Nat → Nat → Int32, q = va_up M c (fun j => if 0 ≤ j ∧ j < 0 + 4 then M d j else M c j) := ⟨_, rfl⟩
  refine x_mem V1 hV1.symm ?_
  have hn1 : ∀ k, k ≠ c → V1 k = M k := fun k hk => by rw [hV1, va_up_n _ _ hk]
  have hy1 : ∀ j, j < 4 → V1 c j = M d j := fun j hj => by rw [hV1, va_up_k]; exact if_pos (by omega)
  refine x_aload_n h 1 dX0_copyFrom_14 rfl rfl ?_
  refine xg_X0_1 h hd6 in_X0_copyFrom_X0 (by decide +kernel) dX0_copyFrom_15 ?_
  refine x_iconst h (nI 0) dX0_copyFrom_18 (by decide) ?_
  refine x_aload_n h 0 dX0_copyFrom_19 rfl rfl ?_
  refine xg_X0_1 h hc in_X0_copyFrom_X0 (by decide +kernel) dX0_copyFrom_20 ?_
  refine x_iconst h (nI 0) dX0_copyFrom_23 (by decide) ?_
  refine x_sipush h (nI 162) dX0_copyFrom_24 (by decide) ?_
  refine x_copyc h 2 162 7 hc hd6 (by decide) (by decide) (by rw [enc_c g _ P hd6 (o := 2) (by decide) rfl]; exact eC2 g _ d) (by rw [enc_c g _ P hc (o := 2) (by decide) rfl]; exact eC2 g _ c) (fun j hj => by unfold eDep; omega) (fun X => eC2 g X c) (by decide +kernel) ⟨Nat.le_of_ble_eq_true rfl, Nat.le_of_ble_eq_true rfl⟩ dX0_copyFrom_27 ?_
  obtain ⟨V2, hV2⟩ : ∃ q : Nat → Nat → Int32, q = va_up V1 c (fun j => if 7 ≤ j ∧ j < 7 + 162 then V1 d j else V1 c j) := ⟨_, rfl⟩
  refine x_mem V2 hV2.symm ?_
  have hn2 : ∀ k, k ≠ c → V2 k = M k := fun k hk => by rw [hV2, va_up_n _ _ hk]; exact hn1 k hk
  have hy2 : ∀ j, (j < 4 ∨ (7 ≤ j ∧ j < 169)) → V2 c j = M d j := fun j hj => by
    rw [hV2, va_up_k]
    by_cases e : 7 ≤ j ∧ j < 7 + 162
    · rw [if_pos e, hn1 d hcd]
    · rw [if_neg e]; exact hy1 j (by omega)
  refine x_aload_n h 1 dX0_copyFrom_30 rfl rfl ?_
  refine xg_X0_2 h hd6 in_X0_copyFrom_X0 (by decide +kernel) dX0_copyFrom_31 ?_
  refine x_iconst h (nI 0) dX0_copyFrom_34 (by decide) ?_
  refine x_aload_n h 0 dX0_copyFrom_35 rfl rfl ?_
  refine xg_X0_2 h hc in_X0_copyFrom_X0 (by decide +kernel) dX0_copyFrom_36 ?_
  refine x_iconst h (nI 0) dX0_copyFrom_39 (by decide) ?_
  refine x_sipush h (nI 162) dX0_copyFrom_40 (by decide) ?_
  refine x_copyc h 3 162 400 hc hd6 (by decide) (by decide) (by rw [enc_c g _ P hd6 (o := 3) (by decide) rfl]; exact eC3 g _ d) (by rw [enc_c g _ P hc (o := 3) (by decide) rfl]; exact eC3 g _ c) (fun j hj => by unfold eDep; omega) (fun X => eC3 g X c) (by decide +kernel) ⟨Nat.le_of_ble_eq_true rfl, Nat.le_of_ble_eq_true rfl⟩ dX0_copyFrom_43 ?_
  obtain ⟨V3, hV3⟩ : ∃ q : Nat → Nat → Int32, q = va_up V2 c (fun j => if 400 ≤ j ∧ j < 400 + 162 then V2 d j else V2 c j) := ⟨_, rfl⟩
  refine x_mem V3 hV3.symm ?_
  have hn3 : ∀ k, k ≠ c → V3 k = M k := fun k hk => by rw [hV3, va_up_n _ _ hk]; exact hn2 k hk
  have hy3 : ∀ j, (j < 4 ∨ (7 ≤ j ∧ j < 169) ∨ (400 ≤ j ∧ j < 562)) → V3 c j = M d j := fun j hj => by
    rw [hV3, va_up_k]
    by_cases e : 400 ≤ j ∧ j < 400 + 162
    · rw [if_pos e, hn2 d hcd]
    · rw [if_neg e]; exact hy2 j (by omega)
  refine x_aload_n h 0 dX0_copyFrom_46 rfl rfl ?_
  refine x_aload_n h 1 dX0_copyFrom_47 rfl rfl ?_
  refine xg_X0_5 h hd6 in_X0_copyFrom_X0 (by decide +kernel) dX0_copyFrom_48 ?_
  refine x_top (nI N) (by rw [hn3 d hcd]; exact hN) ?_
  refine xp_X0_5 h hc in_X0_copyFrom_X0 (by decide +kernel) dX0_copyFrom_51 ?_
  refine x_iconst h (nI 0) dX0_copyFrom_54 (by decide) ?_
  refine x_istore_n h [(2, .int (nI 0)), (0, .ref (g.1 (24 * c))), (1, .ref (g.1 (24 * d)))] dX0_copyFrom_55 rfl (by decide) rfl ?_
  have L56 : ∀ (fu : Nat) (i : Nat) (W : Nat → Nat → Int32), (N - i) < fu → (i ≤ N) → (∀ k, k ≠ c → W k = M k) → (∀ j, (j < 4 ∨ j = 5 ∨ (7 ≤ j ∧ j < 169) ∨ (400 ≤ j ∧ j < 562)) → W c j = M d j) → (∀ k, k < i → ∀ j, j < 9 → W c (169 + 9 * k + j) = M d (169 + 9 * k + j)) → X x 56 [(0, .ref (g.1 (24 * c))), (1, .ref (g.1 (24 * d))), (2, .int (nI i))] [] W P := by
    intro fu
    induction fu with
    | zero => intro i W hmu56; exact absurd hmu56 (Nat.not_lt_zero _)
    | succ fu ih56 =>
      intro i W hmu56 hi hWn hWf hWr
      refine x_iload_n h 2 dX0_copyFrom_56 rfl rfl ?_
      refine x_aload_n h 0 dX0_copyFrom_57 rfl rfl ?_
      refine xg_X0_5 h hc in_X0_copyFrom_X0 (by decide +kernel) dX0_copyFrom_58 ?_
      refine x_top (nI N) (by rw [hWf 5 (by omega)]; exact hN) ?_
      refine x_icmp_ge_n h 91 dX0_copyFrom_61 (by decide) (by omega) (by omega) (fun c_61 => ?_) (fun c_61 => ?_)
      · -- 61 true
        refine x_aload_n h 0 dX0_copyFrom_91 rfl rfl ?_
        refine x_aload_n h 1 dX0_copyFrom_92 rfl rfl ?_
        refine xg_X0_6 h hd6 in_X0_copyFrom_X0 (by decide +kernel) dX0_copyFrom_93 ?_
        refine x_top (nI K) (by rw [hWn d hcd]; exact hK) ?_
        refine xp_X0_6 h hc in_X0_copyFrom_X0 (by decide +kernel) dX0_copyFrom_96 ?_
        refine x_iconst h (nI 0) dX0_copyFrom_99 (by decide) ?_
        refine x_istore_n h [(2, .int (nI 0)), (0, .ref (g.1 (24 * c))), (1, .ref (g.1 (24 * d)))] dX0_copyFrom_100 rfl (by decide) rfl ?_
        have L101 : ∀ (fu : Nat) (i2 : Nat) (W2 : Nat → Nat → Int32), (K - i2) < fu → (i2 ≤ K) → (∀ k, k ≠ c → W2 k = M k) → (∀ j, (j < 4 ∨ j = 5 ∨ j = 6 ∨ (7 ≤ j ∧ j < 169) ∨ (400 ≤ j ∧ j < 562)) → W2 c j = M d j) → (∀ k, k < N → ∀ j, j < 9 → W2 c (169 + 9 * k + j) = M d (169 + 9 * k + j)) → (∀ k, k < i2 → ∀ j, j < 7 → W2 c (223 + 13 * k + j) = M d (223 + 13 * k + j)) → X x 101 [(0, .ref (g.1 (24 * c))), (1, .ref (g.1 (24 * d))), (2, .int (nI i2))] [] W2 P := by
          intro fu
          induction fu with
          | zero => intro i2 W2 hmu101; exact absurd hmu101 (Nat.not_lt_zero _)
          | succ fu ih101 =>
            intro i2 W2 hmu101 hi2 hWn2 hWf2 hWr2 hWc2
            refine x_iload_n h 2 dX0_copyFrom_101 rfl rfl ?_
            refine x_aload_n h 0 dX0_copyFrom_102 rfl rfl ?_
            refine xg_X0_6 h hc in_X0_copyFrom_X0 (by decide +kernel) dX0_copyFrom_103 ?_
            refine x_top (nI K) (by rw [hWf2 6 (by omega)]; exact hK) ?_
            refine x_icmp_ge_n h 136 dX0_copyFrom_106 (by decide) (by omega) (by omega) (fun c_106 => ?_) (fun c_106 => ?_)
            · -- 106 true
              refine x_aload_n h 0 dX0_copyFrom_136 rfl rfl ?_
              refine x_aload_n h 1 dX0_copyFrom_137 rfl rfl ?_
              refine xg_X0_7 h hd6 in_X0_copyFrom_X0 (by decide +kernel) dX0_copyFrom_138 ?_
              refine x_top ((M d 4)) (by rw [hWn2 d hcd]) ?_
              refine xp_X0_7 h hc in_X0_copyFrom_X0 (by decide +kernel) dX0_copyFrom_141 ?_
              exact hret _ _ _ _ dX0_copyFrom_144 (by 
                                  refine ⟨rfl, fun k hk => by rw [st2_n _ _ _ hk]; exact hWn2 k hk, fun j hj => ?_, fun k hk j hj => by rw [st2_k, pk_un (by omega)]; exact hWr2 k hk j hj, fun k hk j hj => by rw [st2_k, pk_un (by omega)]; exact hWc2 k (by omega) j hj⟩
                                  rw [st2_k]
                                  by_cases e : j = 4
                                  · rw [e, pk_us]
                                  · rw [pk_un e]; exact hWf2 j (by omega))
            · -- 106 false
              refine x_iload_n h 2 dX0_copyFrom_109 rfl rfl ?_
              refine x_bipush h (nI 12) dX0_copyFrom_110 (by decide) ?_
              refine x_icmp_ge_n h 136 dX0_copyFrom_112 (by decide) (by omega) (by decide) (fun c_112 => by omega) (fun c_112 => ?_)
              refine x_aload_n h 0 dX0_copyFrom_115 rfl rfl ?_
              refine xg_X0_4 h hc in_X0_copyFrom_X0 (by decide +kernel) dX0_copyFrom_116 ?_
              refine x_iload_n h 2 dX0_copyFrom_119 rfl rfl ?_
              refine xa_clms h hc dX0_copyFrom_120 (by omega) ?_
              refine x_aload_n h 1 dX0_copyFrom_121 rfl rfl ?_
              refine xg_X0_4 h hd6 in_X0_copyFrom_X0 (by decide +kernel) dX0_copyFrom_122 ?_
              refine x_iload_n h 2 dX0_copyFrom_125 rfl rfl ?_
              refine xa_clms h hd6 dX0_copyFrom_126 (by omega) ?_
              refine x_callVv h (As := [.ref (g.1 (24 * d + 12 + i2))]) 1 hx (c_X1_copyFrom hc hd6 hcd (by omega)) gX0_copyFrom_X1_copyFrom rfl ⟨rfl, rfl⟩ (by decide +kernel) rfl (by decide) (hk_clm hc (by omega)) (E_clm hc (by omega)) rfl rfl (Nat.le_of_ble_eq_true rfl) dX0_copyFrom_127 (fun M127 P' hp => ?_)
              obtain ⟨rfl, ha127, hb127, hd127⟩ := hp
              refine x_iinc_n h 2 (n := 1) [(2, .int (nI (i2 + 1))), (0, .ref (g.1 (24 * c))), (1, .ref (g.1 (24 * d)))] dX0_copyFrom_130 rfl (by decide) rfl ?_
              refine x_goto h 101 dX0_copyFrom_133 (by decide) ?_
              exact x_lv (ih101 (i2 + 1) M127 (by omega) (by omega) (by exact fun k hk => (ha127 k hk).trans (hWn2 k hk)) (by intro j hj; rw [hd127 j (by omega)]; exact hWf2 j hj) (by intro k hk j hj; rw [hd127 _ (by omega)]; exact hWr2 k hk j hj) (by intro k hk j hj; by_cases e : k = i2; subst e; rw [hb127 j hj, hWn2 d hcd]; rw [hd127 _ (by omega)]; exact hWc2 k (by omega) j hj)) [1, 2, 0] rfl
        exact x_lv (L101 _ 0 (st2 W c 6 (nI K)) (Nat.lt_succ_self _) (by omega) (by intro k hk; rw [st2_n _ _ _ hk]; exact hWn k hk) (by intro j hj; rw [st2_k]; by_cases e : j = 6; rw [e, pk_us, hK]; rw [pk_un e]; exact hWf j (by omega)) (by intro k hk j hj; rw [st2_k, pk_un (by omega)]; exact hWr k (by omega) j hj) (by exact fun k hk => absurd hk (Nat.not_lt_zero k))) [1, 2, 0] rfl
      · -- 61 false
        refine x_iload_n h 2 dX0_copyFrom_64 rfl rfl ?_
        refine x_bipush h (nI 6) dX0_copyFrom_65 (by decide) ?_
        refine x_icmp_ge_n h 91 dX0_copyFrom_67 (by decide) (by omega) (by decide) (fun c_67 => by omega) (fun c_67 => ?_)
        refine x_aload_n h 0 dX0_copyFrom_70 rfl rfl ?_
        refine xg_X0_3 h hc in_X0_copyFrom_X0 (by decide +kernel) dX0_copyFrom_71 ?_
        refine x_iload_n h 2 dX0_copyFrom_74 rfl rfl ?_
        refine xa_nets h hc dX0_copyFrom_75 (by omega) ?_
        refine x_aload_n h 1 dX0_copyFrom_76 rfl rfl ?_
        refine xg_X0_3 h hd6 in_X0_copyFrom_X0 (by decide +kernel) dX0_copyFrom_77 ?_
        refine x_iload_n h 2 dX0_copyFrom_80 rfl rfl ?_
        refine xa_nets h hd6 dX0_copyFrom_81 (by omega) ?_
        refine x_callVv h (As := [.ref (g.1 (24 * d + 5 + i))]) 1 hx (c_X2_copyFrom hc hd6 hcd (by omega) (by rw [hWn d hcd]; exact (hG.net (by omega)).2.2.2.2.2.1)) gX0_copyFrom_X2_copyFrom rfl ⟨rfl, rfl⟩ (by decide +kernel) rfl (by decide) (hk_net hc (by omega)) (E_net hc (by omega)) rfl rfl (Nat.le_of_ble_eq_true rfl) dX0_copyFrom_82 (fun M82 P' hp => ?_)
        obtain ⟨rfl, ha82, hb82, hd82⟩ := hp
        refine x_iinc_n h 2 (n := 1) [(2, .int (nI (i + 1))), (0, .ref (g.1 (24 * c))), (1, .ref (g.1 (24 * d)))] dX0_copyFrom_85 rfl (by decide) rfl ?_
        refine x_goto h 56 dX0_copyFrom_88 (by decide) ?_
        exact x_lv (ih56 (i + 1) M82 (by omega) (by omega) (by exact fun k hk => (ha82 k hk).trans (hWn k hk)) (by intro j hj; rw [hd82 j (by omega)]; exact hWf j hj) (by intro k hk j hj; by_cases e : k = i; subst e; rw [hb82 j hj, hWn d hcd]; rw [hd82 _ (by omega)]; exact hWr k (by omega) j hj)) [1, 2, 0] rfl
  exact x_lv (L56 _ 0 (st2 V3 c 5 (nI N)) (Nat.lt_succ_self _) (by omega) (by intro k hk; rw [st2_n _ _ _ hk]; exact hn3 k hk) (by intro j hj; rw [st2_k]; by_cases e : j = 5; rw [e, pk_us, hN]; rw [pk_un e]; exact hy3 j (by omega)) (by exact fun k hk => absurd hk (Nat.not_lt_zero k))) [1, 2, 0] rfl

set_option maxRecDepth 20000 in
theorem ggX0_addNet_X0_isPlace : GoodIn wsX0_addNet wsX0_isPlace := goodIn_r _ [18] (by decide +kernel) (by decide +kernel)
set_option maxRecDepth 20000 in
theorem gX0_addNet_X0_isPlace : GoodIn wsX0_addNet (va_wsS RX0 70 yX0_isPlace wsX0_isPlace) := goodIn_app (goodIn_of _ (by decide +kernel)) ggX0_addNet_X0_isPlace
set_option maxRecDepth 20000 in
theorem ggX0_addNet_X0_isFreePlace : GoodIn wsX0_addNet wsX0_isFreePlace := goodIn_r _ [22, 23, 15, 16, 17, 18, 28, 29, 30, 31, 32, 33, 34, 35] (by decide +kernel) (by decide +kernel)
set_option maxRecDepth 20000 in
theorem gX0_addNet_X0_isFreePlace : GoodIn wsX0_addNet (wsV RX0 74 RX0 yX0_isFreePlace wsX0_isFreePlace) := goodIn_app (goodIn_of _ (by decide +kernel)) ggX0_addNet_X0_isFreePlace
set_option maxRecDepth 20000 in
theorem ggX0_addNet_X0_setPin : GoodIn wsX0_addNet wsX0_setPin := goodIn_r _ [27, 23, 15, 16, 17, 18, 28, 29, 30, 31, 32, 33, 34, 35] (by decide +kernel) (by decide +kernel)
set_option maxRecDepth 20000 in
theorem gX0_addNet_X0_setPin : GoodIn wsX0_addNet (wsV RX0 78 RX0 yX0_setPin wsX0_setPin) := goodIn_app (goodIn_of _ (by decide +kernel)) ggX0_addNet_X0_setPin
theorem dX0_addNet_0 : decode cX0_addNet 0 = .ok (.iload_n 1, 1) := by decide +kernel
theorem dX0_addNet_1 : decode cX0_addNet 1 = .ok (.invokestatic 70, 3) := by decide +kernel
theorem dX0_addNet_4 : decode cX0_addNet 4 = .ok (.ifCond .eq 22, 3) := by decide +kernel
theorem dX0_addNet_7 : decode cX0_addNet 7 = .ok (.iload_n 2, 1) := by decide +kernel
theorem dX0_addNet_8 : decode cX0_addNet 8 = .ok (.invokestatic 70, 3) := by decide +kernel
theorem dX0_addNet_11 : decode cX0_addNet 11 = .ok (.ifCond .eq 15, 3) := by decide +kernel
theorem dX0_addNet_14 : decode cX0_addNet 14 = .ok (.iload_n 3, 1) := by decide +kernel
theorem dX0_addNet_15 : decode cX0_addNet 15 = .ok (.iconst (-1), 1) := by decide +kernel
theorem dX0_addNet_16 : decode cX0_addNet 16 = .ok (.if_icmp .eq 13, 3) := by decide +kernel
theorem dX0_addNet_19 : decode cX0_addNet 19 = .ok (.iload_n 3, 1) := by decide +kernel
theorem dX0_addNet_20 : decode cX0_addNet 20 = .ok (.invokestatic 70, 3) := by decide +kernel
theorem dX0_addNet_23 : decode cX0_addNet 23 = .ok (.ifCond .ne 6, 3) := by decide +kernel
theorem dX0_addNet_26 : decode cX0_addNet 26 = .ok (.ldc 64, 2) := by decide +kernel
theorem dX0_addNet_28 : decode cX0_addNet 28 = .ok (.ireturn, 1) := by decide +kernel
theorem dX0_addNet_29 : decode cX0_addNet 29 = .ok (.iload_n 1, 1) := by decide +kernel
theorem dX0_addNet_30 : decode cX0_addNet 30 = .ok (.iload_n 2, 1) := by decide +kernel
theorem dX0_addNet_31 : decode cX0_addNet 31 = .ok (.if_icmp .eq 13, 3) := by decide +kernel
theorem dX0_addNet_34 : decode cX0_addNet 34 = .ok (.iload_n 1, 1) := by decide +kernel
theorem dX0_addNet_35 : decode cX0_addNet 35 = .ok (.iload_n 3, 1) := by decide +kernel
theorem dX0_addNet_36 : decode cX0_addNet 36 = .ok (.if_icmp .eq 8, 3) := by decide +kernel
theorem dX0_addNet_39 : decode cX0_addNet 39 = .ok (.iload_n 2, 1) := by decide +kernel
theorem dX0_addNet_40 : decode cX0_addNet 40 = .ok (.iload_n 3, 1) := by decide +kernel
theorem dX0_addNet_41 : decode cX0_addNet 41 = .ok (.if_icmp .ne 6, 3) := by decide +kernel
theorem dX0_addNet_44 : decode cX0_addNet 44 = .ok (.ldc 64, 2) := by decide +kernel
theorem dX0_addNet_46 : decode cX0_addNet 46 = .ok (.ireturn, 1) := by decide +kernel
theorem dX0_addNet_47 : decode cX0_addNet 47 = .ok (.iload 4, 2) := by decide +kernel
theorem dX0_addNet_49 : decode cX0_addNet 49 = .ok (.ifCond .lt 23, 3) := by decide +kernel
theorem dX0_addNet_52 : decode cX0_addNet 52 = .ok (.iload 4, 2) := by decide +kernel
theorem dX0_addNet_54 : decode cX0_addNet 54 = .ok (.bipush 9, 2) := by decide +kernel
theorem dX0_addNet_56 : decode cX0_addNet 56 = .ok (.if_icmp .gt 16, 3) := by decide +kernel
theorem dX0_addNet_59 : decode cX0_addNet 59 = .ok (.iload 5, 2) := by decide +kernel
theorem dX0_addNet_61 : decode cX0_addNet 61 = .ok (.ifCond .lt 11, 3) := by decide +kernel
theorem dX0_addNet_64 : decode cX0_addNet 64 = .ok (.iload 5, 2) := by decide +kernel
theorem dX0_addNet_66 : decode cX0_addNet 66 = .ok (.sipush 9999, 3) := by decide +kernel
theorem dX0_addNet_69 : decode cX0_addNet 69 = .ok (.if_icmp .le 6, 3) := by decide +kernel
theorem dX0_addNet_72 : decode cX0_addNet 72 = .ok (.ldc 64, 2) := by decide +kernel
theorem dX0_addNet_74 : decode cX0_addNet 74 = .ok (.ireturn, 1) := by decide +kernel
theorem dX0_addNet_75 : decode cX0_addNet 75 = .ok (.aload_n 0, 1) := by decide +kernel
theorem dX0_addNet_76 : decode cX0_addNet 76 = .ok (.iload_n 1, 1) := by decide +kernel
theorem dX0_addNet_77 : decode cX0_addNet 77 = .ok (.invokevirtual 74, 3) := by decide +kernel
theorem dX0_addNet_80 : decode cX0_addNet 80 = .ok (.ifCond .eq 24, 3) := by decide +kernel
theorem dX0_addNet_83 : decode cX0_addNet 83 = .ok (.aload_n 0, 1) := by decide +kernel
theorem dX0_addNet_84 : decode cX0_addNet 84 = .ok (.iload_n 2, 1) := by decide +kernel
theorem dX0_addNet_85 : decode cX0_addNet 85 = .ok (.invokevirtual 74, 3) := by decide +kernel
theorem dX0_addNet_88 : decode cX0_addNet 88 = .ok (.ifCond .eq 16, 3) := by decide +kernel
theorem dX0_addNet_91 : decode cX0_addNet 91 = .ok (.iload_n 3, 1) := by decide +kernel
theorem dX0_addNet_92 : decode cX0_addNet 92 = .ok (.iconst (-1), 1) := by decide +kernel
theorem dX0_addNet_93 : decode cX0_addNet 93 = .ok (.if_icmp .eq 14, 3) := by decide +kernel
theorem dX0_addNet_96 : decode cX0_addNet 96 = .ok (.aload_n 0, 1) := by decide +kernel
theorem dX0_addNet_97 : decode cX0_addNet 97 = .ok (.iload_n 3, 1) := by decide +kernel
theorem dX0_addNet_98 : decode cX0_addNet 98 = .ok (.invokevirtual 74, 3) := by decide +kernel
theorem dX0_addNet_101 : decode cX0_addNet 101 = .ok (.ifCond .ne 6, 3) := by decide +kernel
theorem dX0_addNet_104 : decode cX0_addNet 104 = .ok (.ldc 65, 2) := by decide +kernel
theorem dX0_addNet_106 : decode cX0_addNet 106 = .ok (.ireturn, 1) := by decide +kernel
theorem dX0_addNet_107 : decode cX0_addNet 107 = .ok (.aload_n 0, 1) := by decide +kernel
theorem dX0_addNet_108 : decode cX0_addNet 108 = .ok (.getfield 41, 3) := by decide +kernel
theorem dX0_addNet_111 : decode cX0_addNet 111 = .ok (.bipush 6, 2) := by decide +kernel
theorem dX0_addNet_113 : decode cX0_addNet 113 = .ok (.if_icmp .lt 6, 3) := by decide +kernel
theorem dX0_addNet_116 : decode cX0_addNet 116 = .ok (.ldc 77, 2) := by decide +kernel
theorem dX0_addNet_118 : decode cX0_addNet 118 = .ok (.ireturn, 1) := by decide +kernel
theorem dX0_addNet_119 : decode cX0_addNet 119 = .ok (.aload_n 0, 1) := by decide +kernel
theorem dX0_addNet_120 : decode cX0_addNet 120 = .ok (.getfield 41, 3) := by decide +kernel
theorem dX0_addNet_123 : decode cX0_addNet 123 = .ok (.istore 6, 2) := by decide +kernel
theorem dX0_addNet_125 : decode cX0_addNet 125 = .ok (.aload_n 0, 1) := by decide +kernel
theorem dX0_addNet_126 : decode cX0_addNet 126 = .ok (.dup, 1) := by decide +kernel
theorem dX0_addNet_127 : decode cX0_addNet 127 = .ok (.getfield 41, 3) := by decide +kernel
theorem dX0_addNet_130 : decode cX0_addNet 130 = .ok (.iconst 1, 1) := by decide +kernel
theorem dX0_addNet_131 : decode cX0_addNet 131 = .ok (.iadd, 1) := by decide +kernel
theorem dX0_addNet_132 : decode cX0_addNet 132 = .ok (.putfield 41, 3) := by decide +kernel
theorem dX0_addNet_135 : decode cX0_addNet 135 = .ok (.aload_n 0, 1) := by decide +kernel
theorem dX0_addNet_136 : decode cX0_addNet 136 = .ok (.iload_n 1, 1) := by decide +kernel
theorem dX0_addNet_137 : decode cX0_addNet 137 = .ok (.iload 6, 2) := by decide +kernel
theorem dX0_addNet_139 : decode cX0_addNet 139 = .ok (.invokevirtual 78, 3) := by decide +kernel
theorem dX0_addNet_142 : decode cX0_addNet 142 = .ok (.aload_n 0, 1) := by decide +kernel
theorem dX0_addNet_143 : decode cX0_addNet 143 = .ok (.iload_n 2, 1) := by decide +kernel
theorem dX0_addNet_144 : decode cX0_addNet 144 = .ok (.iload 6, 2) := by decide +kernel
theorem dX0_addNet_146 : decode cX0_addNet 146 = .ok (.invokevirtual 78, 3) := by decide +kernel
theorem dX0_addNet_149 : decode cX0_addNet 149 = .ok (.aload_n 0, 1) := by decide +kernel
theorem dX0_addNet_150 : decode cX0_addNet 150 = .ok (.iload_n 3, 1) := by decide +kernel
theorem dX0_addNet_151 : decode cX0_addNet 151 = .ok (.iload 6, 2) := by decide +kernel
theorem dX0_addNet_153 : decode cX0_addNet 153 = .ok (.invokevirtual 78, 3) := by decide +kernel
theorem dX0_addNet_156 : decode cX0_addNet 156 = .ok (.aload_n 0, 1) := by decide +kernel
theorem dX0_addNet_157 : decode cX0_addNet 157 = .ok (.getfield 23, 3) := by decide +kernel
theorem dX0_addNet_160 : decode cX0_addNet 160 = .ok (.iload 6, 2) := by decide +kernel
theorem dX0_addNet_162 : decode cX0_addNet 162 = .ok (.aaload, 1) := by decide +kernel
theorem dX0_addNet_163 : decode cX0_addNet 163 = .ok (.astore 7, 2) := by decide +kernel
theorem dX0_addNet_165 : decode cX0_addNet 165 = .ok (.aload 7, 2) := by decide +kernel
theorem dX0_addNet_167 : decode cX0_addNet 167 = .ok (.iload_n 1, 1) := by decide +kernel
theorem dX0_addNet_168 : decode cX0_addNet 168 = .ok (.putfield 82, 3) := by decide +kernel
theorem dX0_addNet_171 : decode cX0_addNet 171 = .ok (.aload 7, 2) := by decide +kernel
theorem dX0_addNet_173 : decode cX0_addNet 173 = .ok (.iload_n 2, 1) := by decide +kernel
theorem dX0_addNet_174 : decode cX0_addNet 174 = .ok (.putfield 85, 3) := by decide +kernel
theorem dX0_addNet_177 : decode cX0_addNet 177 = .ok (.aload 7, 2) := by decide +kernel
theorem dX0_addNet_179 : decode cX0_addNet 179 = .ok (.iload_n 3, 1) := by decide +kernel
theorem dX0_addNet_180 : decode cX0_addNet 180 = .ok (.putfield 88, 3) := by decide +kernel
theorem dX0_addNet_183 : decode cX0_addNet 183 = .ok (.aload 7, 2) := by decide +kernel
theorem dX0_addNet_185 : decode cX0_addNet 185 = .ok (.iload 4, 2) := by decide +kernel
theorem dX0_addNet_187 : decode cX0_addNet 187 = .ok (.putfield 91, 3) := by decide +kernel
theorem dX0_addNet_190 : decode cX0_addNet 190 = .ok (.aload 7, 2) := by decide +kernel
theorem dX0_addNet_192 : decode cX0_addNet 192 = .ok (.iload 5, 2) := by decide +kernel
theorem dX0_addNet_194 : decode cX0_addNet 194 = .ok (.putfield 94, 3) := by decide +kernel
theorem dX0_addNet_197 : decode cX0_addNet 197 = .ok (.aload 7, 2) := by decide +kernel
theorem dX0_addNet_199 : decode cX0_addNet 199 = .ok (.iconst 0, 1) := by decide +kernel
theorem dX0_addNet_200 : decode cX0_addNet 200 = .ok (.putfield 97, 3) := by decide +kernel
theorem dX0_addNet_203 : decode cX0_addNet 203 = .ok (.aload 7, 2) := by decide +kernel
theorem dX0_addNet_205 : decode cX0_addNet 205 = .ok (.iconst 0, 1) := by decide +kernel
theorem dX0_addNet_206 : decode cX0_addNet 206 = .ok (.putfield 101, 3) := by decide +kernel
theorem dX0_addNet_209 : decode cX0_addNet 209 = .ok (.aload 7, 2) := by decide +kernel
theorem dX0_addNet_211 : decode cX0_addNet 211 = .ok (.iconst 0, 1) := by decide +kernel
theorem dX0_addNet_212 : decode cX0_addNet 212 = .ok (.putfield 104, 3) := by decide +kernel
theorem dX0_addNet_215 : decode cX0_addNet 215 = .ok (.aload 7, 2) := by decide +kernel
theorem dX0_addNet_217 : decode cX0_addNet 217 = .ok (.iconst 0, 1) := by decide +kernel
theorem dX0_addNet_218 : decode cX0_addNet 218 = .ok (.putfield 107, 3) := by decide +kernel
theorem dX0_addNet_221 : decode cX0_addNet 221 = .ok (.iload 6, 2) := by decide +kernel
theorem dX0_addNet_223 : decode cX0_addNet 223 = .ok (.ireturn, 1) := by decide +kernel
abbrev rmX0_addNet : Room := { frames := 2, cells := 0, slots := 0, locals := 42 }
set_option maxRecDepth 20000 in
theorem in_X0_addNet_X0 : ∀ w ∈ wsX00, w ∈ wsX0_addNet := by decide +kernel
set_option maxRecDepth 20000 in
theorem in_X0_addNet_X2 : ∀ w ∈ wsX20, w ∈ wsX0_addNet := by decide +kernel

set_option maxRecDepth 100000 in
set_option maxHeartbeats 8000000 in
theorem c_X0_addNet {l : Launch} {g : Geo} {M : Nat → Nat → Int32} {P : Nat → Nat} {c : Nat} (hc : c < 6) {N : Nat} (hN : M c 5 = nI N) (hN6 : N ≤ 6) {p0 p1 p2 s u : Int32} : Met l yX0_addNet wsX0_addNet rmX0_addNet (cPre g [.ref (g.1 (24 * c)), .int p0, .int p1, .int p2, .int s, .int u] M P) (cQi g (fun r M' P' => P = P' ∧ ∃ X', netQ eC (M c) N p0 p1 p2 s u r X' ∧ M' = va_up M c X')) 0 0 (gA g) := by
  refine met_i (cc := cX0_addNet) (maxL := 8) (by decide) rfl ⟨rfl, rfl⟩ (Nat.le_of_ble_eq_true rfl) (fun x hx h hret => ?_)
  replace h : Cxk x g cX0_addNet 8 wsX0_addNet RX0 rmX0_addNet := h
  show X x 0 [(0, .ref (g.1 (24 * c))), (1, .int p0), (2, .int p1), (3, .int p2), (4, .int s), (5, .int u)] [] M P
  refine x_iload_n h 1 dX0_addNet_0 rfl rfl ?_
  refine x_callS h (As := [.int p0]) 1 hx (c_X0_isPlace) gX0_addNet_X0_isPlace rfl ⟨rfl, rfl⟩ (by decide +kernel) rfl (by decide) (Nat.le_of_ble_eq_true rfl) dX0_addNet_1 (fun rv M' P' hp => ?_)
  obtain ⟨⟨rfl, rfl⟩, hp⟩ := hp
  rcases hp with ⟨⟨k1, hk1, rfl⟩, rfl⟩ | ⟨nk1, rfl⟩
  · -- call 1
    refine x_if_eq h 26 dX0_addNet_4 (by decide) (fun c => absurd c (by decide)) (fun _ => ?_)
    refine x_iload_n h 2 dX0_addNet_7 rfl rfl ?_
    refine x_callS h (As := [.int p1]) 1 hx (c_X0_isPlace) gX0_addNet_X0_isPlace rfl ⟨rfl, rfl⟩ (by decide +kernel) rfl (by decide) (Nat.le_of_ble_eq_true rfl) dX0_addNet_8 (fun rv M' P' hp => ?_)
    obtain ⟨⟨rfl, rfl⟩, hp⟩ := hp
    rcases hp with ⟨⟨k8, hk8, rfl⟩, rfl⟩ | ⟨nk8, rfl⟩
    · -- call 8
      refine x_if_eq h 26 dX0_addNet_11 (by decide) (fun c => absurd c (by decide)) (fun _ => ?_)
      refine x_iload_n h 3 dX0_addNet_14 rfl rfl ?_
      refine x_iconst h ((-1)) dX0_addNet_15 (by decide) ?_
      refine x_icmp_eq h 29 dX0_addNet_16 (by decide) (fun c_16 => ?_) (fun c_16 => ?_)
      · -- 16 true
        subst c_16
        refine x_iload_n h 1 dX0_addNet_29 rfl rfl ?_
        refine x_iload_n h 2 dX0_addNet_30 rfl rfl ?_
        refine x_icmp_eq_n h 44 dX0_addNet_31 (by decide) (by omega) (by omega) (fun c_31 => ?_) (fun c_31 => ?_)
        · -- 31 true
          refine x_ldc h ((-1000001)) (by decide +kernel) dX0_addNet_44 ?_
          exact hret _ _ _ _ _ dX0_addNet_46 (by refine ⟨rfl, _, Or.inl ⟨fun q => ?_, rfl, rfl⟩, (va_up_id _ _).symm⟩; first | exact nk1 q.1 | exact nk8 q.2.1 | exact (q.2.2.1.elim c_16 nk20) | exact q.2.2.2.1 (by rw [c_31]) | exact q.2.2.2.2.1 (by rw [c_36]) | exact q.2.2.2.2.2.1 (by rw [c_41]) | exact q.2.2.2.2.2.2.1 c_49 | exact absurd c_56 (Int32.not_lt.mpr q.2.2.2.2.2.2.2.1) | exact q.2.2.2.2.2.2.2.2.1 c_61 | exact c_69 q.2.2.2.2.2.2.2.2.2)
        · -- 31 false
          refine x_iload_n h 1 dX0_addNet_34 rfl rfl ?_
          refine x_iload_n h 3 dX0_addNet_35 rfl rfl ?_
          refine x_icmp_eq h 44 dX0_addNet_36 (by decide) (fun c_36 => by exact absurd c_36.symm (m1_ne (by omega))) (fun c_36 => ?_)
          refine x_iload_n h 2 dX0_addNet_39 rfl rfl ?_
          refine x_iload_n h 3 dX0_addNet_40 rfl rfl ?_
          refine x_icmp_ne h 47 dX0_addNet_41 (by decide) (fun c_41 => ?_) (fun c_41 => by exact absurd c_41.symm (m1_ne (by omega)))
          refine x_iload h 4 dX0_addNet_47 rfl ?_
          refine x_if_lt h 72 dX0_addNet_49 (by decide) (fun c_49 => ?_) (fun c_49 => ?_)
          · -- 49 true
            refine x_ldc h ((-1000001)) (by decide +kernel) dX0_addNet_72 ?_
            exact hret _ _ _ _ _ dX0_addNet_74 (by refine ⟨rfl, _, Or.inl ⟨fun q => ?_, rfl, rfl⟩, (va_up_id _ _).symm⟩; first | exact nk1 q.1 | exact nk8 q.2.1 | exact (q.2.2.1.elim c_16 nk20) | exact q.2.2.2.1 (by rw [c_31]) | exact q.2.2.2.2.1 (by rw [c_36]) | exact q.2.2.2.2.2.1 (by rw [c_41]) | exact q.2.2.2.2.2.2.1 c_49 | exact absurd c_56 (Int32.not_lt.mpr q.2.2.2.2.2.2.2.1) | exact q.2.2.2.2.2.2.2.2.1 c_61 | exact c_69 q.2.2.2.2.2.2.2.2.2)
          · -- 49 false
            refine x_iload h 4 dX0_addNet_52 rfl ?_
            refine x_bipush h (nI 9) dX0_addNet_54 (by decide) ?_
            refine x_icmp_gt h 72 dX0_addNet_56 (by decide) (fun c_56 => ?_) (fun c_56 => ?_)
            · -- 56 true
              refine x_ldc h ((-1000001)) (by decide +kernel) dX0_addNet_72 ?_
              exact hret _ _ _ _ _ dX0_addNet_74 (by refine ⟨rfl, _, Or.inl ⟨fun q => ?_, rfl, rfl⟩, (va_up_id _ _).symm⟩; first | exact nk1 q.1 | exact nk8 q.2.1 | exact (q.2.2.1.elim c_16 nk20) | exact q.2.2.2.1 (by rw [c_31]) | exact q.2.2.2.2.1 (by rw [c_36]) | exact q.2.2.2.2.2.1 (by rw [c_41]) | exact q.2.2.2.2.2.2.1 c_49 | exact absurd c_56 (Int32.not_lt.mpr q.2.2.2.2.2.2.2.1) | exact q.2.2.2.2.2.2.2.2.1 c_61 | exact c_69 q.2.2.2.2.2.2.2.2.2)
            · -- 56 false
              refine x_iload h 5 dX0_addNet_59 rfl ?_
              refine x_if_lt h 72 dX0_addNet_61 (by decide) (fun c_61 => ?_) (fun c_61 => ?_)
              · -- 61 true
                refine x_ldc h ((-1000001)) (by decide +kernel) dX0_addNet_72 ?_
                exact hret _ _ _ _ _ dX0_addNet_74 (by refine ⟨rfl, _, Or.inl ⟨fun q => ?_, rfl, rfl⟩, (va_up_id _ _).symm⟩; first | exact nk1 q.1 | exact nk8 q.2.1 | exact (q.2.2.1.elim c_16 nk20) | exact q.2.2.2.1 (by rw [c_31]) | exact q.2.2.2.2.1 (by rw [c_36]) | exact q.2.2.2.2.2.1 (by rw [c_41]) | exact q.2.2.2.2.2.2.1 c_49 | exact absurd c_56 (Int32.not_lt.mpr q.2.2.2.2.2.2.2.1) | exact q.2.2.2.2.2.2.2.2.1 c_61 | exact c_69 q.2.2.2.2.2.2.2.2.2)
              · -- 61 false
                refine x_iload h 5 dX0_addNet_64 rfl ?_
                refine x_sipush h (nI 9999) dX0_addNet_66 (by decide) ?_
                refine x_icmp_le h 75 dX0_addNet_69 (by decide) (fun c_69 => ?_) (fun c_69 => ?_)
                · -- 69 true
                  refine x_aload_n h 0 dX0_addNet_75 rfl rfl ?_
                  refine x_iload_n h 1 dX0_addNet_76 rfl rfl ?_
                  refine x_callV h (As := [.int (nI k1)]) 1 hx (c_X0_isFreePlace hc) gX0_addNet_X0_isFreePlace rfl ⟨rfl, rfl⟩ (by decide +kernel) rfl (by decide) (hk_chip hc) (E_chip hc) rfl rfl (Nat.le_of_ble_eq_true rfl) dX0_addNet_77 (fun rv M' P' hp => ?_)
                  obtain ⟨⟨rfl, rfl⟩, hp⟩ := hp
                  rcases hp with ⟨F77, rfl⟩ | ⟨nF77, rfl⟩
                  · -- call 77
                    refine x_if_eq h 104 dX0_addNet_80 (by decide) (fun c => absurd c (by decide)) (fun _ => ?_)
                    refine x_aload_n h 0 dX0_addNet_83 rfl rfl ?_
                    refine x_iload_n h 2 dX0_addNet_84 rfl rfl ?_
                    refine x_callV h (As := [.int (nI k8)]) 1 hx (c_X0_isFreePlace hc) gX0_addNet_X0_isFreePlace rfl ⟨rfl, rfl⟩ (by decide +kernel) rfl (by decide) (hk_chip hc) (E_chip hc) rfl rfl (Nat.le_of_ble_eq_true rfl) dX0_addNet_85 (fun rv M' P' hp => ?_)
                    obtain ⟨⟨rfl, rfl⟩, hp⟩ := hp
                    rcases hp with ⟨F85, rfl⟩ | ⟨nF85, rfl⟩
                    · -- call 85
                      refine x_if_eq h 104 dX0_addNet_88 (by decide) (fun c => absurd c (by decide)) (fun _ => ?_)
                      refine x_iload_n h 3 dX0_addNet_91 rfl rfl ?_
                      refine x_iconst h ((-1)) dX0_addNet_92 (by decide) ?_
                      refine x_icmp_eq h 107 dX0_addNet_93 (by decide) (fun _ => ?_) (fun c => absurd (by decide) c)
                      refine x_aload_n h 0 dX0_addNet_107 rfl rfl ?_
                      refine xg_X0_5 h hc in_X0_addNet_X0 (by decide +kernel) dX0_addNet_108 ?_
                      refine x_top (nI N) (hN) ?_
                      refine x_bipush h (nI 6) dX0_addNet_111 (by decide) ?_
                      refine x_icmp_lt_n h 119 dX0_addNet_113 (by decide) (by omega) (by decide) (fun c_113 => ?_) (fun c_113 => ?_)
                      · -- 113 true
                        refine x_aload_n h 0 dX0_addNet_119 rfl rfl ?_
                        refine xg_X0_5 h hc in_X0_addNet_X0 (by decide +kernel) dX0_addNet_120 ?_
                        refine x_top (nI N) (hN) ?_
                        refine x_istore h [(6, .int (nI N)), (0, .ref (g.1 (24 * c))), (1, .int (nI k1)), (2, .int (nI k8)), (3, .int (-1)), (4, .int s), (5, .int u)] dX0_addNet_123 (by decide) rfl ?_
                        refine x_aload_n h 1 dX0_addNet_125 rfl rfl ?_
                        refine x_dup h dX0_addNet_126 rfl ?_
                        refine xg_X0_5 h hc in_X0_addNet_X0 (by decide +kernel) dX0_addNet_127 ?_
                        refine x_top (nI N) (hN) ?_
                        refine x_iconst h (nI 1) dX0_addNet_130 (by decide) ?_
                        refine x_iadd_n h dX0_addNet_131 ?_
                        refine xp_X0_5 h hc in_X0_addNet_X0 (by decide +kernel) dX0_addNet_132 ?_
                        refine x_aload_n h 1 dX0_addNet_135 rfl rfl ?_
                        refine x_iload_n h 2 dX0_addNet_136 rfl rfl ?_
                        refine x_iload h 0 dX0_addNet_137 rfl ?_
                        refine x_callVv h (As := [.int (nI k1), .int (nI N)]) 2 hx (c_X0_setPin hc (by omega)) gX0_addNet_X0_setPin rfl ⟨rfl, rfl⟩ (by decide +kernel) rfl (by decide) (hk_chip hc) (E_chip hc) rfl rfl (Nat.le_of_ble_eq_true rfl) dX0_addNet_139 (fun M139 P' hp => ?_)
                        obtain ⟨rfl, hM139⟩ := hp
                        refine x_aload_n h 1 dX0_addNet_142 rfl rfl ?_
                        refine x_iload_n h 3 dX0_addNet_143 rfl rfl ?_
                        refine x_iload h 0 dX0_addNet_144 rfl ?_
                        refine x_callVv h (As := [.int (nI k8), .int (nI N)]) 2 hx (c_X0_setPin hc (by omega)) gX0_addNet_X0_setPin rfl ⟨rfl, rfl⟩ (by decide +kernel) rfl (by decide) (hk_chip hc) (E_chip hc) rfl rfl (Nat.le_of_ble_eq_true rfl) dX0_addNet_146 (fun M146 P' hp => ?_)
                        obtain ⟨rfl, hM146⟩ := hp
                        refine x_aload_n h 1 dX0_addNet_149 rfl rfl ?_
                        refine x_iload_n h 4 dX0_addNet_150 rfl rfl ?_
                        refine x_iload h 0 dX0_addNet_151 rfl ?_
                        refine x_callVv h (As := [.int (-1), .int (nI N)]) 2 hx (c_X0_setPin_no hc (k := N)) gX0_addNet_X0_setPin rfl ⟨rfl, rfl⟩ (by decide +kernel) rfl (by decide) (hk_chip hc) (E_chip hc) rfl rfl (Nat.le_of_ble_eq_true rfl) dX0_addNet_153 (fun M153 P' hp => ?_)
                        obtain ⟨rfl, hM153⟩ := hp
                        refine x_aload_n h 1 dX0_addNet_156 rfl rfl ?_
                        refine xg_X0_3 h hc in_X0_addNet_X0 (by decide +kernel) dX0_addNet_157 ?_
                        refine x_iload h 0 dX0_addNet_160 rfl ?_
                        refine xa_nets h hc dX0_addNet_162 (by omega) ?_
                        refine x_astore h [(7, .ref (g.1 (24 * c + 5 + N))), (6, .int (nI N)), (0, .ref (g.1 (24 * c))), (1, .int (nI k1)), (2, .int (nI k8)), (3, .int (-1)), (4, .int s), (5, .int u)] dX0_addNet_163 (by decide) rfl ?_
                        refine x_aload h 0 dX0_addNet_165 rfl ?_
                        refine x_iload_n h 3 dX0_addNet_167 rfl rfl ?_
                        refine xp_X2_0 h hc (by omega) in_X0_addNet_X2 (by decide +kernel) dX0_addNet_168 ?_
                        refine x_aload h 0 dX0_addNet_171 rfl ?_
                        refine x_iload_n h 4 dX0_addNet_173 rfl rfl ?_
                        refine xp_X2_1 h hc (by omega) in_X0_addNet_X2 (by decide +kernel) dX0_addNet_174 ?_
                        refine x_aload h 0 dX0_addNet_177 rfl ?_
                        refine x_iload_n h 5 dX0_addNet_179 rfl rfl ?_
                        refine xp_X2_2 h hc (by omega) in_X0_addNet_X2 (by decide +kernel) dX0_addNet_180 ?_
                        refine x_aload h 0 dX0_addNet_183 rfl ?_
                        refine x_iload h 6 dX0_addNet_185 rfl ?_
                        refine xp_X2_3 h hc (by omega) in_X0_addNet_X2 (by decide +kernel) dX0_addNet_187 ?_
                        refine x_aload h 0 dX0_addNet_190 rfl ?_
                        refine x_iload h 7 dX0_addNet_192 rfl ?_
                        refine xp_X2_4 h hc (by omega) in_X0_addNet_X2 (by decide +kernel) dX0_addNet_194 ?_
                        refine x_aload h 0 dX0_addNet_197 rfl ?_
                        refine x_iconst h (nI 0) dX0_addNet_199 (by decide) ?_
                        refine xp_X2_5 h hc (by omega) (by decide) in_X0_addNet_X2 (by decide +kernel) dX0_addNet_200 ?_
                        refine x_aload h 0 dX0_addNet_203 rfl ?_
                        refine x_iconst h (nI 0) dX0_addNet_205 (by decide) ?_
                        refine xp_X2_6 h hc (by omega) in_X0_addNet_X2 (by decide +kernel) dX0_addNet_206 ?_
                        refine x_aload h 0 dX0_addNet_209 rfl ?_
                        refine x_iconst h (nI 0) dX0_addNet_211 (by decide) ?_
                        refine xp_X2_7 h hc (by omega) in_X0_addNet_X2 (by decide +kernel) dX0_addNet_212 ?_
                        refine x_aload h 0 dX0_addNet_215 rfl ?_
                        refine x_iconst h (nI 0) dX0_addNet_217 (by decide) ?_
                        refine xp_X2_8 h hc (by omega) in_X0_addNet_X2 (by decide +kernel) dX0_addNet_218 ?_
                        refine x_iload h 1 dX0_addNet_221 rfl ?_
                        exact hret _ _ _ _ _ dX0_addNet_223 (by 
                                                      have hgd : netGood (nI k1) (nI k8) (-1) s u := ⟨⟨k1, hk1, rfl⟩, ⟨k8, hk8, rfl⟩, Or.inl rfl, (fun e => c_31 ((nI_eq (by omega) (by omega)).mp e)), (fun e => m1_ne (by omega) e.symm), (fun e => m1_ne (by omega) e.symm), c_49, Int32.not_lt.mp c_56, c_61, c_69⟩
                                                      have hfr : FPe eC (M c) (nI k1) ∧ FPe eC (M c) (nI k8) ∧ ((-1 : Int32) = -1 ∨ FPe eC (M c) (-1)) := ⟨F77, F85, Or.inl rfl⟩
                                                      exact ⟨rfl, _, Or.inr ⟨hgd, Or.inr ⟨hfr, Or.inr ⟨by omega, rfl, k1, k8, hk1, hk8, rfl, rfl, Or.inl ⟨rfl, rfl⟩⟩⟩⟩, by simp only [hM153, hM146, hM139, st2_va, va_up_up, va_up_k]; rfl⟩)
                      · -- 113 false
                        refine x_ldc h ((-1000003)) (by decide +kernel) dX0_addNet_116 ?_
                        exact hret _ _ _ _ _ dX0_addNet_118 (by 
                                                      have hgd : netGood (nI k1) (nI k8) (-1) s u := ⟨⟨k1, hk1, rfl⟩, ⟨k8, hk8, rfl⟩, Or.inl rfl, (fun e => c_31 ((nI_eq (by omega) (by omega)).mp e)), (fun e => m1_ne (by omega) e.symm), (fun e => m1_ne (by omega) e.symm), c_49, Int32.not_lt.mp c_56, c_61, c_69⟩
                                                      have hfr : FPe eC (M c) (nI k1) ∧ FPe eC (M c) (nI k8) ∧ ((-1 : Int32) = -1 ∨ FPe eC (M c) (-1)) := ⟨F77, F85, Or.inl rfl⟩
                                                      exact ⟨rfl, _, Or.inr ⟨hgd, Or.inr ⟨hfr, Or.inl ⟨by omega, rfl, rfl⟩⟩⟩, (va_up_id _ _).symm⟩)
                    · -- call 85
                      refine x_if_eq h 104 dX0_addNet_88 (by decide) (fun _ => ?_) (fun c => absurd (by decide) c)
                      refine x_ldc h ((-1000002)) (by decide +kernel) dX0_addNet_104 ?_
                      exact hret _ _ _ _ _ dX0_addNet_106 (by 
                                                  have hgd : netGood (nI k1) (nI k8) (-1) s u := ⟨⟨k1, hk1, rfl⟩, ⟨k8, hk8, rfl⟩, Or.inl rfl, (fun e => c_31 ((nI_eq (by omega) (by omega)).mp e)), (fun e => m1_ne (by omega) e.symm), (fun e => m1_ne (by omega) e.symm), c_49, Int32.not_lt.mp c_56, c_61, c_69⟩
                                                  exact ⟨rfl, _, Or.inr ⟨hgd, Or.inl ⟨fun q => (by first | exact nF77 q.1 | exact nF85 q.2.1 | exact q.2.2.elim (fun e => m1_ne (by omega) e.symm) nF98), rfl, rfl⟩⟩, (va_up_id _ _).symm⟩)
                  · -- call 77
                    refine x_if_eq h 104 dX0_addNet_80 (by decide) (fun _ => ?_) (fun c => absurd (by decide) c)
                    refine x_ldc h ((-1000002)) (by decide +kernel) dX0_addNet_104 ?_
                    exact hret _ _ _ _ _ dX0_addNet_106 (by 
                                              have hgd : netGood (nI k1) (nI k8) (-1) s u := ⟨⟨k1, hk1, rfl⟩, ⟨k8, hk8, rfl⟩, Or.inl rfl, (fun e => c_31 ((nI_eq (by omega) (by omega)).mp e)), (fun e => m1_ne (by omega) e.symm), (fun e => m1_ne (by omega) e.symm), c_49, Int32.not_lt.mp c_56, c_61, c_69⟩
                                              exact ⟨rfl, _, Or.inr ⟨hgd, Or.inl ⟨fun q => (by first | exact nF77 q.1 | exact nF85 q.2.1 | exact q.2.2.elim (fun e => m1_ne (by omega) e.symm) nF98), rfl, rfl⟩⟩, (va_up_id _ _).symm⟩)
                · -- 69 false
                  refine x_ldc h ((-1000001)) (by decide +kernel) dX0_addNet_72 ?_
                  exact hret _ _ _ _ _ dX0_addNet_74 (by refine ⟨rfl, _, Or.inl ⟨fun q => ?_, rfl, rfl⟩, (va_up_id _ _).symm⟩; first | exact nk1 q.1 | exact nk8 q.2.1 | exact (q.2.2.1.elim c_16 nk20) | exact q.2.2.2.1 (by rw [c_31]) | exact q.2.2.2.2.1 (by rw [c_36]) | exact q.2.2.2.2.2.1 (by rw [c_41]) | exact q.2.2.2.2.2.2.1 c_49 | exact absurd c_56 (Int32.not_lt.mpr q.2.2.2.2.2.2.2.1) | exact q.2.2.2.2.2.2.2.2.1 c_61 | exact c_69 q.2.2.2.2.2.2.2.2.2)
      · -- 16 false
        refine x_iload_n h 3 dX0_addNet_19 rfl rfl ?_
        refine x_callS h (As := [.int p2]) 1 hx (c_X0_isPlace) gX0_addNet_X0_isPlace rfl ⟨rfl, rfl⟩ (by decide +kernel) rfl (by decide) (Nat.le_of_ble_eq_true rfl) dX0_addNet_20 (fun rv M' P' hp => ?_)
        obtain ⟨⟨rfl, rfl⟩, hp⟩ := hp
        rcases hp with ⟨⟨k20, hk20, rfl⟩, rfl⟩ | ⟨nk20, rfl⟩
        · -- call 20
          refine x_if_ne h 29 dX0_addNet_23 (by decide) (fun _ => ?_) (fun c => absurd c (by decide))
          refine x_iload_n h 1 dX0_addNet_29 rfl rfl ?_
          refine x_iload_n h 2 dX0_addNet_30 rfl rfl ?_
          refine x_icmp_eq_n h 44 dX0_addNet_31 (by decide) (by omega) (by omega) (fun c_31 => ?_) (fun c_31 => ?_)
          · -- 31 true
            refine x_ldc h ((-1000001)) (by decide +kernel) dX0_addNet_44 ?_
            exact hret _ _ _ _ _ dX0_addNet_46 (by refine ⟨rfl, _, Or.inl ⟨fun q => ?_, rfl, rfl⟩, (va_up_id _ _).symm⟩; first | exact nk1 q.1 | exact nk8 q.2.1 | exact (q.2.2.1.elim c_16 nk20) | exact q.2.2.2.1 (by rw [c_31]) | exact q.2.2.2.2.1 (by rw [c_36]) | exact q.2.2.2.2.2.1 (by rw [c_41]) | exact q.2.2.2.2.2.2.1 c_49 | exact absurd c_56 (Int32.not_lt.mpr q.2.2.2.2.2.2.2.1) | exact q.2.2.2.2.2.2.2.2.1 c_61 | exact c_69 q.2.2.2.2.2.2.2.2.2)
          · -- 31 false
            refine x_iload_n h 1 dX0_addNet_34 rfl rfl ?_
            refine x_iload_n h 3 dX0_addNet_35 rfl rfl ?_
            refine x_icmp_eq_n h 44 dX0_addNet_36 (by decide) (by omega) (by omega) (fun c_36 => ?_) (fun c_36 => ?_)
            · -- 36 true
              refine x_ldc h ((-1000001)) (by decide +kernel) dX0_addNet_44 ?_
              exact hret _ _ _ _ _ dX0_addNet_46 (by refine ⟨rfl, _, Or.inl ⟨fun q => ?_, rfl, rfl⟩, (va_up_id _ _).symm⟩; first | exact nk1 q.1 | exact nk8 q.2.1 | exact (q.2.2.1.elim c_16 nk20) | exact q.2.2.2.1 (by rw [c_31]) | exact q.2.2.2.2.1 (by rw [c_36]) | exact q.2.2.2.2.2.1 (by rw [c_41]) | exact q.2.2.2.2.2.2.1 c_49 | exact absurd c_56 (Int32.not_lt.mpr q.2.2.2.2.2.2.2.1) | exact q.2.2.2.2.2.2.2.2.1 c_61 | exact c_69 q.2.2.2.2.2.2.2.2.2)
            · -- 36 false
              refine x_iload_n h 2 dX0_addNet_39 rfl rfl ?_
              refine x_iload_n h 3 dX0_addNet_40 rfl rfl ?_
              refine x_icmp_ne_n h 47 dX0_addNet_41 (by decide) (by omega) (by omega) (fun c_41 => ?_) (fun c_41 => ?_)
              · -- 41 true
                refine x_iload h 4 dX0_addNet_47 rfl ?_
                refine x_if_lt h 72 dX0_addNet_49 (by decide) (fun c_49 => ?_) (fun c_49 => ?_)
                · -- 49 true
                  refine x_ldc h ((-1000001)) (by decide +kernel) dX0_addNet_72 ?_
                  exact hret _ _ _ _ _ dX0_addNet_74 (by refine ⟨rfl, _, Or.inl ⟨fun q => ?_, rfl, rfl⟩, (va_up_id _ _).symm⟩; first | exact nk1 q.1 | exact nk8 q.2.1 | exact (q.2.2.1.elim c_16 nk20) | exact q.2.2.2.1 (by rw [c_31]) | exact q.2.2.2.2.1 (by rw [c_36]) | exact q.2.2.2.2.2.1 (by rw [c_41]) | exact q.2.2.2.2.2.2.1 c_49 | exact absurd c_56 (Int32.not_lt.mpr q.2.2.2.2.2.2.2.1) | exact q.2.2.2.2.2.2.2.2.1 c_61 | exact c_69 q.2.2.2.2.2.2.2.2.2)
                · -- 49 false
                  refine x_iload h 4 dX0_addNet_52 rfl ?_
                  refine x_bipush h (nI 9) dX0_addNet_54 (by decide) ?_
                  refine x_icmp_gt h 72 dX0_addNet_56 (by decide) (fun c_56 => ?_) (fun c_56 => ?_)
                  · -- 56 true
                    refine x_ldc h ((-1000001)) (by decide +kernel) dX0_addNet_72 ?_
                    exact hret _ _ _ _ _ dX0_addNet_74 (by refine ⟨rfl, _, Or.inl ⟨fun q => ?_, rfl, rfl⟩, (va_up_id _ _).symm⟩; first | exact nk1 q.1 | exact nk8 q.2.1 | exact (q.2.2.1.elim c_16 nk20) | exact q.2.2.2.1 (by rw [c_31]) | exact q.2.2.2.2.1 (by rw [c_36]) | exact q.2.2.2.2.2.1 (by rw [c_41]) | exact q.2.2.2.2.2.2.1 c_49 | exact absurd c_56 (Int32.not_lt.mpr q.2.2.2.2.2.2.2.1) | exact q.2.2.2.2.2.2.2.2.1 c_61 | exact c_69 q.2.2.2.2.2.2.2.2.2)
                  · -- 56 false
                    refine x_iload h 5 dX0_addNet_59 rfl ?_
                    refine x_if_lt h 72 dX0_addNet_61 (by decide) (fun c_61 => ?_) (fun c_61 => ?_)
                    · -- 61 true
                      refine x_ldc h ((-1000001)) (by decide +kernel) dX0_addNet_72 ?_
                      exact hret _ _ _ _ _ dX0_addNet_74 (by refine ⟨rfl, _, Or.inl ⟨fun q => ?_, rfl, rfl⟩, (va_up_id _ _).symm⟩; first | exact nk1 q.1 | exact nk8 q.2.1 | exact (q.2.2.1.elim c_16 nk20) | exact q.2.2.2.1 (by rw [c_31]) | exact q.2.2.2.2.1 (by rw [c_36]) | exact q.2.2.2.2.2.1 (by rw [c_41]) | exact q.2.2.2.2.2.2.1 c_49 | exact absurd c_56 (Int32.not_lt.mpr q.2.2.2.2.2.2.2.1) | exact q.2.2.2.2.2.2.2.2.1 c_61 | exact c_69 q.2.2.2.2.2.2.2.2.2)
                    · -- 61 false
                      refine x_iload h 5 dX0_addNet_64 rfl ?_
                      refine x_sipush h (nI 9999) dX0_addNet_66 (by decide) ?_
                      refine x_icmp_le h 75 dX0_addNet_69 (by decide) (fun c_69 => ?_) (fun c_69 => ?_)
                      · -- 69 true
                        refine x_aload_n h 0 dX0_addNet_75 rfl rfl ?_
                        refine x_iload_n h 1 dX0_addNet_76 rfl rfl ?_
                        refine x_callV h (As := [.int (nI k1)]) 1 hx (c_X0_isFreePlace hc) gX0_addNet_X0_isFreePlace rfl ⟨rfl, rfl⟩ (by decide +kernel) rfl (by decide) (hk_chip hc) (E_chip hc) rfl rfl (Nat.le_of_ble_eq_true rfl) dX0_addNet_77 (fun rv M' P' hp => ?_)
                        obtain ⟨⟨rfl, rfl⟩, hp⟩ := hp
                        rcases hp with ⟨F77, rfl⟩ | ⟨nF77, rfl⟩
                        · -- call 77
                          refine x_if_eq h 104 dX0_addNet_80 (by decide) (fun c => absurd c (by decide)) (fun _ => ?_)
                          refine x_aload_n h 0 dX0_addNet_83 rfl rfl ?_
                          refine x_iload_n h 2 dX0_addNet_84 rfl rfl ?_
                          refine x_callV h (As := [.int (nI k8)]) 1 hx (c_X0_isFreePlace hc) gX0_addNet_X0_isFreePlace rfl ⟨rfl, rfl⟩ (by decide +kernel) rfl (by decide) (hk_chip hc) (E_chip hc) rfl rfl (Nat.le_of_ble_eq_true rfl) dX0_addNet_85 (fun rv M' P' hp => ?_)
                          obtain ⟨⟨rfl, rfl⟩, hp⟩ := hp
                          rcases hp with ⟨F85, rfl⟩ | ⟨nF85, rfl⟩
                          · -- call 85
                            refine x_if_eq h 104 dX0_addNet_88 (by decide) (fun c => absurd c (by decide)) (fun _ => ?_)
                            refine x_iload_n h 3 dX0_addNet_91 rfl rfl ?_
                            refine x_iconst h ((-1)) dX0_addNet_92 (by decide) ?_
                            refine x_icmp_eq h 107 dX0_addNet_93 (by decide) (fun c_93 => by exact absurd c_93.symm (m1_ne (by omega))) (fun c_93 => ?_)
                            refine x_aload_n h 0 dX0_addNet_96 rfl rfl ?_
                            refine x_iload_n h 3 dX0_addNet_97 rfl rfl ?_
                            refine x_callV h (As := [.int (nI k20)]) 1 hx (c_X0_isFreePlace hc) gX0_addNet_X0_isFreePlace rfl ⟨rfl, rfl⟩ (by decide +kernel) rfl (by decide) (hk_chip hc) (E_chip hc) rfl rfl (Nat.le_of_ble_eq_true rfl) dX0_addNet_98 (fun rv M' P' hp => ?_)
                            obtain ⟨⟨rfl, rfl⟩, hp⟩ := hp
                            rcases hp with ⟨F98, rfl⟩ | ⟨nF98, rfl⟩
                            · -- call 98
                              refine x_if_ne h 107 dX0_addNet_101 (by decide) (fun _ => ?_) (fun c => absurd c (by decide))
                              refine x_aload_n h 0 dX0_addNet_107 rfl rfl ?_
                              refine xg_X0_5 h hc in_X0_addNet_X0 (by decide +kernel) dX0_addNet_108 ?_
                              refine x_top (nI N) (hN) ?_
                              refine x_bipush h (nI 6) dX0_addNet_111 (by decide) ?_
                              refine x_icmp_lt_n h 119 dX0_addNet_113 (by decide) (by omega) (by decide) (fun c_113 => ?_) (fun c_113 => ?_)
                              · -- 113 true
                                refine x_aload_n h 0 dX0_addNet_119 rfl rfl ?_
                                refine xg_X0_5 h hc in_X0_addNet_X0 (by decide +kernel) dX0_addNet_120 ?_
                                refine x_top (nI N) (hN) ?_
                                refine x_istore h [(6, .int (nI N)), (0, .ref (g.1 (24 * c))), (1, .int (nI k1)), (2, .int (nI k8)), (3, .int (nI k20)), (4, .int s), (5, .int u)] dX0_addNet_123 (by decide) rfl ?_
                                refine x_aload_n h 1 dX0_addNet_125 rfl rfl ?_
                                refine x_dup h dX0_addNet_126 rfl ?_
                                refine xg_X0_5 h hc in_X0_addNet_X0 (by decide +kernel) dX0_addNet_127 ?_
                                refine x_top (nI N) (hN) ?_
                                refine x_iconst h (nI 1) dX0_addNet_130 (by decide) ?_
                                refine x_iadd_n h dX0_addNet_131 ?_
                                refine xp_X0_5 h hc in_X0_addNet_X0 (by decide +kernel) dX0_addNet_132 ?_
                                refine x_aload_n h 1 dX0_addNet_135 rfl rfl ?_
                                refine x_iload_n h 2 dX0_addNet_136 rfl rfl ?_
                                refine x_iload h 0 dX0_addNet_137 rfl ?_
                                refine x_callVv h (As := [.int (nI k1), .int (nI N)]) 2 hx (c_X0_setPin hc (by omega)) gX0_addNet_X0_setPin rfl ⟨rfl, rfl⟩ (by decide +kernel) rfl (by decide) (hk_chip hc) (E_chip hc) rfl rfl (Nat.le_of_ble_eq_true rfl) dX0_addNet_139 (fun M139_1 P' hp => ?_)
                                obtain ⟨rfl, hM139_1⟩ := hp
                                refine x_aload_n h 1 dX0_addNet_142 rfl rfl ?_
                                refine x_iload_n h 3 dX0_addNet_143 rfl rfl ?_
                                refine x_iload h 0 dX0_addNet_144 rfl ?_
                                refine x_callVv h (As := [.int (nI k8), .int (nI N)]) 2 hx (c_X0_setPin hc (by omega)) gX0_addNet_X0_setPin rfl ⟨rfl, rfl⟩ (by decide +kernel) rfl (by decide) (hk_chip hc) (E_chip hc) rfl rfl (Nat.le_of_ble_eq_true rfl) dX0_addNet_146 (fun M146_1 P' hp => ?_)
                                obtain ⟨rfl, hM146_1⟩ := hp
                                refine x_aload_n h 1 dX0_addNet_149 rfl rfl ?_
                                refine x_iload_n h 4 dX0_addNet_150 rfl rfl ?_
                                refine x_iload h 0 dX0_addNet_151 rfl ?_
                                refine x_callVv h (As := [.int (nI k20), .int (nI N)]) 2 hx (c_X0_setPin hc (by omega)) gX0_addNet_X0_setPin rfl ⟨rfl, rfl⟩ (by decide +kernel) rfl (by decide) (hk_chip hc) (E_chip hc) rfl rfl (Nat.le_of_ble_eq_true rfl) dX0_addNet_153 (fun M153_1 P' hp => ?_)
                                obtain ⟨rfl, hM153_1⟩ := hp
                                refine x_aload_n h 1 dX0_addNet_156 rfl rfl ?_
                                refine xg_X0_3 h hc in_X0_addNet_X0 (by decide +kernel) dX0_addNet_157 ?_
                                refine x_iload h 0 dX0_addNet_160 rfl ?_
                                refine xa_nets h hc dX0_addNet_162 (by omega) ?_
                                refine x_astore h [(7, .ref (g.1 (24 * c + 5 + N))), (6, .int (nI N)), (0, .ref (g.1 (24 * c))), (1, .int (nI k1)), (2, .int (nI k8)), (3, .int (nI k20)), (4, .int s), (5, .int u)] dX0_addNet_163 (by decide) rfl ?_
                                refine x_aload h 0 dX0_addNet_165 rfl ?_
                                refine x_iload_n h 3 dX0_addNet_167 rfl rfl ?_
                                refine xp_X2_0 h hc (by omega) in_X0_addNet_X2 (by decide +kernel) dX0_addNet_168 ?_
                                refine x_aload h 0 dX0_addNet_171 rfl ?_
                                refine x_iload_n h 4 dX0_addNet_173 rfl rfl ?_
                                refine xp_X2_1 h hc (by omega) in_X0_addNet_X2 (by decide +kernel) dX0_addNet_174 ?_
                                refine x_aload h 0 dX0_addNet_177 rfl ?_
                                refine x_iload_n h 5 dX0_addNet_179 rfl rfl ?_
                                refine xp_X2_2 h hc (by omega) in_X0_addNet_X2 (by decide +kernel) dX0_addNet_180 ?_
                                refine x_aload h 0 dX0_addNet_183 rfl ?_
                                refine x_iload h 6 dX0_addNet_185 rfl ?_
                                refine xp_X2_3 h hc (by omega) in_X0_addNet_X2 (by decide +kernel) dX0_addNet_187 ?_
                                refine x_aload h 0 dX0_addNet_190 rfl ?_
                                refine x_iload h 7 dX0_addNet_192 rfl ?_
                                refine xp_X2_4 h hc (by omega) in_X0_addNet_X2 (by decide +kernel) dX0_addNet_194 ?_
                                refine x_aload h 0 dX0_addNet_197 rfl ?_
                                refine x_iconst h (nI 0) dX0_addNet_199 (by decide) ?_
                                refine xp_X2_5 h hc (by omega) (by decide) in_X0_addNet_X2 (by decide +kernel) dX0_addNet_200 ?_
                                refine x_aload h 0 dX0_addNet_203 rfl ?_
                                refine x_iconst h (nI 0) dX0_addNet_205 (by decide) ?_
                                refine xp_X2_6 h hc (by omega) in_X0_addNet_X2 (by decide +kernel) dX0_addNet_206 ?_
                                refine x_aload h 0 dX0_addNet_209 rfl ?_
                                refine x_iconst h (nI 0) dX0_addNet_211 (by decide) ?_
                                refine xp_X2_7 h hc (by omega) in_X0_addNet_X2 (by decide +kernel) dX0_addNet_212 ?_
                                refine x_aload h 0 dX0_addNet_215 rfl ?_
                                refine x_iconst h (nI 0) dX0_addNet_217 (by decide) ?_
                                refine xp_X2_8 h hc (by omega) in_X0_addNet_X2 (by decide +kernel) dX0_addNet_218 ?_
                                refine x_iload h 1 dX0_addNet_221 rfl ?_
                                exact hret _ _ _ _ _ dX0_addNet_223 (by 
                                                                      have hgd : netGood (nI k1) (nI k8) (nI k20) s u := ⟨⟨k1, hk1, rfl⟩, ⟨k8, hk8, rfl⟩, Or.inr ⟨k20, hk20, rfl⟩, (fun e => c_31 ((nI_eq (by omega) (by omega)).mp e)), (fun e => c_36 ((nI_eq (by omega) (by omega)).mp e)), (fun e => c_41 ((nI_eq (by omega) (by omega)).mp e)), c_49, Int32.not_lt.mp c_56, c_61, c_69⟩
                                                                      have hfr : FPe eC (M c) (nI k1) ∧ FPe eC (M c) (nI k8) ∧ (nI k20 = -1 ∨ FPe eC (M c) (nI k20)) := ⟨F77, F85, Or.inr F98⟩
                                                                      exact ⟨rfl, _, Or.inr ⟨hgd, Or.inr ⟨hfr, Or.inr ⟨by omega, rfl, k1, k8, hk1, hk8, rfl, rfl, Or.inr ⟨k20, hk20, rfl, rfl⟩⟩⟩⟩, by simp only [hM153_1, hM146_1, hM139_1, st2_va, va_up_up, va_up_k]; rfl⟩)
                              · -- 113 false
                                refine x_ldc h ((-1000003)) (by decide +kernel) dX0_addNet_116 ?_
                                exact hret _ _ _ _ _ dX0_addNet_118 (by 
                                                                      have hgd : netGood (nI k1) (nI k8) (nI k20) s u := ⟨⟨k1, hk1, rfl⟩, ⟨k8, hk8, rfl⟩, Or.inr ⟨k20, hk20, rfl⟩, (fun e => c_31 ((nI_eq (by omega) (by omega)).mp e)), (fun e => c_36 ((nI_eq (by omega) (by omega)).mp e)), (fun e => c_41 ((nI_eq (by omega) (by omega)).mp e)), c_49, Int32.not_lt.mp c_56, c_61, c_69⟩
                                                                      have hfr : FPe eC (M c) (nI k1) ∧ FPe eC (M c) (nI k8) ∧ (nI k20 = -1 ∨ FPe eC (M c) (nI k20)) := ⟨F77, F85, Or.inr F98⟩
                                                                      exact ⟨rfl, _, Or.inr ⟨hgd, Or.inr ⟨hfr, Or.inl ⟨by omega, rfl, rfl⟩⟩⟩, (va_up_id _ _).symm⟩)
                            · -- call 98
                              refine x_if_ne h 107 dX0_addNet_101 (by decide) (fun c => absurd c (by decide)) (fun _ => ?_)
                              refine x_ldc h ((-1000002)) (by decide +kernel) dX0_addNet_104 ?_
                              exact hret _ _ _ _ _ dX0_addNet_106 (by 
                                                                  have hgd : netGood (nI k1) (nI k8) (nI k20) s u := ⟨⟨k1, hk1, rfl⟩, ⟨k8, hk8, rfl⟩, Or.inr ⟨k20, hk20, rfl⟩, (fun e => c_31 ((nI_eq (by omega) (by omega)).mp e)), (fun e => c_36 ((nI_eq (by omega) (by omega)).mp e)), (fun e => c_41 ((nI_eq (by omega) (by omega)).mp e)), c_49, Int32.not_lt.mp c_56, c_61, c_69⟩
                                                                  exact ⟨rfl, _, Or.inr ⟨hgd, Or.inl ⟨fun q => (by first | exact nF77 q.1 | exact nF85 q.2.1 | exact q.2.2.elim (fun e => m1_ne (by omega) e.symm) nF98), rfl, rfl⟩⟩, (va_up_id _ _).symm⟩)
                          · -- call 85
                            refine x_if_eq h 104 dX0_addNet_88 (by decide) (fun _ => ?_) (fun c => absurd (by decide) c)
                            refine x_ldc h ((-1000002)) (by decide +kernel) dX0_addNet_104 ?_
                            exact hret _ _ _ _ _ dX0_addNet_106 (by 
                                                              have hgd : netGood (nI k1) (nI k8) (nI k20) s u := ⟨⟨k1, hk1, rfl⟩, ⟨k8, hk8, rfl⟩, Or.inr ⟨k20, hk20, rfl⟩, (fun e => c_31 ((nI_eq (by omega) (by omega)).mp e)), (fun e => c_36 ((nI_eq (by omega) (by omega)).mp e)), (fun e => c_41 ((nI_eq (by omega) (by omega)).mp e)), c_49, Int32.not_lt.mp c_56, c_61, c_69⟩
                                                              exact ⟨rfl, _, Or.inr ⟨hgd, Or.inl ⟨fun q => (by first | exact nF77 q.1 | exact nF85 q.2.1 | exact q.2.2.elim (fun e => m1_ne (by omega) e.symm) nF98), rfl, rfl⟩⟩, (va_up_id _ _).symm⟩)
                        · -- call 77
                          refine x_if_eq h 104 dX0_addNet_80 (by decide) (fun _ => ?_) (fun c => absurd (by decide) c)
                          refine x_ldc h ((-1000002)) (by decide +kernel) dX0_addNet_104 ?_
                          exact hret _ _ _ _ _ dX0_addNet_106 (by 
                                                          have hgd : netGood (nI k1) (nI k8) (nI k20) s u := ⟨⟨k1, hk1, rfl⟩, ⟨k8, hk8, rfl⟩, Or.inr ⟨k20, hk20, rfl⟩, (fun e => c_31 ((nI_eq (by omega) (by omega)).mp e)), (fun e => c_36 ((nI_eq (by omega) (by omega)).mp e)), (fun e => c_41 ((nI_eq (by omega) (by omega)).mp e)), c_49, Int32.not_lt.mp c_56, c_61, c_69⟩
                                                          exact ⟨rfl, _, Or.inr ⟨hgd, Or.inl ⟨fun q => (by first | exact nF77 q.1 | exact nF85 q.2.1 | exact q.2.2.elim (fun e => m1_ne (by omega) e.symm) nF98), rfl, rfl⟩⟩, (va_up_id _ _).symm⟩)
                      · -- 69 false
                        refine x_ldc h ((-1000001)) (by decide +kernel) dX0_addNet_72 ?_
                        exact hret _ _ _ _ _ dX0_addNet_74 (by refine ⟨rfl, _, Or.inl ⟨fun q => ?_, rfl, rfl⟩, (va_up_id _ _).symm⟩; first | exact nk1 q.1 | exact nk8 q.2.1 | exact (q.2.2.1.elim c_16 nk20) | exact q.2.2.2.1 (by rw [c_31]) | exact q.2.2.2.2.1 (by rw [c_36]) | exact q.2.2.2.2.2.1 (by rw [c_41]) | exact q.2.2.2.2.2.2.1 c_49 | exact absurd c_56 (Int32.not_lt.mpr q.2.2.2.2.2.2.2.1) | exact q.2.2.2.2.2.2.2.2.1 c_61 | exact c_69 q.2.2.2.2.2.2.2.2.2)
              · -- 41 false
                refine x_ldc h ((-1000001)) (by decide +kernel) dX0_addNet_44 ?_
                exact hret _ _ _ _ _ dX0_addNet_46 (by refine ⟨rfl, _, Or.inl ⟨fun q => ?_, rfl, rfl⟩, (va_up_id _ _).symm⟩; first | exact nk1 q.1 | exact nk8 q.2.1 | exact (q.2.2.1.elim c_16 nk20) | exact q.2.2.2.1 (by rw [c_31]) | exact q.2.2.2.2.1 (by rw [c_36]) | exact q.2.2.2.2.2.1 (by rw [c_41]) | exact q.2.2.2.2.2.2.1 c_49 | exact absurd c_56 (Int32.not_lt.mpr q.2.2.2.2.2.2.2.1) | exact q.2.2.2.2.2.2.2.2.1 c_61 | exact c_69 q.2.2.2.2.2.2.2.2.2)
        · -- call 20
          refine x_if_ne h 29 dX0_addNet_23 (by decide) (fun c => absurd c (by decide)) (fun _ => ?_)
          refine x_ldc h ((-1000001)) (by decide +kernel) dX0_addNet_26 ?_
          exact hret _ _ _ _ _ dX0_addNet_28 (by refine ⟨rfl, _, Or.inl ⟨fun q => ?_, rfl, rfl⟩, (va_up_id _ _).symm⟩; first | exact nk1 q.1 | exact nk8 q.2.1 | exact (q.2.2.1.elim c_16 nk20) | exact q.2.2.2.1 (by rw [c_31]) | exact q.2.2.2.2.1 (by rw [c_36]) | exact q.2.2.2.2.2.1 (by rw [c_41]) | exact q.2.2.2.2.2.2.1 c_49 | exact absurd c_56 (Int32.not_lt.mpr q.2.2.2.2.2.2.2.1) | exact q.2.2.2.2.2.2.2.2.1 c_61 | exact c_69 q.2.2.2.2.2.2.2.2.2)
    · -- call 8
      refine x_if_eq h 26 dX0_addNet_11 (by decide) (fun _ => ?_) (fun c => absurd (by decide) c)
      refine x_ldc h ((-1000001)) (by decide +kernel) dX0_addNet_26 ?_
      exact hret _ _ _ _ _ dX0_addNet_28 (by refine ⟨rfl, _, Or.inl ⟨fun q => ?_, rfl, rfl⟩, (va_up_id _ _).symm⟩; first | exact nk1 q.1 | exact nk8 q.2.1 | exact (q.2.2.1.elim c_16 nk20) | exact q.2.2.2.1 (by rw [c_31]) | exact q.2.2.2.2.1 (by rw [c_36]) | exact q.2.2.2.2.2.1 (by rw [c_41]) | exact q.2.2.2.2.2.2.1 c_49 | exact absurd c_56 (Int32.not_lt.mpr q.2.2.2.2.2.2.2.1) | exact q.2.2.2.2.2.2.2.2.1 c_61 | exact c_69 q.2.2.2.2.2.2.2.2.2)
  · -- call 1
    refine x_if_eq h 26 dX0_addNet_4 (by decide) (fun _ => ?_) (fun c => absurd (by decide) c)
    refine x_ldc h ((-1000001)) (by decide +kernel) dX0_addNet_26 ?_
    exact hret _ _ _ _ _ dX0_addNet_28 (by refine ⟨rfl, _, Or.inl ⟨fun q => ?_, rfl, rfl⟩, (va_up_id _ _).symm⟩; first | exact nk1 q.1 | exact nk8 q.2.1 | exact (q.2.2.1.elim c_16 nk20) | exact q.2.2.2.1 (by rw [c_31]) | exact q.2.2.2.2.1 (by rw [c_36]) | exact q.2.2.2.2.2.1 (by rw [c_41]) | exact q.2.2.2.2.2.2.1 c_49 | exact absurd c_56 (Int32.not_lt.mpr q.2.2.2.2.2.2.2.1) | exact q.2.2.2.2.2.2.2.2.1 c_61 | exact c_69 q.2.2.2.2.2.2.2.2.2)
