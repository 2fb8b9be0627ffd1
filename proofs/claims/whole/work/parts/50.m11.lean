theorem goodIn_k {big ws : List Cond} (n : Nat) (h1 : GoodIn big (ws.take n)) (h2 : GoodIn big (ws.drop n)) : GoodIn big ws := by
  have := goodIn_app h1 h2
  rwa [List.take_append_drop] at this

set_option maxRecDepth 20000 in
theorem ggX6_tries_X6_order_k0 : GoodIn wsX6_tries (wsX6_order.take 40) := goodIn_r _ [10, 1, 3, 11, 12, 13, 9, 14, 4, 15, 16, 17, 18, 19, 20, 21, 22, 23, 24, 25, 26, 27, 28, 29, 30, 31, 32, 33, 34, 35, 36, 37, 38, 39, 40, 41, 42, 43, 44, 45] (by decide +kernel) (by decide +kernel)
set_option maxRecDepth 20000 in
theorem ggX6_tries_X6_order_k1 : GoodIn wsX6_tries ((wsX6_order.drop 40).take 40) := goodIn_r _ [46, 47, 48, 49, 50, 51, 52, 53, 54, 55, 56, 57, 58, 59, 60, 61, 62, 63, 64, 65, 66, 67, 68, 69, 70, 71, 72, 73, 74, 75, 76, 77, 78, 79, 80, 81, 82, 83, 84, 85] (by decide +kernel) (by decide +kernel)
set_option maxRecDepth 20000 in
theorem ggX6_tries_X6_order_k2 : GoodIn wsX6_tries (((wsX6_order.drop 40).drop 40).take 40) := goodIn_r _ [86, 87, 88, 89, 90, 91, 92, 93, 94, 95, 96, 97, 98, 99, 100, 101, 102, 103, 104, 105, 106, 107, 108, 109, 110, 111, 112, 113, 114, 115, 116, 117, 118, 119, 120, 121, 122, 123, 124, 125] (by decide +kernel) (by decide +kernel)
set_option maxRecDepth 20000 in
theorem ggX6_tries_X6_order_k3 : GoodIn wsX6_tries ((((wsX6_order.drop 40).drop 40).drop 40).take 40) := goodIn_r _ [126, 127, 128, 129, 130, 131, 132, 133, 134, 135, 136, 137, 138, 139, 140, 141, 142, 143, 144, 145, 146, 147, 148, 149, 150, 151, 152, 153, 154, 155, 156, 157, 158, 159, 160, 161, 162, 163, 164, 165] (by decide +kernel) (by decide +kernel)
set_option maxRecDepth 20000 in
theorem ggX6_tries_X6_order_k4 : GoodIn wsX6_tries ((((wsX6_order.drop 40).drop 40).drop 40).drop 40) := goodIn_r _ [166, 167, 168, 169, 170, 171, 172, 173, 174, 175, 176, 177, 178, 179, 180, 181, 182, 183, 184, 185, 186, 187, 188, 189, 190, 191, 192, 193, 194, 195, 196] (by decide +kernel) (by decide +kernel)
theorem ggX6_tries_X6_order : GoodIn wsX6_tries wsX6_order := (goodIn_k 40 ggX6_tries_X6_order_k0 (goodIn_k 40 ggX6_tries_X6_order_k1 (goodIn_k 40 ggX6_tries_X6_order_k2 (goodIn_k 40 ggX6_tries_X6_order_k3 ggX6_tries_X6_order_k4))))
set_option maxRecDepth 20000 in
theorem gX6_tries_X6_order : GoodIn wsX6_tries (wsV RX6 237 RX6 yX6_order wsX6_order) := goodIn_app (goodIn_of _ (by decide +kernel)) ggX6_tries_X6_order
theorem dX6_tries_0 : decode cX6_tries 0 = .ok (.aload_n 0, 1) := by decide +kernel
theorem dX6_tries_1 : decode cX6_tries 1 = .ok (.iconst 0, 1) := by decide +kernel
theorem dX6_tries_2 : decode cX6_tries 2 = .ok (.putfield 219, 3) := by decide +kernel
theorem dX6_tries_5 : decode cX6_tries 5 = .ok (.aload_n 0, 1) := by decide +kernel
theorem dX6_tries_6 : decode cX6_tries 6 = .ok (.iconst 0, 1) := by decide +kernel
theorem dX6_tries_7 : decode cX6_tries 7 = .ok (.putfield 231, 3) := by decide +kernel
theorem dX6_tries_10 : decode cX6_tries 10 = .ok (.aload_n 0, 1) := by decide +kernel
theorem dX6_tries_11 : decode cX6_tries 11 = .ok (.iconst 0, 1) := by decide +kernel
theorem dX6_tries_12 : decode cX6_tries 12 = .ok (.putfield 228, 3) := by decide +kernel
theorem dX6_tries_15 : decode cX6_tries 15 = .ok (.aload_n 0, 1) := by decide +kernel
theorem dX6_tries_16 : decode cX6_tries 16 = .ok (.getfield 219, 3) := by decide +kernel
theorem dX6_tries_19 : decode cX6_tries 19 = .ok (.aload_n 0, 1) := by decide +kernel
theorem dX6_tries_20 : decode cX6_tries 20 = .ok (.getfield 216, 3) := by decide +kernel
theorem dX6_tries_23 : decode cX6_tries 23 = .ok (.if_icmp .ge 35, 3) := by decide +kernel
theorem dX6_tries_26 : decode cX6_tries 26 = .ok (.aload_n 0, 1) := by decide +kernel
theorem dX6_tries_27 : decode cX6_tries 27 = .ok (.getfield 228, 3) := by decide +kernel
theorem dX6_tries_30 : decode cX6_tries 30 = .ok (.ifCond .ne 28, 3) := by decide +kernel
theorem dX6_tries_33 : decode cX6_tries 33 = .ok (.aload_n 0, 1) := by decide +kernel
theorem dX6_tries_34 : decode cX6_tries 34 = .ok (.aload_n 0, 1) := by decide +kernel
theorem dX6_tries_35 : decode cX6_tries 35 = .ok (.getfield 219, 3) := by decide +kernel
theorem dX6_tries_38 : decode cX6_tries 38 = .ok (.putfield 234, 3) := by decide +kernel
theorem dX6_tries_41 : decode cX6_tries 41 = .ok (.aload_n 0, 1) := by decide +kernel
theorem dX6_tries_42 : decode cX6_tries 42 = .ok (.invokevirtual 237, 3) := by decide +kernel
theorem dX6_tries_45 : decode cX6_tries 45 = .ok (.aload_n 0, 1) := by decide +kernel
theorem dX6_tries_46 : decode cX6_tries 46 = .ok (.dup, 1) := by decide +kernel
theorem dX6_tries_47 : decode cX6_tries 47 = .ok (.getfield 231, 3) := by decide +kernel
theorem dX6_tries_50 : decode cX6_tries 50 = .ok (.iconst 1, 1) := by decide +kernel
theorem dX6_tries_51 : decode cX6_tries 51 = .ok (.iadd, 1) := by decide +kernel
theorem dX6_tries_52 : decode cX6_tries 52 = .ok (.putfield 231, 3) := by decide +kernel
theorem dX6_tries_55 : decode cX6_tries 55 = .ok (.goto (-40), 3) := by decide +kernel
theorem dX6_tries_58 : decode cX6_tries 58 = .ok (.return_, 1) := by decide +kernel
abbrev rmX6_tries : Room := { frames := 7, cells := 0, slots := 0, locals := 172 }
set_option maxRecDepth 20000 in
theorem in_X6_tries_X6 : ∀ w ∈ wsX60, w ∈ wsX6_tries := by decide +kernel

set_option maxRecDepth 100000 in
set_option maxHeartbeats 4000000 in
theorem c_X6_tries {l : Launch} {g : Geo} {M : Nat → Nat → Int32} {P : Nat → Nat} {N K B : Nat} (hI : InvX eM (M 159) N K B) {tx : Nat → Nat} {ln : Nat} (hT : TxN M tx ln) : Met l yX6_tries wsX6_tries rmX6_tries (cPre g [.ref (g.1 158)] M P) (cQv g (fun M' P' => P = P' ∧ FrX M M' ∧ TrE tx ln N K (M 159) M')) 0 0 (gA g) := by
  refine met_v (cc := cX6_tries) (maxL := 1) (by decide) rfl ⟨rfl, rfl⟩ (Nat.le_of_ble_eq_true rfl) (fun x hx h hret => ?_)
  replace h : Cxk x g cX6_tries 1 wsX6_tries RX6 rmX6_tries := h
  show X x 0 [(0, .ref (g.1 158))] [] M P
  have hN := hI.1.1
  have hN6 := hI.1.2.1
  have hK := hI.1.2.2.1
  have hK12 := hI.1.2.2.2.1
  have hl := hT.2.1
  refine x_aload_n h 0 dX6_tries_0 rfl rfl ?_
  refine x_iconst h (nI 0) dX6_tries_1 (by decide) ?_
  refine xp_X6_15 h in_X6_tries_X6 (by decide +kernel) dX6_tries_2 ?_
  refine x_aload_n h 0 dX6_tries_5 rfl rfl ?_
  refine x_iconst h (nI 0) dX6_tries_6 (by decide) ?_
  refine xp_X6_18 h in_X6_tries_X6 (by decide +kernel) dX6_tries_7 ?_
  refine x_aload_n h 0 dX6_tries_10 rfl rfl ?_
  refine x_iconst h (nI 0) dX6_tries_11 (by decide) ?_
  refine xp_X6_16 h in_X6_tries_X6 (by decide +kernel) dX6_tries_12 ?_
  have L15 : ∀ (fu : Nat) (i : Nat) (p : Nat) (rr : Int32) (W : Nat → Nat → Int32), (70 - p) < fu → (FrX M W) → (p ≤ 64) → (W 158 15 = nI p) → (W 158 16 = rr) → (W 158 18 = nI i) → (TrI tx ln N K B (M 159) i p rr W) → X x 15 [(0, .ref (g.1 158))] [] W P := by
    intro fu
    induction fu with
    | zero => intro i p rr W hmu15; exact absurd hmu15 (Nat.not_lt_zero _)
    | succ fu ih15 =>
      intro i p rr W hmu15 hF hp64 h15 h16 h18 hTr
      refine x_aload_n h 0 dX6_tries_15 rfl rfl ?_
      refine xg_X6_15 h in_X6_tries_X6 (by decide +kernel) dX6_tries_16 ?_
      refine x_top (nI p) (h15) ?_
      refine x_aload_n h 0 dX6_tries_19 rfl rfl ?_
      refine xg_X6_7 h in_X6_tries_X6 (by decide +kernel) dX6_tries_20 ?_
      refine x_top (nI ln) (by rw [hF.2 7 (by decide) (by decide) (by decide) (by decide) (by decide) (by decide) (by decide)]; exact hT.1) ?_
      refine x_icmp_ge_n h 58 dX6_tries_23 (by decide) (by omega) (by omega) (fun c_23 => ?_) (fun c_23 => ?_)
      · -- 23 true
        exact hret _ _ _ _ dX6_tries_58 (by refine ⟨rfl, hF, TrI_e hTr h16 h18 ?_⟩; first | exact Or.inl c_23 | exact Or.inr c_30)
      · -- 23 false
        refine x_aload_n h 0 dX6_tries_26 rfl rfl ?_
        refine xg_X6_16 h in_X6_tries_X6 (by decide +kernel) dX6_tries_27 ?_
        refine x_top (rr) (h16) ?_
        refine x_if_ne h 58 dX6_tries_30 (by decide) (fun c_30 => ?_) (fun c_30 => ?_)
        · -- 30 true
          exact hret _ _ _ _ dX6_tries_58 (by refine ⟨rfl, hF, TrI_e hTr h16 h18 ?_⟩; first | exact Or.inl c_23 | exact Or.inr c_30)
        · -- 30 false
          refine x_aload_n h 0 dX6_tries_33 rfl rfl ?_
          refine x_aload_n h 0 dX6_tries_34 rfl rfl ?_
          refine xg_X6_15 h in_X6_tries_X6 (by decide +kernel) dX6_tries_35 ?_
          refine x_top (nI p) (h15) ?_
          refine xp_X6_17 h in_X6_tries_X6 (by decide +kernel) dX6_tries_38 ?_
          refine x_aload_n h 0 dX6_tries_41 rfl rfl ?_
          obtain ⟨W1, hW1⟩ : ∃ q : Nat → Nat → Int32, q = st2 W 158 17 (nI p) := ⟨_, rfl⟩
          refine x_mem W1 hW1.symm ?_
          have e1 : W1 159 = W 159 := by rw [hW1, st2_n _ _ _ (by decide)]
          have hF1 : FrX M W1 := by rw [hW1]; exact FrX_s _ (by omega) hF
          have h115 : W1 158 15 = nI p := by rw [hW1, st2_k, pk_un (by decide)]; exact h15
          have h118 : W1 158 18 = nI i := by rw [hW1, st2_k, pk_un (by decide)]; exact h18
          have h117 : W1 158 17 = nI p := by rw [hW1, st2_k, pk_us]
          have hpl : p < ln := by omega
          have hT1 : TxN W1 tx ln := TxN_cg (hF1.2 7 (by decide) (by decide) (by decide) (by decide) (by decide) (by decide) (by decide)) (hF1.1 163 (by omega)) hT
          obtain ⟨K1, hI1⟩ : ∃ K1, InvX eM (W1 159) N K1 B := by rw [e1]; rcases hTr with ⟨-, K1, -, z⟩ | ⟨z, -⟩; exact ⟨K1, z⟩; exact absurd c_30 z
          refine x_callVv h (As := []) 0 hx (c_X6_order hI1 hT1 h115 hpl) gX6_tries_X6_order rfl ⟨rfl, rfl⟩ (by decide +kernel) rfl (by decide) (by decide) E_158 rfl rfl (Nat.le_of_ble_eq_true rfl) dX6_tries_42 (fun W2 P' hp0 => ?_)
          obtain ⟨rfl, hFo, hO, ho17, ho18⟩ := hp0
          have hF2 := FrX_tr hF1 hFo
          have h218 := ho18.trans h118
          have hK1 : ∀ K', InvX eM (W1 159) N K' B → OrdM tx ln N K' p W1 W2 := fun K' hI' => by have : K' = K1 := (nI_eq (by have := hI'.1.2.2.2.1; omega) (by have := hI1.1.2.2.2.1; omega)).mp (hI'.1.2.2.1.symm.trans hI1.1.2.2.1); rw [this]; exact hO
          obtain ⟨p', hp1, hp4, h215, r2, h216, hTr2⟩ := TrI_s hTr c_30 hpl e1 (ho17.trans h117) hK1
          refine x_aload_n h 0 dX6_tries_45 rfl rfl ?_
          refine x_dup h dX6_tries_46 rfl ?_
          refine xg_X6_18 h in_X6_tries_X6 (by decide +kernel) dX6_tries_47 ?_
          refine x_top (nI i) (h218) ?_
          refine x_iconst h (nI 1) dX6_tries_50 (by decide) ?_
          refine x_iadd_n h dX6_tries_51 ?_
          refine xp_X6_18 h in_X6_tries_X6 (by decide +kernel) dX6_tries_52 ?_
          refine x_goto h 15 dX6_tries_55 (by decide) ?_
          exact x_lv (ih15 (i + 1) p' r2 (st2 W2 158 18 (nI (i + 1))) (by omega) (by exact FrX_s _ (by omega) hF2) (by omega) (by rw [st2_k, pk_un (by decide)]; exact h215) (by rw [st2_k, pk_un (by decide)]; exact h216) (by rw [st2_k, pk_us]) (by exact TrI_st hTr2)) [0] rfl
  exact x_lv (L15 _ 0 0 (nI 0) (st2 (st2 (st2 M 158 15 (nI 0)) 158 18 (nI 0)) 158 16 (nI 0)) (Nat.lt_succ_self _) (by exact FrX_s _ (by omega) (FrX_s _ (by omega) (FrX_s _ (by omega) (FrX_rf M)))) (by omega) (by rw [st2_k, pk_un (by decide), st2_k, pk_un (by decide), st2_k, pk_us]) (by rw [st2_k, pk_us]) (by rw [st2_k, pk_un (by decide), st2_k, pk_us]) (by exact TrI_0 hI (by rw [st2_n _ _ _ (by decide), st2_n _ _ _ (by decide), st2_n _ _ _ (by decide)]))) [0] rfl
