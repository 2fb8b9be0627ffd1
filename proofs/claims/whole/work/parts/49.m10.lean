/-! the model: orders as texts -/
def TxN (M : Nat → Nat → Int32) (tx : Nat → Nat) (ln : Nat) : Prop := M 158 7 = nI ln ∧ ln ≤ 60 ∧ ∀ i, i < ln → M 163 i = nI (tx i) ∧ 32 ≤ tx i ∧ tx i ≤ 126
theorem TxN_cg {M M' : Nat → Nat → Int32} {tx : Nat → Nat} {ln : Nat} (h1 : M' 158 7 = M 158 7) (h2 : M' 163 = M 163) (h : TxN M tx ln) : TxN M' tx ln := ⟨h1.trans h.1, h.2.1, fun i hi => by rw [h2]; exact h.2.2 i hi⟩
def chM (tx : Nat → Nat) (ln p : Nat) : Int32 := if p < ln then nI (tx p) else nI 0
theorem chM_y {tx : Nat → Nat} {ln p : Nat} (h : p < ln) : chM tx ln p = nI (tx p) := if_pos h
theorem chM_D {M : Nat → Nat → Int32} {tx : Nat → Nat} {ln p : Nat} (hT : TxN M tx ln) : (nI 48 ≤ chM tx ln p ∧ chM tx ln p ≤ nI 57) ↔ isD tx ln p := by
  unfold chM
  by_cases h : p < ln
  · rw [if_pos h]
    have := (hT.2.2 p h).2
    rw [nI_leI (by omega) (by omega), nI_leI (by omega) (by omega)]
    exact ⟨fun q => ⟨h, q⟩, fun q => q.2⟩
  · rw [if_neg h]
    exact ⟨fun q => absurd q.1 (by decide), fun q => absurd q.1 h⟩
theorem chM_S {M : Nat → Nat → Int32} {tx : Nat → Nat} {ln p : Nat} (hT : TxN M tx ln) : chM tx ln p = nI 59 ↔ isC tx ln p 59 := by
  unfold chM
  by_cases h : p < ln
  · rw [if_pos h]
    have := (hT.2.2 p h).2
    rw [nI_eq (by omega) (by omega)]
    exact ⟨fun q => ⟨h, q⟩, fun q => q.2⟩
  · rw [if_neg h]
    exact ⟨fun q => absurd q (by decide), fun q => absurd q.1 h⟩
/-- how many digits stand there, two at most -/
def dgN (tx : Nat → Nat) (ln p m : Nat) : Prop := m ≤ 2 ∧ (∀ j, j < m → isD tx ln (p + j)) ∧ (m < 2 → ¬ isD tx ln (p + m))
theorem endO_h {tx : Nat → Nat} {ln p : Nat} (hp : p < ln) (h : tx p = 104) : endO tx ln p = if isC tx ln (p + 1) 59 then some (p + 1) else none := by
  unfold endO
  rw [if_pos ⟨hp, h⟩]
theorem endO_x {tx : Nat → Nat} {ln p m : Nat} (h0 : ¬ tx p = 104) (hm : dgN tx ln (p + 1) m) (h : ¬ isL tx ln p ∨ m = 0 ∨ ¬ isC tx ln (p + 1 + m) 59) : endO tx ln p = none := by
  unfold endO
  rw [if_neg (fun q => h0 q.2)]
  by_cases hL : isL tx ln p ∧ isD tx ln (p + 1)
  · rw [if_pos hL]
    rcases h with h | h | h
    · exact absurd hL.1 h
    · subst h; exact absurd hL.2 (hm.2.2 (by omega))
    · have hm0 : m ≠ 0 := fun e => by subst e; exact absurd hL.2 (hm.2.2 (by omega))
      by_cases h2 : isD tx ln (p + 2)
      · rw [if_pos h2]
        have : m = 2 := by
          have := hm.1
          rcases (show m = 1 ∨ m = 2 by omega) with rfl | rfl
          · exact absurd h2 (hm.2.2 (by omega))
          · rfl
        subst this
        exact if_neg h
      · rw [if_neg h2]
        have : m = 1 := by
          have := hm.1
          rcases (show m = 1 ∨ m = 2 by omega) with rfl | rfl
          · rfl
          · exact absurd (hm.2.1 1 (by omega)) h2
        subst this
        exact if_neg h
  · rw [if_neg hL]
theorem endO_y {tx : Nat → Nat} {ln p m : Nat} (h0 : ¬ tx p = 104) (hm : dgN tx ln (p + 1) m) (hL : isL tx ln p) (hm0 : m ≠ 0) (h : isC tx ln (p + 1 + m) 59) : endO tx ln p = some (p + 1 + m) := by
  unfold endO
  have hd := hm.2.1 0 (by omega)
  rw [if_neg (fun q => h0 q.2), if_pos ⟨hL, hd⟩]
  have := hm.1
  rcases (show m = 1 ∨ m = 2 by omega) with rfl | rfl
  · rw [if_neg (show ¬ isD tx ln (p + 2) from hm.2.2 (by omega))]
    exact if_pos h
  · rw [if_pos (show isD tx ln (p + 2) from hm.2.1 1 (by omega))]
    exact if_pos h
theorem num_lt {M : Nat → Nat → Int32} {tx : Nat → Nat} {ln p m : Nat} (hT : TxN M tx ln) (hm : dgN tx ln p m) : numL tx p m < 2000 := numL_lt (fun j hj => (hT.2.2 _ (hm.2.1 j hj).1).2.2) hm.1
def FrX (M M' : Nat → Nat → Int32) : Prop := (∀ k, (k < 158 ∨ (159 < k ∧ k < 164) ∨ k = 167) → M' k = M k) ∧ ∀ j, j ≠ 11 → j ≠ 12 → j ≠ 13 → j ≠ 15 → j ≠ 16 → j ≠ 17 → j ≠ 18 → M' 158 j = M 158 j
theorem FrX_rf (M : Nat → Nat → Int32) : FrX M M := ⟨fun _ _ => rfl, fun _ _ _ _ _ _ _ _ => rfl⟩
theorem FrX_L {M M' : Nat → Nat → Int32} (h : FrL M M') : FrX M M' := ⟨h.1, fun j a b c _ _ _ _ => h.2 j a b c⟩
theorem FrX_tr {M M1 M2 : Nat → Nat → Int32} (h : FrX M M1) (h2 : FrX M1 M2) : FrX M M2 := ⟨fun k hk => (h2.1 k hk).trans (h.1 k hk), fun j a b c d e f i => (h2.2 j a b c d e f i).trans (h.2 j a b c d e f i)⟩
theorem FrX_s {M M1 : Nat → Nat → Int32} {j : Nat} (v : Int32) (hj : j = 15 ∨ j = 16 ∨ j = 17 ∨ j = 18) (h : FrX M M1) : FrX M (st2 M1 158 j v) := ⟨fun k hk => (st2_n _ _ _ (by omega)).trans (h.1 k hk), fun q a b c d e f i => by rw [st2_k, pk_un (by omega)]; exact h.2 q a b c d e f i⟩
theorem FrX_1 {M M1 : Nat → Nat → Int32} (h1 : ∀ k, k ≠ 158 → M1 k = M k) (h2 : ∀ j, j ≠ 15 → M1 158 j = M 158 j) : FrX M M1 := ⟨fun k hk => h1 k (by omega), fun j _ _ _ d _ _ _ => h2 j d⟩
theorem FrX_v {M M1 : Nat → Nat → Int32} (Y : Nat → Int32) (h : FrX M M1) : FrX M (va_up M1 159 Y) := FrX_tr h (FrX_L (FrL_v _ (FrL_rf _)))
theorem Ch_X {M M1 M2 : Nat → Nat → Int32} (h : Ch M M1) (h2 : FrX M1 M2) : Ch M M2 := ⟨fun j hj => by rw [h2.1 160 (by omega)]; exact h.1 j hj, fun k hk => (h2.1 k (by omega)).trans (h.2.1 k hk), fun j hj => (h2.2 j (by omega) (by omega) (by omega) (by omega) (by omega) (by omega) (by omega)).trans (h.2.2 j hj)⟩
theorem Inv_ordM {X X' : Nat → Int32} {N K B L v : Nat} {r : Int32} (hI : InvX eM X N K B) (hq : ordQ bM finM eM X N K L v r X') : ∃ K', InvX eM X' N K' B := by
  have hN := hI.1.2.1
  obtain ⟨a, ⟨-, hq, -⟩ | ⟨-, hq, -⟩ | ⟨-, hq, -⟩ | ⟨-, hq, -⟩ | ⟨-, hq, -⟩ | ⟨-, hq, -⟩⟩ := hq
  · exact ⟨K, Inv_hear eM_g hI hq⟩
  · exact ⟨K, Inv_pass eM_g hI hq⟩
  · exact ⟨K, Inv_appl eM_g hI hq⟩
  · exact ⟨K, Inv_lay eM_g hI hq⟩
  · rcases hq with ⟨-, -, rfl⟩ | ⟨k, hk, -, ⟨-, -, rfl⟩ | ⟨-, z, l1, l2, -, ⟨-, -, rfl⟩ | ⟨hp, ⟨-, -, rfl⟩ | ⟨hb, -, rfl⟩⟩⟩⟩
    · exact ⟨K, hI⟩
    · exact ⟨K, hI⟩
    · exact ⟨K, hI⟩
    · exact ⟨K, hI⟩
    · exact ⟨_, Inv_dgF eM_g hI hk hp hb (finM_F hN hk hI.1.2.2.1)⟩
  · exact ⟨K, Inv_rip eM_g hI hq⟩
/-- one order: its form, what it comes to -/
def OrdM (tx : Nat → Nat) (ln N K p : Nat) (M M' : Nat → Nat → Int32) : Prop := ∃ p', p < p' ∧ p' ≤ p + 4 ∧ M' 158 15 = nI p' ∧ ((endO tx ln p = none ∧ M' 158 16 = nI 1 ∧ M' 159 = M 159) ∨ ∃ m rr, endO tx ln p = some (p + 1 + m) ∧ p' = p + 1 + m + 1 ∧ ordQ bM finM eM (M 159) N K (tx p) (numL tx (p + 1) m) rr (M' 159) ∧ M' 158 16 = rr)
def TrI (tx : Nat → Nat) (ln N K B : Nat) (X0 : Nat → Int32) (i p : Nat) (rr : Int32) (W : Nat → Nat → Int32) : Prop := (rr = 0 ∧ ∃ K', RunS bM finM eM tx ln X0 N K i p (W 159) K' ∧ InvX eM (W 159) N K' B) ∨ (¬ rr = 0 ∧ ∃ i0 q, RunE bM finM eM tx ln X0 N K i0 q rr (W 159) ∧ W 158 17 = nI q)
theorem TrI_s {tx : Nat → Nat} {ln N K B i p : Nat} {X0 : Nat → Int32} {rr : Int32} {W W1 W2 : Nat → Nat → Int32} (h : TrI tx ln N K B X0 i p rr W) (hr : rr = 0) (hp : p < ln) (h1 : W1 159 = W 159) (h2 : W2 158 17 = nI p) (hO : ∀ K', InvX eM (W1 159) N K' B → OrdM tx ln N K' p W1 W2) : ∃ p', p < p' ∧ p' ≤ p + 4 ∧ W2 158 15 = nI p' ∧ ∃ r2, W2 158 16 = r2 ∧ TrI tx ln N K B X0 (i + 1) p' r2 W2 := by
  rcases h with ⟨-, K', hS, hI⟩ | ⟨h, -⟩
  · obtain ⟨p', g1, g2, g3, ⟨q1, q2, q3⟩ | ⟨m, r2, q1, q2, q3, q4⟩⟩ := hO K' (by rw [h1]; exact hI)
    · refine ⟨p', g1, g2, g3, nI 1, q2, Or.inr ⟨by decide, i, p, ⟨W 159, K', hS, Or.inr (Or.inl ⟨hp, q1, rfl, ?_⟩)⟩, h2⟩⟩
      rw [q3, h1]
    · rw [h1] at q3
      refine ⟨p', g1, g2, g3, r2, q4, ?_⟩
      by_cases e : r2 = 0
      · obtain ⟨K2, hI2⟩ := Inv_ordM hI q3
        have e2 : r2 = nI 0 := e
        rw [e2] at q3
        exact Or.inl ⟨e, K2, ⟨p, W 159, K', m, hS, hp, q1, q2, q3, hI2.1.2.2.1, hI2.1.2.2.2.1⟩, hI2⟩
      · exact Or.inr ⟨e, i, p, ⟨W 159, K', hS, Or.inr (Or.inr ⟨hp, m, q1, q3, e⟩)⟩, h2⟩
  · exact absurd hr h

theorem TrI_0 {tx : Nat → Nat} {ln N K B : Nat} {M W : Nat → Nat → Int32} (hI : InvX eM (M 159) N K B) (h : W 159 = M 159) : TrI tx ln N K B (M 159) 0 0 (nI 0) W := Or.inl ⟨rfl, K, ⟨rfl, h, rfl⟩, by rw [h]; exact hI⟩
theorem TrI_st {tx : Nat → Nat} {ln N K B i p : Nat} {X0 : Nat → Int32} {rr v : Int32} {W : Nat → Nat → Int32} (h : TrI tx ln N K B X0 i p rr W) : TrI tx ln N K B X0 i p rr (st2 W 158 18 v) := by
  unfold TrI at h ⊢
  rw [st2_n _ _ _ (by decide), st2_k, pk_un (by decide)]
  exact h
/-- what the run comes to -/
def TrE (tx : Nat → Nat) (ln N K : Nat) (X0 : Nat → Int32) (M' : Nat → Nat → Int32) : Prop := ∃ i p rr, RunE bM finM eM tx ln X0 N K i p rr (M' 159) ∧ M' 158 16 = rr ∧ (rr = 0 → M' 158 18 = nI i) ∧ (¬ rr = 0 → M' 158 17 = nI p)
theorem TrI_e {tx : Nat → Nat} {ln N K B i p : Nat} {X0 : Nat → Int32} {rr : Int32} {W : Nat → Nat → Int32} (h : TrI tx ln N K B X0 i p rr W) (h16 : W 158 16 = rr) (h18 : W 158 18 = nI i) (he : ln ≤ p ∨ ¬ rr = 0) : TrE tx ln N K X0 W := by
  rcases h with ⟨h1, K', h2, -⟩ | ⟨h1, i0, q, h2, h3⟩
  · refine ⟨i, p, rr, ⟨W 159, K', h2, Or.inl ⟨he.elim id (fun q => absurd h1 q), h1, rfl⟩⟩, h16, fun _ => h18, fun q => absurd h1 q⟩
  · exact ⟨i0, q, rr, h2, h16, fun q => absurd q h1, fun _ => h3⟩

theorem dX6_here_0 : decode cX6_here 0 = .ok (.aload_n 0, 1) := by decide +kernel
theorem dX6_here_1 : decode cX6_here 1 = .ok (.getfield 219, 3) := by decide +kernel
theorem dX6_here_4 : decode cX6_here 4 = .ok (.aload_n 0, 1) := by decide +kernel
theorem dX6_here_5 : decode cX6_here 5 = .ok (.getfield 216, 3) := by decide +kernel
theorem dX6_here_8 : decode cX6_here 8 = .ok (.if_icmp .ge 15, 3) := by decide +kernel
theorem dX6_here_11 : decode cX6_here 11 = .ok (.aload_n 0, 1) := by decide +kernel
theorem dX6_here_12 : decode cX6_here 12 = .ok (.getfield 22, 3) := by decide +kernel
theorem dX6_here_15 : decode cX6_here 15 = .ok (.aload_n 0, 1) := by decide +kernel
theorem dX6_here_16 : decode cX6_here 16 = .ok (.getfield 219, 3) := by decide +kernel
theorem dX6_here_19 : decode cX6_here 19 = .ok (.iaload, 1) := by decide +kernel
theorem dX6_here_20 : decode cX6_here 20 = .ok (.goto 4, 3) := by decide +kernel
theorem dX6_here_23 : decode cX6_here 23 = .ok (.iconst 0, 1) := by decide +kernel
theorem dX6_here_24 : decode cX6_here 24 = .ok (.ireturn, 1) := by decide +kernel
abbrev rmX6_here : Room := { frames := 0, cells := 0, slots := 0, locals := 0 }
set_option maxRecDepth 20000 in
theorem in_X6_here_X6 : ∀ w ∈ wsX60, w ∈ wsX6_here := by decide +kernel

set_option maxRecDepth 100000 in
set_option maxHeartbeats 4000000 in
theorem c_X6_here {l : Launch} {g : Geo} {M : Nat → Nat → Int32} {P : Nat → Nat} {tx : Nat → Nat} {ln : Nat} (hT : TxN M tx ln) {p : Nat} (hp : M 158 15 = nI p) (hp3 : p < 2 ^ 30) : Met l yX6_here wsX6_here rmX6_here (cPre g [.ref (g.1 158)] M P) (cQi g (fun r M' P' => (P = P' ∧ M = M') ∧ r = chM tx ln p)) 0 0 (gA g) := by
  refine met_i (cc := cX6_here) (maxL := 1) (by decide) rfl ⟨rfl, rfl⟩ (Nat.le_of_ble_eq_true rfl) (fun x hx h hret => ?_)
  replace h : Cxk x g cX6_here 1 wsX6_here RX6 rmX6_here := h
  show X x 0 [(0, .ref (g.1 158))] [] M P
  have hl := hT.2.1
  refine x_aload_n h 0 dX6_here_0 rfl rfl ?_
  refine xg_X6_15 h in_X6_here_X6 (by decide +kernel) dX6_here_1 ?_
  refine x_top (nI p) (hp) ?_
  refine x_aload_n h 0 dX6_here_4 rfl rfl ?_
  refine xg_X6_7 h in_X6_here_X6 (by decide +kernel) dX6_here_5 ?_
  refine x_top (nI ln) (hT.1) ?_
  refine x_icmp_ge_n h 23 dX6_here_8 (by decide) (by omega) (by omega) (fun c_8 => ?_) (fun c_8 => ?_)
  · -- 8 true
    refine x_iconst h (nI 0) dX6_here_23 (by decide) ?_
    exact hret _ _ _ _ _ dX6_here_24 (by exact ⟨⟨rfl, rfl⟩, (if_neg (by omega)).symm⟩)
  · -- 8 false
    refine x_aload_n h 0 dX6_here_11 rfl rfl ?_
    refine xg_X6_4 h in_X6_here_X6 (by decide +kernel) dX6_here_12 ?_
    refine x_aload_n h 0 dX6_here_15 rfl rfl ?_
    refine xg_X6_15 h in_X6_here_X6 (by decide +kernel) dX6_here_16 ?_
    refine x_top (nI p) (hp) ?_
    refine xl_163 h dX6_here_19 (by omega) ?_
    refine x_top (nI (tx p)) ((hT.2.2 p (by omega)).1) ?_
    refine x_goto h 24 dX6_here_20 (by decide) ?_
    exact hret _ _ _ _ _ dX6_here_24 (by exact ⟨⟨rfl, rfl⟩, (if_pos (by omega)).symm⟩)

set_option maxRecDepth 20000 in
theorem ggX6_number_X6_here : GoodIn wsX6_number wsX6_here := goodIn_r _ [6, 1, 7, 8, 12, 13, 14, 15, 16, 17, 18, 19, 20, 21, 22, 23, 24, 25, 26, 27, 28, 29, 30] (by decide +kernel) (by decide +kernel)
set_option maxRecDepth 20000 in
theorem gX6_number_X6_here : GoodIn wsX6_number (wsV RX6 222 RX6 yX6_here wsX6_here) := goodIn_app (goodIn_of _ (by decide +kernel)) ggX6_number_X6_here
set_option maxRecDepth 20000 in
theorem ggX6_number_X6_in : GoodIn wsX6_number wsX6_in := goodIn_r _ [11] (by decide +kernel) (by decide +kernel)
set_option maxRecDepth 20000 in
theorem gX6_number_X6_in : GoodIn wsX6_number (va_wsS RX6 38 yX6_in wsX6_in) := goodIn_app (goodIn_of _ (by decide +kernel)) ggX6_number_X6_in
theorem dX6_number_0 : decode cX6_number 0 = .ok (.iconst 0, 1) := by decide +kernel
theorem dX6_number_1 : decode cX6_number 1 = .ok (.istore_n 1, 1) := by decide +kernel
theorem dX6_number_2 : decode cX6_number 2 = .ok (.iconst 0, 1) := by decide +kernel
theorem dX6_number_3 : decode cX6_number 3 = .ok (.istore_n 2, 1) := by decide +kernel
theorem dX6_number_4 : decode cX6_number 4 = .ok (.iload_n 2, 1) := by decide +kernel
theorem dX6_number_5 : decode cX6_number 5 = .ok (.iconst 2, 1) := by decide +kernel
theorem dX6_number_6 : decode cX6_number 6 = .ok (.if_icmp .ge 46, 3) := by decide +kernel
theorem dX6_number_9 : decode cX6_number 9 = .ok (.aload_n 0, 1) := by decide +kernel
theorem dX6_number_10 : decode cX6_number 10 = .ok (.invokevirtual 222, 3) := by decide +kernel
theorem dX6_number_13 : decode cX6_number 13 = .ok (.bipush 48, 2) := by decide +kernel
theorem dX6_number_15 : decode cX6_number 15 = .ok (.bipush 57, 2) := by decide +kernel
theorem dX6_number_17 : decode cX6_number 17 = .ok (.invokestatic 38, 3) := by decide +kernel
theorem dX6_number_20 : decode cX6_number 20 = .ok (.ifCond .eq 32, 3) := by decide +kernel
theorem dX6_number_23 : decode cX6_number 23 = .ok (.bipush 10, 2) := by decide +kernel
theorem dX6_number_25 : decode cX6_number 25 = .ok (.iload_n 1, 1) := by decide +kernel
theorem dX6_number_26 : decode cX6_number 26 = .ok (.imul, 1) := by decide +kernel
theorem dX6_number_27 : decode cX6_number 27 = .ok (.aload_n 0, 1) := by decide +kernel
theorem dX6_number_28 : decode cX6_number 28 = .ok (.invokevirtual 222, 3) := by decide +kernel
theorem dX6_number_31 : decode cX6_number 31 = .ok (.iadd, 1) := by decide +kernel
theorem dX6_number_32 : decode cX6_number 32 = .ok (.bipush 48, 2) := by decide +kernel
theorem dX6_number_34 : decode cX6_number 34 = .ok (.isub, 1) := by decide +kernel
theorem dX6_number_35 : decode cX6_number 35 = .ok (.istore_n 1, 1) := by decide +kernel
theorem dX6_number_36 : decode cX6_number 36 = .ok (.aload_n 0, 1) := by decide +kernel
theorem dX6_number_37 : decode cX6_number 37 = .ok (.dup, 1) := by decide +kernel
theorem dX6_number_38 : decode cX6_number 38 = .ok (.getfield 219, 3) := by decide +kernel
theorem dX6_number_41 : decode cX6_number 41 = .ok (.iconst 1, 1) := by decide +kernel
theorem dX6_number_42 : decode cX6_number 42 = .ok (.iadd, 1) := by decide +kernel
theorem dX6_number_43 : decode cX6_number 43 = .ok (.putfield 219, 3) := by decide +kernel
theorem dX6_number_46 : decode cX6_number 46 = .ok (.iinc 2 1, 3) := by decide +kernel
theorem dX6_number_49 : decode cX6_number 49 = .ok (.goto (-45), 3) := by decide +kernel
theorem dX6_number_52 : decode cX6_number 52 = .ok (.iload_n 2, 1) := by decide +kernel
theorem dX6_number_53 : decode cX6_number 53 = .ok (.ifCond .ne 7, 3) := by decide +kernel
theorem dX6_number_56 : decode cX6_number 56 = .ok (.iconst (-1), 1) := by decide +kernel
theorem dX6_number_57 : decode cX6_number 57 = .ok (.goto 4, 3) := by decide +kernel
theorem dX6_number_60 : decode cX6_number 60 = .ok (.iload_n 1, 1) := by decide +kernel
theorem dX6_number_61 : decode cX6_number 61 = .ok (.ireturn, 1) := by decide +kernel
abbrev rmX6_number : Room := { frames := 1, cells := 0, slots := 0, locals := 22 }
set_option maxRecDepth 20000 in
theorem in_X6_number_X6 : ∀ w ∈ wsX60, w ∈ wsX6_number := by decide +kernel

set_option maxRecDepth 100000 in
set_option maxHeartbeats 4000000 in
theorem c_X6_number {l : Launch} {g : Geo} {M : Nat → Nat → Int32} {P : Nat → Nat} {tx : Nat → Nat} {ln : Nat} (hT : TxN M tx ln) {p : Nat} (hpp : M 158 15 = nI p) (hp3 : p < 2 ^ 20) : Met l yX6_number wsX6_number rmX6_number (cPre g [.ref (g.1 158)] M P) (cQi g (fun r M' P' => P = P' ∧ (∀ k, k ≠ 158 → M' k = M k) ∧ (∀ j, j ≠ 15 → M' 158 j = M 158 j) ∧ ∃ m, dgN tx ln p m ∧ M' 158 15 = nI (p + m) ∧ ((m = 0 ∧ r = -1) ∨ (m ≠ 0 ∧ r = nI (numL tx p m))))) 0 0 (gA g) := by
  refine met_i (cc := cX6_number) (maxL := 3) (by decide) rfl ⟨rfl, rfl⟩ (Nat.le_of_ble_eq_true rfl) (fun x hx h hret => ?_)
  replace h : Cxk x g cX6_number 3 wsX6_number RX6 rmX6_number := h
  show X x 0 [(0, .ref (g.1 158))] [] M P
  refine x_iconst h (nI 0) dX6_number_0 (by decide) ?_
  refine x_istore_n h [(1, .int (nI 0)), (0, .ref (g.1 158))] dX6_number_1 rfl (by decide) rfl ?_
  refine x_iconst h (nI 0) dX6_number_2 (by decide) ?_
  refine x_istore_n h [(2, .int (nI 0)), (1, .int (nI 0)), (0, .ref (g.1 158))] dX6_number_3 rfl (by decide) rfl ?_
  have L4 : ∀ (fu : Nat) (v : Nat) (m : Nat) (W : Nat → Nat → Int32), (2 - m) < fu → (m ≤ 2) → (v = numL tx p m) → (∀ j, j < m → isD tx ln (p + j)) → (∀ k, k ≠ 158 → W k = M k) → (∀ j, j ≠ 15 → W 158 j = M 158 j) → (W 158 15 = nI (p + m)) → X x 4 [(0, .ref (g.1 158)), (1, .int (nI v)), (2, .int (nI m))] [] W P := by
    intro fu
    induction fu with
    | zero => intro v m W hmu4; exact absurd hmu4 (Nat.not_lt_zero _)
    | succ fu ih4 =>
      intro v m W hmu4 hm hv hd hWk hW8 hW15
      refine x_iload_n h 2 dX6_number_4 rfl rfl ?_
      refine x_iconst h (nI 2) dX6_number_5 (by decide) ?_
      refine x_icmp_ge_n h 52 dX6_number_6 (by decide) (by omega) (by decide) (fun c_6 => ?_) (fun c_6 => ?_)
      · -- 6 true
        refine x_iload_n h 2 dX6_number_52 rfl rfl ?_
        refine x_if_ne_n h 60 dX6_number_53 (by decide) (by omega) (fun c_53 => ?_) (fun c_53 => ?_)
        · -- 53 true
          refine x_iload_n h 1 dX6_number_60 rfl rfl ?_
          exact hret _ _ _ _ _ dX6_number_61 (by refine ⟨rfl, hWk, hW8, m, ⟨hm, hd, fun q => by first | omega | exact fun z => ni17 ((chM_D hT).mpr z)⟩, hW15, ?_⟩; first | exact Or.inl ⟨by omega, rfl⟩ | exact Or.inr ⟨by omega, by rw [hv]⟩)
        · -- 53 false
          refine x_iconst h ((-1)) dX6_number_56 (by decide) ?_
          refine x_goto h 61 dX6_number_57 (by decide) ?_
          exact hret _ _ _ _ _ dX6_number_61 (by refine ⟨rfl, hWk, hW8, m, ⟨hm, hd, fun q => by first | omega | exact fun z => ni17 ((chM_D hT).mpr z)⟩, hW15, ?_⟩; first | exact Or.inl ⟨by omega, rfl⟩ | exact Or.inr ⟨by omega, by rw [hv]⟩)
      · -- 6 false
        refine x_aload_n h 0 dX6_number_9 rfl rfl ?_
        refine x_callV h (As := []) 0 hx (c_X6_here (tx := tx) (ln := ln) (TxN_cg (hW8 7 (by decide)) (hWk 163 (by decide)) hT) (p := p + m) (hW15) (by omega)) gX6_number_X6_here rfl ⟨rfl, rfl⟩ (by decide +kernel) rfl (by decide) (by decide) E_158 rfl rfl (Nat.le_of_ble_eq_true rfl) dX6_number_10 (fun rv M' P' hp => ?_)
        obtain ⟨⟨rfl, rfl⟩, rfl⟩ := hp
        refine x_bipush h (nI 48) dX6_number_13 (by decide) ?_
        refine x_bipush h (nI 57) dX6_number_15 (by decide) ?_
        refine x_callS h (As := [.int (chM tx ln (p + m)), .int (nI 48), .int (nI 57)]) 3 hx (c_X6_in) gX6_number_X6_in rfl ⟨rfl, rfl⟩ (by decide +kernel) rfl (by decide) (Nat.le_of_ble_eq_true rfl) dX6_number_17 (fun rv M' P' hp => ?_)
        obtain ⟨⟨rfl, rfl⟩, hp⟩ := hp
        rcases hp with ⟨i17, rfl⟩ | ⟨ni17, rfl⟩
        · -- call 17
          refine x_if_eq h 52 dX6_number_20 (by decide) (fun c => absurd c (by decide)) (fun _ => ?_)
          refine x_bipush h (nI 10) dX6_number_23 (by decide) ?_
          refine x_iload_n h 1 dX6_number_25 rfl rfl ?_
          refine x_imul_n h dX6_number_26 ?_
          refine x_aload_n h 0 dX6_number_27 rfl rfl ?_
          refine x_callV h (As := []) 0 hx (c_X6_here (tx := tx) (ln := ln) (TxN_cg (hW8 7 (by decide)) (hWk 163 (by decide)) hT) (p := p + m) (hW15) (by omega)) gX6_number_X6_here rfl ⟨rfl, rfl⟩ (by decide +kernel) rfl (by decide) (by decide) E_158 rfl rfl (Nat.le_of_ble_eq_true rfl) dX6_number_28 (fun rv M' P' hp => ?_)
          obtain ⟨⟨rfl, rfl⟩, rfl⟩ := hp
          refine x_top (nI (tx (p + m))) (chM_y ((chM_D hT).mp i17).1) ?_
          refine x_iadd_n h dX6_number_31 ?_
          refine x_bipush h (nI 48) dX6_number_32 (by decide) ?_
          refine x_isub_n h dX6_number_34 (by have := ((chM_D hT).mp i17).2; omega) ?_
          refine x_istore_n h [(1, .int (nI (((10 * v) + (tx (p + m))) - 48))), (0, .ref (g.1 158)), (2, .int (nI m))] dX6_number_35 rfl (by decide) rfl ?_
          refine x_aload_n h 1 dX6_number_36 rfl rfl ?_
          refine x_dup h dX6_number_37 rfl ?_
          refine xg_X6_15 h in_X6_number_X6 (by decide +kernel) dX6_number_38 ?_
          refine x_top (nI (p + m)) (hW15) ?_
          refine x_iconst h (nI 1) dX6_number_41 (by decide) ?_
          refine x_iadd_n h dX6_number_42 ?_
          refine xp_X6_15 h in_X6_number_X6 (by decide +kernel) dX6_number_43 ?_
          refine x_iinc_n h 2 (n := 1) [(2, .int (nI (m + 1))), (1, .int (nI (((10 * v) + (tx (p + m))) - 48))), (0, .ref (g.1 158))] dX6_number_46 rfl (by decide) rfl ?_
          refine x_goto h 4 dX6_number_49 (by decide) ?_
          exact x_lv (ih4 (((10 * v) + (tx (p + m))) - 48) (m + 1) (st2 W 158 15 (nI ((p + m) + 1))) (by omega) (by omega) (by rw [hv]; rfl) (by intro j hj; rcases Nat.lt_succ_iff_lt_or_eq.mp hj with e | rfl; exact hd j e; exact (chM_D hT).mp i17) (by exact fun k hk => (st2_n _ _ _ hk).trans (hWk k hk)) (by exact fun j hj => by rw [st2_k, pk_un hj]; exact hW8 j hj) (by rw [st2_k, pk_us]; congr 1)) [2, 1, 0] rfl
        · -- call 17
          refine x_if_eq h 52 dX6_number_20 (by decide) (fun _ => ?_) (fun c => absurd (by decide) c)
          refine x_iload_n h 2 dX6_number_52 rfl rfl ?_
          refine x_if_ne_n h 60 dX6_number_53 (by decide) (by omega) (fun c_53 => ?_) (fun c_53 => ?_)
          · -- 53 true
            refine x_iload_n h 1 dX6_number_60 rfl rfl ?_
            exact hret _ _ _ _ _ dX6_number_61 (by refine ⟨rfl, hWk, hW8, m, ⟨hm, hd, fun q => by first | omega | exact fun z => ni17 ((chM_D hT).mpr z)⟩, hW15, ?_⟩; first | exact Or.inl ⟨by omega, rfl⟩ | exact Or.inr ⟨by omega, by rw [hv]⟩)
          · -- 53 false
            refine x_iconst h ((-1)) dX6_number_56 (by decide) ?_
            refine x_goto h 61 dX6_number_57 (by decide) ?_
            exact hret _ _ _ _ _ dX6_number_61 (by refine ⟨rfl, hWk, hW8, m, ⟨hm, hd, fun q => by first | omega | exact fun z => ni17 ((chM_D hT).mpr z)⟩, hW15, ?_⟩; first | exact Or.inl ⟨by omega, rfl⟩ | exact Or.inr ⟨by omega, by rw [hv]⟩)
  exact x_lv (L4 _ 0 0 M (Nat.lt_succ_self _) (by omega) (by rfl) (by exact fun j hj => absurd hj (Nat.not_lt_zero j)) (by exact fun _ _ => rfl) (by exact fun _ _ => rfl) (by exact hpp)) [2, 1, 0] rfl

set_option maxRecDepth 20000 in
theorem ggX6_order_X6_here : GoodIn wsX6_order wsX6_here := goodIn_r _ [7, 1, 8, 9, 172, 173, 174, 175, 176, 177, 178, 179, 180, 181, 182, 183, 184, 185, 186, 187, 188, 189, 190] (by decide +kernel) (by decide +kernel)
set_option maxRecDepth 20000 in
theorem gX6_order_X6_here : GoodIn wsX6_order (wsV RX6 222 RX6 yX6_here wsX6_here) := goodIn_app (goodIn_of _ (by decide +kernel)) ggX6_order_X6_here
set_option maxRecDepth 20000 in
theorem ggX6_order_X6_number : GoodIn wsX6_order wsX6_number := goodIn_r _ [13, 1, 3, 4, 5, 6, 7, 8, 9, 14, 15, 16, 172, 173, 174, 175, 176, 177, 178, 179, 180, 181, 182, 183, 184, 185, 186, 187, 188, 189, 190] (by decide +kernel) (by decide +kernel)
set_option maxRecDepth 20000 in
theorem gX6_order_X6_number : GoodIn wsX6_order (wsV RX6 225 RX6 yX6_number wsX6_number) := goodIn_app (goodIn_of _ (by decide +kernel)) ggX6_order_X6_number
set_option maxRecDepth 20000 in
theorem ggX6_order_X6_isClaim : GoodIn wsX6_order wsX6_isClaim := goodIn_r _ [20, 21, 14, 15, 6, 16, 172, 173, 174, 175, 176, 177, 178, 179, 180, 181, 182, 183, 184, 185, 186, 187, 188, 189, 190] (by decide +kernel) (by decide +kernel)
set_option maxRecDepth 20000 in
theorem gX6_order_X6_isClaim : GoodIn wsX6_order (wsV RX6 171 RX6 yX6_isClaim wsX6_isClaim) := goodIn_app (goodIn_of _ (by decide +kernel)) ggX6_order_X6_isClaim
set_option maxRecDepth 20000 in
theorem ggX6_order_X6_isNet : GoodIn wsX6_order wsX6_isNet := goodIn_r _ [25, 21, 14, 15, 6, 16, 172, 173, 174, 175, 176, 177, 178, 179, 180, 181, 182, 183, 184, 185, 186, 187, 188, 189, 190] (by decide +kernel) (by decide +kernel)
set_option maxRecDepth 20000 in
theorem gX6_order_X6_isNet : GoodIn wsX6_order (wsV RX6 77 RX6 yX6_isNet wsX6_isNet) := goodIn_app (goodIn_of _ (by decide +kernel)) ggX6_order_X6_isNet
set_option maxRecDepth 20000 in
theorem ggX6_order_X6_lays : GoodIn wsX6_order wsX6_lays := goodIn_r _ [29, 30, 31, 21, 32, 22, 23, 24, 6, 25, 14, 15, 16, 33, 34, 35, 36, 37, 38, 39, 40, 41, 42, 43, 44, 45, 46, 47, 48, 49, 50, 51, 52, 53, 54, 55, 56, 57, 58, 59, 60, 61, 62, 63, 64, 65, 66, 67, 68, 69, 70, 71, 72, 73, 74, 75, 76, 77, 172, 173, 174, 175, 176, 177, 178, 179, 180, 181, 182, 183, 184, 185, 186, 187, 188, 189, 190] (by decide +kernel) (by decide +kernel)
set_option maxRecDepth 20000 in
theorem gX6_order_X6_lays : GoodIn wsX6_order (wsV RX6 141 RX6 yX6_lays wsX6_lays) := goodIn_app (goodIn_of _ (by decide +kernel)) ggX6_order_X6_lays
set_option maxRecDepth 20000 in
theorem ggX6_order_X6_digsFor : GoodIn wsX6_order wsX6_digsFor := goodIn_r _ [81, 30, 31, 21, 82, 22, 23, 24, 6, 25, 14, 15, 16, 33, 34, 35, 36, 37, 38, 39, 40, 41, 42, 43, 44, 45, 46, 32, 47, 48, 49, 50, 51, 52, 53, 54, 55, 56, 57, 58, 59, 60, 61, 62, 63, 64, 65, 66, 67, 68, 69, 70, 71, 72, 73, 83, 84, 85, 86, 87, 88, 89, 90, 91, 92, 93, 94, 95, 96, 97, 98, 99, 100, 101, 102, 103, 104, 105, 106, 107, 108, 109, 110, 111, 112, 113, 114, 115, 116, 117, 118, 119, 120, 121, 122, 123, 124, 125, 74, 75, 76, 77, 172, 173, 174, 175, 176, 177, 178, 179, 180, 181, 182, 183, 184, 185, 186, 187, 188, 189, 190] (by decide +kernel) (by decide +kernel)
set_option maxRecDepth 20000 in
theorem gX6_order_X6_digsFor : GoodIn wsX6_order (wsV RX6 162 RX6 yX6_digsFor wsX6_digsFor) := goodIn_app (goodIn_of _ (by decide +kernel)) ggX6_order_X6_digsFor
set_option maxRecDepth 20000 in
theorem ggX6_order_X6_rips : GoodIn wsX6_order wsX6_rips := goodIn_r _ [129, 30, 31, 21, 22, 23, 24, 6, 25, 14, 15, 16, 33, 34, 35, 36, 37, 38, 39, 40, 114, 115, 116, 117, 122, 123, 124, 125, 172, 173, 174, 175, 176, 177, 178, 179, 180, 181, 182, 183, 184, 185, 186, 187, 188, 189, 190] (by decide +kernel) (by decide +kernel)
set_option maxRecDepth 20000 in
theorem gX6_order_X6_rips : GoodIn wsX6_order (wsV RX6 165 RX6 yX6_rips wsX6_rips) := goodIn_app (goodIn_of _ (by decide +kernel)) ggX6_order_X6_rips
set_option maxRecDepth 20000 in
theorem ggX6_order_X6_appeals : GoodIn wsX6_order wsX6_appeals := goodIn_r _ [133, 30, 21, 31, 17, 18, 19, 6, 20, 14, 15, 16, 134, 135, 136, 137, 138, 139, 140, 141, 142, 143, 144, 145, 172, 173, 174, 175, 176, 177, 178, 179, 180, 181, 182, 183, 184, 185, 186, 187, 188, 189, 190] (by decide +kernel) (by decide +kernel)
set_option maxRecDepth 20000 in
theorem gX6_order_X6_appeals : GoodIn wsX6_order (wsV RX6 180 RX6 yX6_appeals wsX6_appeals) := goodIn_app (goodIn_of _ (by decide +kernel)) ggX6_order_X6_appeals
set_option maxRecDepth 20000 in
theorem ggX6_order_X6_hears : GoodIn wsX6_order wsX6_hears := goodIn_r _ [149, 31, 21, 150, 151, 152, 6, 153, 154, 155, 156, 157, 158, 134, 135, 136, 137, 37, 38, 39, 40, 102, 103, 104, 105, 106, 107, 108, 109, 122, 123, 124, 125, 159, 160, 161, 162, 33, 34, 35, 36, 163, 164, 165, 166, 172, 173, 174, 175, 176, 177, 178, 179, 180, 181, 182, 183, 184, 185, 186, 187, 188, 189, 190] (by decide +kernel) (by decide +kernel)
set_option maxRecDepth 20000 in
theorem gX6_order_X6_hears : GoodIn wsX6_order (wsV RX6 195 RX6 yX6_hears wsX6_hears) := goodIn_app (goodIn_of _ (by decide +kernel)) ggX6_order_X6_hears
set_option maxRecDepth 20000 in
theorem ggX6_order_X6_passes : GoodIn wsX6_order wsX6_passes := goodIn_r _ [170, 30, 21, 171, 82, 14, 15, 6, 16, 172, 173, 174, 175, 176, 177, 178, 179, 180, 181, 182, 183, 184, 185, 186, 187, 188, 189, 190] (by decide +kernel) (by decide +kernel)
set_option maxRecDepth 20000 in
theorem gX6_order_X6_passes : GoodIn wsX6_order (wsV RX6 198 RX6 yX6_passes wsX6_passes) := goodIn_app (goodIn_of _ (by decide +kernel)) ggX6_order_X6_passes
theorem dX6_order_0 : decode cX6_order 0 = .ok (.aload_n 0, 1) := by decide +kernel
theorem dX6_order_1 : decode cX6_order 1 = .ok (.invokevirtual 222, 3) := by decide +kernel
theorem dX6_order_4 : decode cX6_order 4 = .ok (.istore_n 1, 1) := by decide +kernel
theorem dX6_order_5 : decode cX6_order 5 = .ok (.aload_n 0, 1) := by decide +kernel
theorem dX6_order_6 : decode cX6_order 6 = .ok (.dup, 1) := by decide +kernel
theorem dX6_order_7 : decode cX6_order 7 = .ok (.getfield 219, 3) := by decide +kernel
theorem dX6_order_10 : decode cX6_order 10 = .ok (.iconst 1, 1) := by decide +kernel
theorem dX6_order_11 : decode cX6_order 11 = .ok (.iadd, 1) := by decide +kernel
theorem dX6_order_12 : decode cX6_order 12 = .ok (.putfield 219, 3) := by decide +kernel
theorem dX6_order_15 : decode cX6_order 15 = .ok (.iload_n 1, 1) := by decide +kernel
theorem dX6_order_16 : decode cX6_order 16 = .ok (.bipush 104, 2) := by decide +kernel
theorem dX6_order_18 : decode cX6_order 18 = .ok (.if_icmp .ne 7, 3) := by decide +kernel
theorem dX6_order_21 : decode cX6_order 21 = .ok (.iconst 0, 1) := by decide +kernel
theorem dX6_order_22 : decode cX6_order 22 = .ok (.goto 7, 3) := by decide +kernel
theorem dX6_order_25 : decode cX6_order 25 = .ok (.aload_n 0, 1) := by decide +kernel
theorem dX6_order_26 : decode cX6_order 26 = .ok (.invokevirtual 225, 3) := by decide +kernel
theorem dX6_order_29 : decode cX6_order 29 = .ok (.istore_n 2, 1) := by decide +kernel
theorem dX6_order_30 : decode cX6_order 30 = .ok (.iload_n 2, 1) := by decide +kernel
theorem dX6_order_31 : decode cX6_order 31 = .ok (.ifCond .lt 52, 3) := by decide +kernel
theorem dX6_order_34 : decode cX6_order 34 = .ok (.aload_n 0, 1) := by decide +kernel
theorem dX6_order_35 : decode cX6_order 35 = .ok (.invokevirtual 222, 3) := by decide +kernel
theorem dX6_order_38 : decode cX6_order 38 = .ok (.bipush 59, 2) := by decide +kernel
theorem dX6_order_40 : decode cX6_order 40 = .ok (.if_icmp .ne 43, 3) := by decide +kernel
theorem dX6_order_43 : decode cX6_order 43 = .ok (.iload_n 1, 1) := by decide +kernel
theorem dX6_order_44 : decode cX6_order 44 = .ok (.bipush 108, 2) := by decide +kernel
theorem dX6_order_46 : decode cX6_order 46 = .ok (.if_icmp .eq 33, 3) := by decide +kernel
theorem dX6_order_49 : decode cX6_order 49 = .ok (.iload_n 1, 1) := by decide +kernel
theorem dX6_order_50 : decode cX6_order 50 = .ok (.bipush 100, 2) := by decide +kernel
theorem dX6_order_52 : decode cX6_order 52 = .ok (.if_icmp .eq 27, 3) := by decide +kernel
theorem dX6_order_55 : decode cX6_order 55 = .ok (.iload_n 1, 1) := by decide +kernel
theorem dX6_order_56 : decode cX6_order 56 = .ok (.bipush 114, 2) := by decide +kernel
theorem dX6_order_58 : decode cX6_order 58 = .ok (.if_icmp .eq 21, 3) := by decide +kernel
theorem dX6_order_61 : decode cX6_order 61 = .ok (.iload_n 1, 1) := by decide +kernel
theorem dX6_order_62 : decode cX6_order 62 = .ok (.bipush 97, 2) := by decide +kernel
theorem dX6_order_64 : decode cX6_order 64 = .ok (.if_icmp .eq 15, 3) := by decide +kernel
theorem dX6_order_67 : decode cX6_order 67 = .ok (.iload_n 1, 1) := by decide +kernel
theorem dX6_order_68 : decode cX6_order 68 = .ok (.bipush 104, 2) := by decide +kernel
theorem dX6_order_70 : decode cX6_order 70 = .ok (.if_icmp .eq 9, 3) := by decide +kernel
theorem dX6_order_73 : decode cX6_order 73 = .ok (.iload_n 1, 1) := by decide +kernel
theorem dX6_order_74 : decode cX6_order 74 = .ok (.bipush 119, 2) := by decide +kernel
theorem dX6_order_76 : decode cX6_order 76 = .ok (.if_icmp .ne 7, 3) := by decide +kernel
theorem dX6_order_79 : decode cX6_order 79 = .ok (.iconst 1, 1) := by decide +kernel
theorem dX6_order_80 : decode cX6_order 80 = .ok (.goto 4, 3) := by decide +kernel
theorem dX6_order_83 : decode cX6_order 83 = .ok (.iconst 0, 1) := by decide +kernel
theorem dX6_order_84 : decode cX6_order 84 = .ok (.istore_n 3, 1) := by decide +kernel
theorem dX6_order_85 : decode cX6_order 85 = .ok (.aload_n 0, 1) := by decide +kernel
theorem dX6_order_86 : decode cX6_order 86 = .ok (.dup, 1) := by decide +kernel
theorem dX6_order_87 : decode cX6_order 87 = .ok (.getfield 219, 3) := by decide +kernel
theorem dX6_order_90 : decode cX6_order 90 = .ok (.iconst 1, 1) := by decide +kernel
theorem dX6_order_91 : decode cX6_order 91 = .ok (.iadd, 1) := by decide +kernel
theorem dX6_order_92 : decode cX6_order 92 = .ok (.putfield 219, 3) := by decide +kernel
theorem dX6_order_95 : decode cX6_order 95 = .ok (.iload_n 3, 1) := by decide +kernel
theorem dX6_order_96 : decode cX6_order 96 = .ok (.ifCond .ne 9, 3) := by decide +kernel
theorem dX6_order_99 : decode cX6_order 99 = .ok (.aload_n 0, 1) := by decide +kernel
theorem dX6_order_100 : decode cX6_order 100 = .ok (.iconst 1, 1) := by decide +kernel
theorem dX6_order_101 : decode cX6_order 101 = .ok (.putfield 228, 3) := by decide +kernel
theorem dX6_order_104 : decode cX6_order 104 = .ok (.return_, 1) := by decide +kernel
theorem dX6_order_105 : decode cX6_order 105 = .ok (.iload_n 1, 1) := by decide +kernel
theorem dX6_order_106 : decode cX6_order 106 = .ok (.bipush 97, 2) := by decide +kernel
theorem dX6_order_108 : decode cX6_order 108 = .ok (.if_icmp .ne 14, 3) := by decide +kernel
theorem dX6_order_111 : decode cX6_order 111 = .ok (.aload_n 0, 1) := by decide +kernel
theorem dX6_order_112 : decode cX6_order 112 = .ok (.iload_n 2, 1) := by decide +kernel
theorem dX6_order_113 : decode cX6_order 113 = .ok (.invokevirtual 171, 3) := by decide +kernel
theorem dX6_order_116 : decode cX6_order 116 = .ok (.ifCond .ne 32, 3) := by decide +kernel
theorem dX6_order_119 : decode cX6_order 119 = .ok (.goto 23, 3) := by decide +kernel
theorem dX6_order_122 : decode cX6_order 122 = .ok (.iload_n 1, 1) := by decide +kernel
theorem dX6_order_123 : decode cX6_order 123 = .ok (.bipush 104, 2) := by decide +kernel
theorem dX6_order_125 : decode cX6_order 125 = .ok (.if_icmp .eq 23, 3) := by decide +kernel
theorem dX6_order_128 : decode cX6_order 128 = .ok (.iload_n 1, 1) := by decide +kernel
theorem dX6_order_129 : decode cX6_order 129 = .ok (.bipush 119, 2) := by decide +kernel
theorem dX6_order_131 : decode cX6_order 131 = .ok (.if_icmp .eq 17, 3) := by decide +kernel
theorem dX6_order_134 : decode cX6_order 134 = .ok (.aload_n 0, 1) := by decide +kernel
theorem dX6_order_135 : decode cX6_order 135 = .ok (.iload_n 2, 1) := by decide +kernel
theorem dX6_order_136 : decode cX6_order 136 = .ok (.invokevirtual 77, 3) := by decide +kernel
theorem dX6_order_139 : decode cX6_order 139 = .ok (.ifCond .ne 9, 3) := by decide +kernel
theorem dX6_order_142 : decode cX6_order 142 = .ok (.aload_n 0, 1) := by decide +kernel
theorem dX6_order_143 : decode cX6_order 143 = .ok (.iconst 2, 1) := by decide +kernel
theorem dX6_order_144 : decode cX6_order 144 = .ok (.putfield 228, 3) := by decide +kernel
theorem dX6_order_147 : decode cX6_order 147 = .ok (.return_, 1) := by decide +kernel
theorem dX6_order_148 : decode cX6_order 148 = .ok (.iload_n 1, 1) := by decide +kernel
theorem dX6_order_149 : decode cX6_order 149 = .ok (.lookupswitch 100 #[(97, 81), (100, 61), (104, 91), (108, 51), (114, 71)], 51) := by decide +kernel
theorem dX6_order_200 : decode cX6_order 200 = .ok (.aload_n 0, 1) := by decide +kernel
theorem dX6_order_201 : decode cX6_order 201 = .ok (.iload_n 2, 1) := by decide +kernel
theorem dX6_order_202 : decode cX6_order 202 = .ok (.invokevirtual 141, 3) := by decide +kernel
theorem dX6_order_205 : decode cX6_order 205 = .ok (.istore 4, 2) := by decide +kernel
theorem dX6_order_207 : decode cX6_order 207 = .ok (.goto 49, 3) := by decide +kernel
theorem dX6_order_210 : decode cX6_order 210 = .ok (.aload_n 0, 1) := by decide +kernel
theorem dX6_order_211 : decode cX6_order 211 = .ok (.iload_n 2, 1) := by decide +kernel
theorem dX6_order_212 : decode cX6_order 212 = .ok (.invokevirtual 162, 3) := by decide +kernel
theorem dX6_order_215 : decode cX6_order 215 = .ok (.istore 4, 2) := by decide +kernel
theorem dX6_order_217 : decode cX6_order 217 = .ok (.goto 39, 3) := by decide +kernel
theorem dX6_order_220 : decode cX6_order 220 = .ok (.aload_n 0, 1) := by decide +kernel
theorem dX6_order_221 : decode cX6_order 221 = .ok (.iload_n 2, 1) := by decide +kernel
theorem dX6_order_222 : decode cX6_order 222 = .ok (.invokevirtual 165, 3) := by decide +kernel
theorem dX6_order_225 : decode cX6_order 225 = .ok (.istore 4, 2) := by decide +kernel
theorem dX6_order_227 : decode cX6_order 227 = .ok (.goto 29, 3) := by decide +kernel
theorem dX6_order_230 : decode cX6_order 230 = .ok (.aload_n 0, 1) := by decide +kernel
theorem dX6_order_231 : decode cX6_order 231 = .ok (.iload_n 2, 1) := by decide +kernel
theorem dX6_order_232 : decode cX6_order 232 = .ok (.invokevirtual 180, 3) := by decide +kernel
theorem dX6_order_235 : decode cX6_order 235 = .ok (.istore 4, 2) := by decide +kernel
theorem dX6_order_237 : decode cX6_order 237 = .ok (.goto 19, 3) := by decide +kernel
theorem dX6_order_240 : decode cX6_order 240 = .ok (.aload_n 0, 1) := by decide +kernel
theorem dX6_order_241 : decode cX6_order 241 = .ok (.invokevirtual 195, 3) := by decide +kernel
theorem dX6_order_244 : decode cX6_order 244 = .ok (.istore 4, 2) := by decide +kernel
theorem dX6_order_246 : decode cX6_order 246 = .ok (.goto 10, 3) := by decide +kernel
theorem dX6_order_249 : decode cX6_order 249 = .ok (.aload_n 0, 1) := by decide +kernel
theorem dX6_order_250 : decode cX6_order 250 = .ok (.iload_n 2, 1) := by decide +kernel
theorem dX6_order_251 : decode cX6_order 251 = .ok (.invokevirtual 198, 3) := by decide +kernel
theorem dX6_order_254 : decode cX6_order 254 = .ok (.istore 4, 2) := by decide +kernel
theorem dX6_order_256 : decode cX6_order 256 = .ok (.aload_n 0, 1) := by decide +kernel
theorem dX6_order_257 : decode cX6_order 257 = .ok (.iload 4, 2) := by decide +kernel
theorem dX6_order_259 : decode cX6_order 259 = .ok (.ifCond .ge 7, 3) := by decide +kernel
theorem dX6_order_262 : decode cX6_order 262 = .ok (.iconst 3, 1) := by decide +kernel
theorem dX6_order_263 : decode cX6_order 263 = .ok (.goto 4, 3) := by decide +kernel
theorem dX6_order_266 : decode cX6_order 266 = .ok (.iconst 0, 1) := by decide +kernel
theorem dX6_order_267 : decode cX6_order 267 = .ok (.putfield 228, 3) := by decide +kernel
theorem dX6_order_270 : decode cX6_order 270 = .ok (.return_, 1) := by decide +kernel
abbrev rmX6_order : Room := { frames := 6, cells := 0, slots := 0, locals := 148 }
set_option maxRecDepth 20000 in
theorem in_X6_order_X6 : ∀ w ∈ wsX60, w ∈ wsX6_order := by decide +kernel

set_option maxRecDepth 100000 in
set_option maxHeartbeats 16000000 in
theorem c_X6_order {l : Launch} {g : Geo} {M : Nat → Nat → Int32} {P : Nat → Nat} {N K B : Nat} (hI : InvX eM (M 159) N K B) {tx : Nat → Nat} {ln : Nat} (hT : TxN M tx ln) {p : Nat} (hpp : M 158 15 = nI p) (hp : p < ln) : Met l yX6_order wsX6_order rmX6_order (cPre g [.ref (g.1 158)] M P) (cQv g (fun M' P' => P = P' ∧ FrX M M' ∧ OrdM tx ln N K p M M' ∧ M' 158 17 = M 158 17 ∧ M' 158 18 = M 158 18)) 0 0 (gA g) := by
  refine met_v (cc := cX6_order) (maxL := 5) (by decide) rfl ⟨rfl, rfl⟩ (Nat.le_of_ble_eq_true rfl) (fun x hx h hret => ?_)
  replace h : Cxk x g cX6_order 5 wsX6_order RX6 rmX6_order := h
  show X x 0 [(0, .ref (g.1 158))] [] M P
  have hN := hI.1.1
  have hN6 := hI.1.2.1
  have hK := hI.1.2.2.1
  have hK12 := hI.1.2.2.2.1
  have hl := hT.2.1
  have htp := (hT.2.2 p hp).2
  refine x_aload_n h 0 dX6_order_0 rfl rfl ?_
  refine x_callV h (As := []) 0 hx (c_X6_here hT hpp (by omega)) gX6_order_X6_here rfl ⟨rfl, rfl⟩ (by decide +kernel) rfl (by decide) (by decide) E_158 rfl rfl (Nat.le_of_ble_eq_true rfl) dX6_order_1 (fun rv M' P' hp => ?_)
  obtain ⟨⟨rfl, rfl⟩, rfl⟩ := hp
  refine x_top (nI (tx p)) (chM_y hp) ?_
  refine x_istore_n h [(1, .int (nI (tx p))), (0, .ref (g.1 158))] dX6_order_4 rfl (by decide) rfl ?_
  refine x_aload_n h 1 dX6_order_5 rfl rfl ?_
  refine x_dup h dX6_order_6 rfl ?_
  refine xg_X6_15 h in_X6_order_X6 (by decide +kernel) dX6_order_7 ?_
  refine x_top (nI p) (hpp) ?_
  refine x_iconst h (nI 1) dX6_order_10 (by decide) ?_
  refine x_iadd_n h dX6_order_11 ?_
  refine xp_X6_15 h in_X6_order_X6 (by decide +kernel) dX6_order_12 ?_
  refine x_iload_n h 0 dX6_order_15 rfl rfl ?_
  refine x_bipush h (nI 104) dX6_order_16 (by decide) ?_
  refine x_icmp_ne_n h 25 dX6_order_18 (by decide) (by omega) (by decide) (fun c_18 => ?_) (fun c_18 => ?_)
  · -- 18 true
    refine x_aload_n h 1 dX6_order_25 rfl rfl ?_
    refine x_callV h (As := []) 0 hx (c_X6_number (tx := tx) (ln := ln) (TxN_cg (by rw [st2_k, pk_un (by decide)]) (st2_n _ _ _ (by decide)) hT) (p := p + 1) (by rw [st2_k, pk_us]) (by omega)) gX6_order_X6_number rfl ⟨rfl, rfl⟩ (by decide +kernel) rfl (by decide) (by decide) E_158 rfl rfl (Nat.le_of_ble_eq_true rfl) dX6_order_26 (fun rv Mn P' hp => ?_)
    obtain ⟨rfl, hnk, hn8, m, hmD, hn15, hp⟩ := hp
    have hm2 := hmD.1
    have hnl := num_lt hT hmD
    replace hnk : ∀ k, k ≠ 158 → Mn k = M k := fun k hk => (hnk k hk).trans (st2_n _ _ _ hk)
    replace hn8 : ∀ j, j ≠ 15 → Mn 158 j = M 158 j := fun j hj => (hn8 j hj).trans (by rw [st2_k, pk_un hj])
    rcases hp with ⟨hm0, rfl⟩ | ⟨hm0, rfl⟩
    · -- no number
      refine x_istore_n h [(2, .int (-1)), (1, .int (nI (tx p))), (0, .ref (g.1 158))] dX6_order_29 rfl (by decide) rfl ?_
      refine x_iload_n h 0 dX6_order_30 rfl rfl ?_
      refine x_if_lt h 83 dX6_order_31 (by decide) (fun _ => ?_) (fun c => absurd (by decide) c)
      refine x_iconst h (nI 0) dX6_order_83 (by decide) ?_
      refine x_istore_n h [(3, .int (nI 0)), (2, .int (-1)), (1, .int (nI (tx p))), (0, .ref (g.1 158))] dX6_order_84 rfl (by decide) rfl ?_
      refine x_aload_n h 3 dX6_order_85 rfl rfl ?_
      refine x_dup h dX6_order_86 rfl ?_
      refine xg_X6_15 h in_X6_order_X6 (by decide +kernel) dX6_order_87 ?_
      refine x_top (nI (p + 1 + m)) (hn15) ?_
      refine x_iconst h (nI 1) dX6_order_90 (by decide) ?_
      refine x_iadd_n h dX6_order_91 ?_
      refine xp_X6_15 h in_X6_order_X6 (by decide +kernel) dX6_order_92 ?_
      obtain ⟨W1, hW1⟩ : ∃ q : Nat → Nat → Int32, q = st2 Mn 158 15 (nI ((p + 1 + m) + 1)) := ⟨_, rfl⟩
      refine x_mem W1 hW1.symm ?_
      have h1k : ∀ k, k ≠ 158 → W1 k = M k := fun k hk => by rw [hW1, st2_n _ _ _ hk]; exact hnk k hk
      have h18 : ∀ j, j ≠ 15 → W1 158 j = M 158 j := fun j hj => by rw [hW1, st2_k, pk_un hj]; exact hn8 j hj
      have h115 : W1 158 15 = nI (p + 1 + m + 1) := by rw [hW1, st2_k, pk_us]
      have hF1 := FrX_1 h1k h18
      have e159 : W1 159 = M 159 := h1k 159 (by decide)
      have hI1 := hI
      rw [← e159] at hI1
      refine x_iload_n h 0 dX6_order_95 rfl rfl ?_
      refine x_if_ne h 105 dX6_order_96 (by decide) (fun c => absurd c (by decide)) (fun _ => ?_)
      refine x_aload_n h 3 dX6_order_99 rfl rfl ?_
      refine x_iconst h (nI 1) dX6_order_100 (by decide) ?_
      refine xp_X6_16 h in_X6_order_X6 (by decide +kernel) dX6_order_101 ?_
      exact hret _ _ _ _ dX6_order_104 (by 
                  refine ⟨rfl, FrX_s _ (Or.inr (Or.inl rfl)) hF1, ⟨p + 1 + m + 1, by omega, by omega, (by rw [st2_k, pk_un (by decide)]; exact h115), ?_⟩, ?_, ?_⟩
                  · exact Or.inl ⟨endO_x c_18 hmD (by first | exact Or.inr (Or.inl hm0) | exact Or.inr (Or.inr (fun z => c_40 ((chM_S hT).mpr z))) | exact Or.inl (fun z => by have := z.2; omega)), by rw [st2_k, pk_us], by rw [st2_n _ _ _ (by decide)]; exact e159⟩
                  · rw [st2_k, pk_un (by decide)]; exact h18 17 (by decide)
                  · rw [st2_k, pk_un (by decide)]; exact h18 18 (by decide))
    · -- a number
      refine x_istore_n h [(2, .int (nI (numL tx (p + 1) m))), (1, .int (nI (tx p))), (0, .ref (g.1 158))] dX6_order_29 rfl (by decide) rfl ?_
      refine x_iload_n h 0 dX6_order_30 rfl rfl ?_
      refine x_if_lt_n h 83 dX6_order_31 (by decide) (by omega) ?_
      refine x_aload_n h 2 dX6_order_34 rfl rfl ?_
      refine x_callV h (As := []) 0 hx (c_X6_here (tx := tx) (ln := ln) (TxN_cg (hn8 7 (by decide)) (hnk 163 (by decide)) hT) (p := p + 1 + m) (hn15) (by omega)) gX6_order_X6_here rfl ⟨rfl, rfl⟩ (by decide +kernel) rfl (by decide) (by decide) E_158 rfl rfl (Nat.le_of_ble_eq_true rfl) dX6_order_35 (fun rv M' P' hp => ?_)
      obtain ⟨⟨rfl, rfl⟩, rfl⟩ := hp
      refine x_bipush h (nI 59) dX6_order_38 (by decide) ?_
      refine x_icmp_ne h 83 dX6_order_40 (by decide) (fun c_40 => ?_) (fun c_40 => ?_)
      · -- 40 true
        refine x_iconst h (nI 0) dX6_order_83 (by decide) ?_
        refine x_istore_n h [(3, .int (nI 0)), (2, .int (nI (numL tx (p + 1) m))), (1, .int (nI (tx p))), (0, .ref (g.1 158))] dX6_order_84 rfl (by decide) rfl ?_
        refine x_aload_n h 3 dX6_order_85 rfl rfl ?_
        refine x_dup h dX6_order_86 rfl ?_
        refine xg_X6_15 h in_X6_order_X6 (by decide +kernel) dX6_order_87 ?_
        refine x_top (nI (p + 1 + m)) (hn15) ?_
        refine x_iconst h (nI 1) dX6_order_90 (by decide) ?_
        refine x_iadd_n h dX6_order_91 ?_
        refine xp_X6_15 h in_X6_order_X6 (by decide +kernel) dX6_order_92 ?_
        obtain ⟨W1, hW1⟩ : ∃ q : Nat → Nat → Int32, q = st2 Mn 158 15 (nI ((p + 1 + m) + 1)) := ⟨_, rfl⟩
        refine x_mem W1 hW1.symm ?_
        have h1k : ∀ k, k ≠ 158 → W1 k = M k := fun k hk => by rw [hW1, st2_n _ _ _ hk]; exact hnk k hk
        have h18 : ∀ j, j ≠ 15 → W1 158 j = M 158 j := fun j hj => by rw [hW1, st2_k, pk_un hj]; exact hn8 j hj
        have h115 : W1 158 15 = nI (p + 1 + m + 1) := by rw [hW1, st2_k, pk_us]
        have hF1 := FrX_1 h1k h18
        have e159 : W1 159 = M 159 := h1k 159 (by decide)
        have hI1 := hI
        rw [← e159] at hI1
        refine x_iload_n h 0 dX6_order_95 rfl rfl ?_
        refine x_if_ne h 105 dX6_order_96 (by decide) (fun c => absurd c (by decide)) (fun _ => ?_)
        refine x_aload_n h 3 dX6_order_99 rfl rfl ?_
        refine x_iconst h (nI 1) dX6_order_100 (by decide) ?_
        refine xp_X6_16 h in_X6_order_X6 (by decide +kernel) dX6_order_101 ?_
        exact hret _ _ _ _ dX6_order_104 (by 
                      refine ⟨rfl, FrX_s _ (Or.inr (Or.inl rfl)) hF1, ⟨p + 1 + m + 1, by omega, by omega, (by rw [st2_k, pk_un (by decide)]; exact h115), ?_⟩, ?_, ?_⟩
                      · exact Or.inl ⟨endO_x c_18 hmD (by first | exact Or.inr (Or.inl hm0) | exact Or.inr (Or.inr (fun z => c_40 ((chM_S hT).mpr z))) | exact Or.inl (fun z => by have := z.2; omega)), by rw [st2_k, pk_us], by rw [st2_n _ _ _ (by decide)]; exact e159⟩
                      · rw [st2_k, pk_un (by decide)]; exact h18 17 (by decide)
                      · rw [st2_k, pk_un (by decide)]; exact h18 18 (by decide))
      · -- 40 false
        refine x_iload_n h 1 dX6_order_43 rfl rfl ?_
        refine x_bipush h (nI 108) dX6_order_44 (by decide) ?_
        refine x_icmp_eq_n h 79 dX6_order_46 (by decide) (by omega) (by decide) (fun c_46 => ?_) (fun c_46 => ?_)
        · -- 46 true
          refine x_lvr (lv' := [(2, .int (nI (numL tx (p + 1) m))), (1, .int (nI 108)), (0, .ref (g.1 158))]) ?_ (by rw [c_46])
          refine x_iconst h (nI 1) dX6_order_79 (by decide) ?_
          refine x_goto h 84 dX6_order_80 (by decide) ?_
          refine x_istore_n h [(3, .int (nI 1)), (2, .int (nI (numL tx (p + 1) m))), (1, .int (nI 108)), (0, .ref (g.1 158))] dX6_order_84 rfl (by decide) rfl ?_
          refine x_aload_n h 3 dX6_order_85 rfl rfl ?_
          refine x_dup h dX6_order_86 rfl ?_
          refine xg_X6_15 h in_X6_order_X6 (by decide +kernel) dX6_order_87 ?_
          refine x_top (nI (p + 1 + m)) (hn15) ?_
          refine x_iconst h (nI 1) dX6_order_90 (by decide) ?_
          refine x_iadd_n h dX6_order_91 ?_
          refine xp_X6_15 h in_X6_order_X6 (by decide +kernel) dX6_order_92 ?_
          obtain ⟨W1, hW1⟩ : ∃ q : Nat → Nat → Int32, q = st2 Mn 158 15 (nI ((p + 1 + m) + 1)) := ⟨_, rfl⟩
          refine x_mem W1 hW1.symm ?_
          have h1k : ∀ k, k ≠ 158 → W1 k = M k := fun k hk => by rw [hW1, st2_n _ _ _ hk]; exact hnk k hk
          have h18 : ∀ j, j ≠ 15 → W1 158 j = M 158 j := fun j hj => by rw [hW1, st2_k, pk_un hj]; exact hn8 j hj
          have h115 : W1 158 15 = nI (p + 1 + m + 1) := by rw [hW1, st2_k, pk_us]
          have hF1 := FrX_1 h1k h18
          have e159 : W1 159 = M 159 := h1k 159 (by decide)
          have hI1 := hI
          rw [← e159] at hI1
          refine x_iload_n h 0 dX6_order_95 rfl rfl ?_
          refine x_if_ne h 105 dX6_order_96 (by decide) (fun _ => ?_) (fun c => absurd c (by decide))
          refine x_iload_n h 2 dX6_order_105 rfl rfl ?_
          refine x_bipush h (nI 97) dX6_order_106 (by decide) ?_
          refine x_icmp_ne h 122 dX6_order_108 (by decide) (fun _ => ?_) (fun c => absurd c (by decide))
          refine x_iload_n h 2 dX6_order_122 rfl rfl ?_
          refine x_bipush h (nI 104) dX6_order_123 (by decide) ?_
          refine x_icmp_eq h 148 dX6_order_125 (by decide) (fun c => absurd c (by decide)) (fun _ => ?_)
          refine x_iload_n h 2 dX6_order_128 rfl rfl ?_
          refine x_bipush h (nI 119) dX6_order_129 (by decide) ?_
          refine x_icmp_eq h 148 dX6_order_131 (by decide) (fun c => absurd c (by decide)) (fun _ => ?_)
          refine x_aload_n h 3 dX6_order_134 rfl rfl ?_
          refine x_iload_n h 1 dX6_order_135 rfl rfl ?_
          refine x_callV h (As := [.int (nI (numL tx (p + 1) m))]) 1 hx (c_X6_isNet (N := N) (K := K) (B := B) hI1) gX6_order_X6_isNet rfl ⟨rfl, rfl⟩ (by decide +kernel) rfl (by decide) (by decide) E_158 rfl rfl (Nat.le_of_ble_eq_true rfl) dX6_order_136 (fun rv M' P' hp => ?_)
          obtain ⟨⟨rfl, rfl⟩, hp⟩ := hp
          rcases hp with ⟨⟨kk, hkk, ekk⟩, rfl⟩ | ⟨nkk, rfl⟩
          · -- there
            obtain rfl := (nI_eq (by omega) (by omega)).mp ekk
            refine x_if_ne h 148 dX6_order_139 (by decide) (fun _ => ?_) (fun c => absurd c (by decide))
            refine x_iload_n h 2 dX6_order_148 rfl rfl ?_
            refine x_lookup h (51) 200 dX6_order_149 (by decide) (by decide) (by decide) ?_
            refine x_aload_n h 3 dX6_order_200 rfl rfl ?_
            refine x_iload_n h 1 dX6_order_201 rfl rfl ?_
            refine x_callV h (As := [.int (nI (numL tx (p + 1) m))]) 1 hx (c_X6_lays hI1) gX6_order_X6_lays rfl ⟨rfl, rfl⟩ (by decide +kernel) rfl (by decide) (by decide) E_158 rfl rfl (Nat.le_of_ble_eq_true rfl) dX6_order_202 (fun av W2 P' hp => ?_)
            obtain ⟨rfl, hFL, hQ⟩ := hp
            rw [e159] at hQ
            have hF2 := FrX_tr hF1 (FrX_L hFL)
            have h215 := (hFL.2 15 (by decide) (by decide) (by decide)).trans h115
            have h2q : ∀ j, j = 17 ∨ j = 18 → W2 158 j = M 158 j := fun j hj => (hFL.2 j (by omega) (by omega) (by omega)).trans (h18 j (by omega))
            refine x_istore h [(4, .int av), (3, .int (nI 1)), (2, .int (nI (numL tx (p + 1) m))), (1, .int (nI 108)), (0, .ref (g.1 158))] dX6_order_205 (by decide) rfl ?_
            refine x_goto h 256 dX6_order_207 (by decide) ?_
            refine x_aload_n h 4 dX6_order_256 rfl rfl ?_
            refine x_iload h 0 dX6_order_257 rfl ?_
            refine x_if_ge h 266 dX6_order_259 (by decide) (fun c_259 => ?_) (fun c_259 => ?_)
            · -- 259 true
              refine x_iconst h (nI 0) dX6_order_266 (by decide) ?_
              refine xp_X6_16 h in_X6_order_X6 (by decide +kernel) dX6_order_267 ?_
              exact hret _ _ _ _ dX6_order_270 (by 
                                  refine ⟨rfl, FrX_s _ (Or.inr (Or.inl rfl)) hF2, ⟨p + 1 + m + 1, by omega, by omega, (by rw [st2_k, pk_un (by decide)]; exact h215), ?_⟩, ?_, ?_⟩
                                  · exact Or.inr ⟨m, nI 0, (endO_y c_18 hmD ⟨hp, by omega⟩ hm0 ((chM_S hT).mp c_40)), rfl, ⟨av, Or.inr (Or.inr (Or.inr (Or.inl (⟨c_46, (by rw [st2_n _ _ _ (by decide)]; exact hQ), Or.inr (Or.inr ⟨hkk, Int32.not_lt.mpr c_259, rfl⟩)⟩))))⟩, by rw [st2_k, pk_us]⟩
                                  · rw [st2_k, pk_un (by decide)]; exact h2q 17 (Or.inl rfl)
                                  · rw [st2_k, pk_un (by decide)]; exact h2q 18 (Or.inr rfl))
            · -- 259 false
              refine x_iconst h (nI 3) dX6_order_262 (by decide) ?_
              refine x_goto h 267 dX6_order_263 (by decide) ?_
              refine xp_X6_16 h in_X6_order_X6 (by decide +kernel) dX6_order_267 ?_
              exact hret _ _ _ _ dX6_order_270 (by 
                                  refine ⟨rfl, FrX_s _ (Or.inr (Or.inl rfl)) hF2, ⟨p + 1 + m + 1, by omega, by omega, (by rw [st2_k, pk_un (by decide)]; exact h215), ?_⟩, ?_, ?_⟩
                                  · exact Or.inr ⟨m, nI 3, (endO_y c_18 hmD ⟨hp, by omega⟩ hm0 ((chM_S hT).mp c_40)), rfl, ⟨av, Or.inr (Or.inr (Or.inr (Or.inl (⟨c_46, (by rw [st2_n _ _ _ (by decide)]; exact hQ), Or.inr (Or.inl ⟨hkk, Int32.not_le.mp c_259, rfl⟩)⟩))))⟩, by rw [st2_k, pk_us]⟩
                                  · rw [st2_k, pk_un (by decide)]; exact h2q 17 (Or.inl rfl)
                                  · rw [st2_k, pk_un (by decide)]; exact h2q 18 (Or.inr rfl))
          · -- not there
            refine x_if_ne h 148 dX6_order_139 (by decide) (fun c => absurd c (by decide)) (fun _ => ?_)
            refine x_aload_n h 3 dX6_order_142 rfl rfl ?_
            refine x_iconst h (nI 2) dX6_order_143 (by decide) ?_
            refine xp_X6_16 h in_X6_order_X6 (by decide +kernel) dX6_order_144 ?_
            exact hret _ _ _ _ dX6_order_147 (by 
                              refine ⟨rfl, FrX_s _ (Or.inr (Or.inl rfl)) hF1, ⟨p + 1 + m + 1, by omega, by omega, (by rw [st2_k, pk_un (by decide)]; exact h115), ?_⟩, ?_, ?_⟩
                              · exact Or.inr ⟨m, nI 2, (endO_y c_18 hmD ⟨hp, by omega⟩ hm0 ((chM_S hT).mp c_40)), rfl, ⟨-1000001, Or.inr (Or.inr (Or.inr (Or.inl (⟨c_46, Or.inl ⟨nkk, rfl, (by rw [st2_n _ _ _ (by decide)]; exact e159)⟩, Or.inl ⟨fun z => nkk ⟨_, z, rfl⟩, rfl⟩⟩))))⟩, by rw [st2_k, pk_us]⟩
                              · rw [st2_k, pk_un (by decide)]; exact h18 17 (by decide)
                              · rw [st2_k, pk_un (by decide)]; exact h18 18 (by decide))
        · -- 46 false
          refine x_iload_n h 1 dX6_order_49 rfl rfl ?_
          refine x_bipush h (nI 100) dX6_order_50 (by decide) ?_
          refine x_icmp_eq_n h 79 dX6_order_52 (by decide) (by omega) (by decide) (fun c_52 => ?_) (fun c_52 => ?_)
          · -- 52 true
            refine x_lvr (lv' := [(2, .int (nI (numL tx (p + 1) m))), (1, .int (nI 100)), (0, .ref (g.1 158))]) ?_ (by rw [c_52])
            refine x_iconst h (nI 1) dX6_order_79 (by decide) ?_
            refine x_goto h 84 dX6_order_80 (by decide) ?_
            refine x_istore_n h [(3, .int (nI 1)), (2, .int (nI (numL tx (p + 1) m))), (1, .int (nI 100)), (0, .ref (g.1 158))] dX6_order_84 rfl (by decide) rfl ?_
            refine x_aload_n h 3 dX6_order_85 rfl rfl ?_
            refine x_dup h dX6_order_86 rfl ?_
            refine xg_X6_15 h in_X6_order_X6 (by decide +kernel) dX6_order_87 ?_
            refine x_top (nI (p + 1 + m)) (hn15) ?_
            refine x_iconst h (nI 1) dX6_order_90 (by decide) ?_
            refine x_iadd_n h dX6_order_91 ?_
            refine xp_X6_15 h in_X6_order_X6 (by decide +kernel) dX6_order_92 ?_
            obtain ⟨W1, hW1⟩ : ∃ q : Nat → Nat → Int32, q = st2 Mn 158 15 (nI ((p + 1 + m) + 1)) := ⟨_, rfl⟩
            refine x_mem W1 hW1.symm ?_
            have h1k : ∀ k, k ≠ 158 → W1 k = M k := fun k hk => by rw [hW1, st2_n _ _ _ hk]; exact hnk k hk
            have h18 : ∀ j, j ≠ 15 → W1 158 j = M 158 j := fun j hj => by rw [hW1, st2_k, pk_un hj]; exact hn8 j hj
            have h115 : W1 158 15 = nI (p + 1 + m + 1) := by rw [hW1, st2_k, pk_us]
            have hF1 := FrX_1 h1k h18
            have e159 : W1 159 = M 159 := h1k 159 (by decide)
            have hI1 := hI
            rw [← e159] at hI1
            refine x_iload_n h 0 dX6_order_95 rfl rfl ?_
            refine x_if_ne h 105 dX6_order_96 (by decide) (fun _ => ?_) (fun c => absurd c (by decide))
            refine x_iload_n h 2 dX6_order_105 rfl rfl ?_
            refine x_bipush h (nI 97) dX6_order_106 (by decide) ?_
            refine x_icmp_ne h 122 dX6_order_108 (by decide) (fun _ => ?_) (fun c => absurd c (by decide))
            refine x_iload_n h 2 dX6_order_122 rfl rfl ?_
            refine x_bipush h (nI 104) dX6_order_123 (by decide) ?_
            refine x_icmp_eq h 148 dX6_order_125 (by decide) (fun c => absurd c (by decide)) (fun _ => ?_)
            refine x_iload_n h 2 dX6_order_128 rfl rfl ?_
            refine x_bipush h (nI 119) dX6_order_129 (by decide) ?_
            refine x_icmp_eq h 148 dX6_order_131 (by decide) (fun c => absurd c (by decide)) (fun _ => ?_)
            refine x_aload_n h 3 dX6_order_134 rfl rfl ?_
            refine x_iload_n h 1 dX6_order_135 rfl rfl ?_
            refine x_callV h (As := [.int (nI (numL tx (p + 1) m))]) 1 hx (c_X6_isNet (N := N) (K := K) (B := B) hI1) gX6_order_X6_isNet rfl ⟨rfl, rfl⟩ (by decide +kernel) rfl (by decide) (by decide) E_158 rfl rfl (Nat.le_of_ble_eq_true rfl) dX6_order_136 (fun rv M' P' hp => ?_)
            obtain ⟨⟨rfl, rfl⟩, hp⟩ := hp
            rcases hp with ⟨⟨kk, hkk, ekk⟩, rfl⟩ | ⟨nkk, rfl⟩
            · -- there
              obtain rfl := (nI_eq (by omega) (by omega)).mp ekk
              refine x_if_ne h 148 dX6_order_139 (by decide) (fun _ => ?_) (fun c => absurd c (by decide))
              refine x_iload_n h 2 dX6_order_148 rfl rfl ?_
              refine x_lookup h (61) 210 dX6_order_149 (by decide) (by decide) (by decide) ?_
              refine x_aload_n h 3 dX6_order_210 rfl rfl ?_
              refine x_iload_n h 1 dX6_order_211 rfl rfl ?_
              refine x_callV h (As := [.int (nI (numL tx (p + 1) m))]) 1 hx (c_X6_digsFor hI1) gX6_order_X6_digsFor rfl ⟨rfl, rfl⟩ (by decide +kernel) rfl (by decide) (by decide) E_158 rfl rfl (Nat.le_of_ble_eq_true rfl) dX6_order_212 (fun av W2 P' hp => ?_)
              obtain ⟨rfl, hFL, hQ⟩ := hp
              rw [e159] at hQ
              have hF2 := FrX_tr hF1 (FrX_L hFL)
              have h215 := (hFL.2 15 (by decide) (by decide) (by decide)).trans h115
              have h2q : ∀ j, j = 17 ∨ j = 18 → W2 158 j = M 158 j := fun j hj => (hFL.2 j (by omega) (by omega) (by omega)).trans (h18 j (by omega))
              refine x_istore h [(4, .int av), (3, .int (nI 1)), (2, .int (nI (numL tx (p + 1) m))), (1, .int (nI 100)), (0, .ref (g.1 158))] dX6_order_215 (by decide) rfl ?_
              refine x_goto h 256 dX6_order_217 (by decide) ?_
              refine x_aload_n h 4 dX6_order_256 rfl rfl ?_
              refine x_iload h 0 dX6_order_257 rfl ?_
              refine x_if_ge h 266 dX6_order_259 (by decide) (fun c_259 => ?_) (fun c_259 => ?_)
              · -- 259 true
                refine x_iconst h (nI 0) dX6_order_266 (by decide) ?_
                refine xp_X6_16 h in_X6_order_X6 (by decide +kernel) dX6_order_267 ?_
                exact hret _ _ _ _ dX6_order_270 (by 
                                      refine ⟨rfl, FrX_s _ (Or.inr (Or.inl rfl)) hF2, ⟨p + 1 + m + 1, by omega, by omega, (by rw [st2_k, pk_un (by decide)]; exact h215), ?_⟩, ?_, ?_⟩
                                      · exact Or.inr ⟨m, nI 0, (endO_y c_18 hmD ⟨hp, by omega⟩ hm0 ((chM_S hT).mp c_40)), rfl, ⟨av, Or.inr (Or.inr (Or.inr (Or.inr (Or.inl (⟨c_52, (by rw [st2_n _ _ _ (by decide)]; exact hQ), Or.inr (Or.inr ⟨hkk, Int32.not_lt.mpr c_259, rfl⟩)⟩)))))⟩, by rw [st2_k, pk_us]⟩
                                      · rw [st2_k, pk_un (by decide)]; exact h2q 17 (Or.inl rfl)
                                      · rw [st2_k, pk_un (by decide)]; exact h2q 18 (Or.inr rfl))
              · -- 259 false
                refine x_iconst h (nI 3) dX6_order_262 (by decide) ?_
                refine x_goto h 267 dX6_order_263 (by decide) ?_
                refine xp_X6_16 h in_X6_order_X6 (by decide +kernel) dX6_order_267 ?_
                exact hret _ _ _ _ dX6_order_270 (by 
                                      refine ⟨rfl, FrX_s _ (Or.inr (Or.inl rfl)) hF2, ⟨p + 1 + m + 1, by omega, by omega, (by rw [st2_k, pk_un (by decide)]; exact h215), ?_⟩, ?_, ?_⟩
                                      · exact Or.inr ⟨m, nI 3, (endO_y c_18 hmD ⟨hp, by omega⟩ hm0 ((chM_S hT).mp c_40)), rfl, ⟨av, Or.inr (Or.inr (Or.inr (Or.inr (Or.inl (⟨c_52, (by rw [st2_n _ _ _ (by decide)]; exact hQ), Or.inr (Or.inl ⟨hkk, Int32.not_le.mp c_259, rfl⟩)⟩)))))⟩, by rw [st2_k, pk_us]⟩
                                      · rw [st2_k, pk_un (by decide)]; exact h2q 17 (Or.inl rfl)
                                      · rw [st2_k, pk_un (by decide)]; exact h2q 18 (Or.inr rfl))
            · -- not there
              refine x_if_ne h 148 dX6_order_139 (by decide) (fun c => absurd c (by decide)) (fun _ => ?_)
              refine x_aload_n h 3 dX6_order_142 rfl rfl ?_
              refine x_iconst h (nI 2) dX6_order_143 (by decide) ?_
              refine xp_X6_16 h in_X6_order_X6 (by decide +kernel) dX6_order_144 ?_
              exact hret _ _ _ _ dX6_order_147 (by 
                                  refine ⟨rfl, FrX_s _ (Or.inr (Or.inl rfl)) hF1, ⟨p + 1 + m + 1, by omega, by omega, (by rw [st2_k, pk_un (by decide)]; exact h115), ?_⟩, ?_, ?_⟩
                                  · exact Or.inr ⟨m, nI 2, (endO_y c_18 hmD ⟨hp, by omega⟩ hm0 ((chM_S hT).mp c_40)), rfl, ⟨-1000001, Or.inr (Or.inr (Or.inr (Or.inr (Or.inl (⟨c_52, Or.inl ⟨nkk, rfl, (by rw [st2_n _ _ _ (by decide)]; exact e159)⟩, Or.inl ⟨fun z => nkk ⟨_, z, rfl⟩, rfl⟩⟩)))))⟩, by rw [st2_k, pk_us]⟩
                                  · rw [st2_k, pk_un (by decide)]; exact h18 17 (by decide)
                                  · rw [st2_k, pk_un (by decide)]; exact h18 18 (by decide))
          · -- 52 false
            refine x_iload_n h 1 dX6_order_55 rfl rfl ?_
            refine x_bipush h (nI 114) dX6_order_56 (by decide) ?_
            refine x_icmp_eq_n h 79 dX6_order_58 (by decide) (by omega) (by decide) (fun c_58 => ?_) (fun c_58 => ?_)
            · -- 58 true
              refine x_lvr (lv' := [(2, .int (nI (numL tx (p + 1) m))), (1, .int (nI 114)), (0, .ref (g.1 158))]) ?_ (by rw [c_58])
              refine x_iconst h (nI 1) dX6_order_79 (by decide) ?_
              refine x_goto h 84 dX6_order_80 (by decide) ?_
              refine x_istore_n h [(3, .int (nI 1)), (2, .int (nI (numL tx (p + 1) m))), (1, .int (nI 114)), (0, .ref (g.1 158))] dX6_order_84 rfl (by decide) rfl ?_
              refine x_aload_n h 3 dX6_order_85 rfl rfl ?_
              refine x_dup h dX6_order_86 rfl ?_
              refine xg_X6_15 h in_X6_order_X6 (by decide +kernel) dX6_order_87 ?_
              refine x_top (nI (p + 1 + m)) (hn15) ?_
              refine x_iconst h (nI 1) dX6_order_90 (by decide) ?_
              refine x_iadd_n h dX6_order_91 ?_
              refine xp_X6_15 h in_X6_order_X6 (by decide +kernel) dX6_order_92 ?_
              obtain ⟨W1, hW1⟩ : ∃ q : Nat → Nat → Int32, q = st2 Mn 158 15 (nI ((p + 1 + m) + 1)) := ⟨_, rfl⟩
              refine x_mem W1 hW1.symm ?_
              have h1k : ∀ k, k ≠ 158 → W1 k = M k := fun k hk => by rw [hW1, st2_n _ _ _ hk]; exact hnk k hk
              have h18 : ∀ j, j ≠ 15 → W1 158 j = M 158 j := fun j hj => by rw [hW1, st2_k, pk_un hj]; exact hn8 j hj
              have h115 : W1 158 15 = nI (p + 1 + m + 1) := by rw [hW1, st2_k, pk_us]
              have hF1 := FrX_1 h1k h18
              have e159 : W1 159 = M 159 := h1k 159 (by decide)
              have hI1 := hI
              rw [← e159] at hI1
              refine x_iload_n h 0 dX6_order_95 rfl rfl ?_
              refine x_if_ne h 105 dX6_order_96 (by decide) (fun _ => ?_) (fun c => absurd c (by decide))
              refine x_iload_n h 2 dX6_order_105 rfl rfl ?_
              refine x_bipush h (nI 97) dX6_order_106 (by decide) ?_
              refine x_icmp_ne h 122 dX6_order_108 (by decide) (fun _ => ?_) (fun c => absurd c (by decide))
              refine x_iload_n h 2 dX6_order_122 rfl rfl ?_
              refine x_bipush h (nI 104) dX6_order_123 (by decide) ?_
              refine x_icmp_eq h 148 dX6_order_125 (by decide) (fun c => absurd c (by decide)) (fun _ => ?_)
              refine x_iload_n h 2 dX6_order_128 rfl rfl ?_
              refine x_bipush h (nI 119) dX6_order_129 (by decide) ?_
              refine x_icmp_eq h 148 dX6_order_131 (by decide) (fun c => absurd c (by decide)) (fun _ => ?_)
              refine x_aload_n h 3 dX6_order_134 rfl rfl ?_
              refine x_iload_n h 1 dX6_order_135 rfl rfl ?_
              refine x_callV h (As := [.int (nI (numL tx (p + 1) m))]) 1 hx (c_X6_isNet (N := N) (K := K) (B := B) hI1) gX6_order_X6_isNet rfl ⟨rfl, rfl⟩ (by decide +kernel) rfl (by decide) (by decide) E_158 rfl rfl (Nat.le_of_ble_eq_true rfl) dX6_order_136 (fun rv M' P' hp => ?_)
              obtain ⟨⟨rfl, rfl⟩, hp⟩ := hp
              rcases hp with ⟨⟨kk, hkk, ekk⟩, rfl⟩ | ⟨nkk, rfl⟩
              · -- there
                obtain rfl := (nI_eq (by omega) (by omega)).mp ekk
                refine x_if_ne h 148 dX6_order_139 (by decide) (fun _ => ?_) (fun c => absurd c (by decide))
                refine x_iload_n h 2 dX6_order_148 rfl rfl ?_
                refine x_lookup h (71) 220 dX6_order_149 (by decide) (by decide) (by decide) ?_
                refine x_aload_n h 3 dX6_order_220 rfl rfl ?_
                refine x_iload_n h 1 dX6_order_221 rfl rfl ?_
                refine x_callV h (As := [.int (nI (numL tx (p + 1) m))]) 1 hx (c_X6_rips hI1) gX6_order_X6_rips rfl ⟨rfl, rfl⟩ (by decide +kernel) rfl (by decide) (by decide) E_158 rfl rfl (Nat.le_of_ble_eq_true rfl) dX6_order_222 (fun av W2 P' hp => ?_)
                obtain ⟨rfl, X2, hQ, hW2⟩ := hp
                have hQ2 : X2 = W2 159 := by rw [hW2, va_up_k]
                rw [e159, hQ2] at hQ
                have hF2 : FrX M W2 := by rw [hW2]; exact FrX_v _ hF1
                have h215 := (show W2 158 15 = W1 158 15 by rw [hW2, va_up_n _ _ (by decide)]).trans h115
                have h2q : ∀ j, j = 17 ∨ j = 18 → W2 158 j = M 158 j := fun j hj => by rw [hW2, va_up_n _ _ (by decide)]; exact h18 j (by omega)
                refine x_istore h [(4, .int av), (3, .int (nI 1)), (2, .int (nI (numL tx (p + 1) m))), (1, .int (nI 114)), (0, .ref (g.1 158))] dX6_order_225 (by decide) rfl ?_
                refine x_goto h 256 dX6_order_227 (by decide) ?_
                refine x_aload_n h 4 dX6_order_256 rfl rfl ?_
                refine x_iload h 0 dX6_order_257 rfl ?_
                refine x_if_ge h 266 dX6_order_259 (by decide) (fun c_259 => ?_) (fun c_259 => ?_)
                · -- 259 true
                  refine x_iconst h (nI 0) dX6_order_266 (by decide) ?_
                  refine xp_X6_16 h in_X6_order_X6 (by decide +kernel) dX6_order_267 ?_
                  exact hret _ _ _ _ dX6_order_270 (by 
                                          refine ⟨rfl, FrX_s _ (Or.inr (Or.inl rfl)) hF2, ⟨p + 1 + m + 1, by omega, by omega, (by rw [st2_k, pk_un (by decide)]; exact h215), ?_⟩, ?_, ?_⟩
                                          · exact Or.inr ⟨m, nI 0, (endO_y c_18 hmD ⟨hp, by omega⟩ hm0 ((chM_S hT).mp c_40)), rfl, ⟨av, Or.inr (Or.inr (Or.inr (Or.inr (Or.inr (⟨c_58, (by rw [st2_n _ _ _ (by decide)]; exact hQ), Or.inr (Or.inr ⟨hkk, Int32.not_lt.mpr c_259, rfl⟩)⟩)))))⟩, by rw [st2_k, pk_us]⟩
                                          · rw [st2_k, pk_un (by decide)]; exact h2q 17 (Or.inl rfl)
                                          · rw [st2_k, pk_un (by decide)]; exact h2q 18 (Or.inr rfl))
                · -- 259 false
                  refine x_iconst h (nI 3) dX6_order_262 (by decide) ?_
                  refine x_goto h 267 dX6_order_263 (by decide) ?_
                  refine xp_X6_16 h in_X6_order_X6 (by decide +kernel) dX6_order_267 ?_
                  exact hret _ _ _ _ dX6_order_270 (by 
                                          refine ⟨rfl, FrX_s _ (Or.inr (Or.inl rfl)) hF2, ⟨p + 1 + m + 1, by omega, by omega, (by rw [st2_k, pk_un (by decide)]; exact h215), ?_⟩, ?_, ?_⟩
                                          · exact Or.inr ⟨m, nI 3, (endO_y c_18 hmD ⟨hp, by omega⟩ hm0 ((chM_S hT).mp c_40)), rfl, ⟨av, Or.inr (Or.inr (Or.inr (Or.inr (Or.inr (⟨c_58, (by rw [st2_n _ _ _ (by decide)]; exact hQ), Or.inr (Or.inl ⟨hkk, Int32.not_le.mp c_259, rfl⟩)⟩)))))⟩, by rw [st2_k, pk_us]⟩
                                          · rw [st2_k, pk_un (by decide)]; exact h2q 17 (Or.inl rfl)
                                          · rw [st2_k, pk_un (by decide)]; exact h2q 18 (Or.inr rfl))
              · -- not there
                refine x_if_ne h 148 dX6_order_139 (by decide) (fun c => absurd c (by decide)) (fun _ => ?_)
                refine x_aload_n h 3 dX6_order_142 rfl rfl ?_
                refine x_iconst h (nI 2) dX6_order_143 (by decide) ?_
                refine xp_X6_16 h in_X6_order_X6 (by decide +kernel) dX6_order_144 ?_
                exact hret _ _ _ _ dX6_order_147 (by 
                                      refine ⟨rfl, FrX_s _ (Or.inr (Or.inl rfl)) hF1, ⟨p + 1 + m + 1, by omega, by omega, (by rw [st2_k, pk_un (by decide)]; exact h115), ?_⟩, ?_, ?_⟩
                                      · exact Or.inr ⟨m, nI 2, (endO_y c_18 hmD ⟨hp, by omega⟩ hm0 ((chM_S hT).mp c_40)), rfl, ⟨-1000001, Or.inr (Or.inr (Or.inr (Or.inr (Or.inr (⟨c_58, Or.inl ⟨nkk, rfl, (by rw [st2_n _ _ _ (by decide)]; exact e159)⟩, Or.inl ⟨fun z => nkk ⟨_, z, rfl⟩, rfl⟩⟩)))))⟩, by rw [st2_k, pk_us]⟩
                                      · rw [st2_k, pk_un (by decide)]; exact h18 17 (by decide)
                                      · rw [st2_k, pk_un (by decide)]; exact h18 18 (by decide))
            · -- 58 false
              refine x_iload_n h 1 dX6_order_61 rfl rfl ?_
              refine x_bipush h (nI 97) dX6_order_62 (by decide) ?_
              refine x_icmp_eq_n h 79 dX6_order_64 (by decide) (by omega) (by decide) (fun c_64 => ?_) (fun c_64 => ?_)
              · -- 64 true
                refine x_lvr (lv' := [(2, .int (nI (numL tx (p + 1) m))), (1, .int (nI 97)), (0, .ref (g.1 158))]) ?_ (by rw [c_64])
                refine x_iconst h (nI 1) dX6_order_79 (by decide) ?_
                refine x_goto h 84 dX6_order_80 (by decide) ?_
                refine x_istore_n h [(3, .int (nI 1)), (2, .int (nI (numL tx (p + 1) m))), (1, .int (nI 97)), (0, .ref (g.1 158))] dX6_order_84 rfl (by decide) rfl ?_
                refine x_aload_n h 3 dX6_order_85 rfl rfl ?_
                refine x_dup h dX6_order_86 rfl ?_
                refine xg_X6_15 h in_X6_order_X6 (by decide +kernel) dX6_order_87 ?_
                refine x_top (nI (p + 1 + m)) (hn15) ?_
                refine x_iconst h (nI 1) dX6_order_90 (by decide) ?_
                refine x_iadd_n h dX6_order_91 ?_
                refine xp_X6_15 h in_X6_order_X6 (by decide +kernel) dX6_order_92 ?_
                obtain ⟨W1, hW1⟩ : ∃ q : Nat → Nat → Int32, q = st2 Mn 158 15 (nI ((p + 1 + m) + 1)) := ⟨_, rfl⟩
                refine x_mem W1 hW1.symm ?_
                have h1k : ∀ k, k ≠ 158 → W1 k = M k := fun k hk => by rw [hW1, st2_n _ _ _ hk]; exact hnk k hk
                have h18 : ∀ j, j ≠ 15 → W1 158 j = M 158 j := fun j hj => by rw [hW1, st2_k, pk_un hj]; exact hn8 j hj
                have h115 : W1 158 15 = nI (p + 1 + m + 1) := by rw [hW1, st2_k, pk_us]
                have hF1 := FrX_1 h1k h18
                have e159 : W1 159 = M 159 := h1k 159 (by decide)
                have hI1 := hI
                rw [← e159] at hI1
                refine x_iload_n h 0 dX6_order_95 rfl rfl ?_
                refine x_if_ne h 105 dX6_order_96 (by decide) (fun _ => ?_) (fun c => absurd c (by decide))
                refine x_iload_n h 2 dX6_order_105 rfl rfl ?_
                refine x_bipush h (nI 97) dX6_order_106 (by decide) ?_
                refine x_icmp_ne h 122 dX6_order_108 (by decide) (fun c => absurd c (by decide)) (fun _ => ?_)
                refine x_aload_n h 3 dX6_order_111 rfl rfl ?_
                refine x_iload_n h 1 dX6_order_112 rfl rfl ?_
                refine x_callV h (As := [.int (nI (numL tx (p + 1) m))]) 1 hx (c_X6_isClaim (N := N) (K := K) (B := B) hI1) gX6_order_X6_isClaim rfl ⟨rfl, rfl⟩ (by decide +kernel) rfl (by decide) (by decide) E_158 rfl rfl (Nat.le_of_ble_eq_true rfl) dX6_order_113 (fun rv M' P' hp => ?_)
                obtain ⟨⟨rfl, rfl⟩, hp⟩ := hp
                rcases hp with ⟨⟨kk, hkk, ekk⟩, rfl⟩ | ⟨nkk, rfl⟩
                · -- there
                  obtain rfl := (nI_eq (by omega) (by omega)).mp ekk
                  refine x_if_ne h 148 dX6_order_116 (by decide) (fun _ => ?_) (fun c => absurd c (by decide))
                  refine x_iload_n h 2 dX6_order_148 rfl rfl ?_
                  refine x_lookup h (81) 230 dX6_order_149 (by decide) (by decide) (by decide) ?_
                  refine x_aload_n h 3 dX6_order_230 rfl rfl ?_
                  refine x_iload_n h 1 dX6_order_231 rfl rfl ?_
                  refine x_callV h (As := [.int (nI (numL tx (p + 1) m))]) 1 hx (c_X6_appeals hI1) gX6_order_X6_appeals rfl ⟨rfl, rfl⟩ (by decide +kernel) rfl (by decide) (by decide) E_158 rfl rfl (Nat.le_of_ble_eq_true rfl) dX6_order_232 (fun av W2 P' hp => ?_)
                  obtain ⟨rfl, X2, hQ, hW2⟩ := hp
                  have hQ2 : X2 = W2 159 := by rw [hW2, va_up_k]
                  rw [e159, hQ2] at hQ
                  have hF2 : FrX M W2 := by rw [hW2]; exact FrX_v _ hF1
                  have h215 := (show W2 158 15 = W1 158 15 by rw [hW2, va_up_n _ _ (by decide)]).trans h115
                  have h2q : ∀ j, j = 17 ∨ j = 18 → W2 158 j = M 158 j := fun j hj => by rw [hW2, va_up_n _ _ (by decide)]; exact h18 j (by omega)
                  refine x_istore h [(4, .int av), (3, .int (nI 1)), (2, .int (nI (numL tx (p + 1) m))), (1, .int (nI 97)), (0, .ref (g.1 158))] dX6_order_235 (by decide) rfl ?_
                  refine x_goto h 256 dX6_order_237 (by decide) ?_
                  refine x_aload_n h 4 dX6_order_256 rfl rfl ?_
                  refine x_iload h 0 dX6_order_257 rfl ?_
                  refine x_if_ge h 266 dX6_order_259 (by decide) (fun c_259 => ?_) (fun c_259 => ?_)
                  · -- 259 true
                    refine x_iconst h (nI 0) dX6_order_266 (by decide) ?_
                    refine xp_X6_16 h in_X6_order_X6 (by decide +kernel) dX6_order_267 ?_
                    exact hret _ _ _ _ dX6_order_270 (by 
                                              refine ⟨rfl, FrX_s _ (Or.inr (Or.inl rfl)) hF2, ⟨p + 1 + m + 1, by omega, by omega, (by rw [st2_k, pk_un (by decide)]; exact h215), ?_⟩, ?_, ?_⟩
                                              · exact Or.inr ⟨m, nI 0, (endO_y c_18 hmD ⟨hp, by omega⟩ hm0 ((chM_S hT).mp c_40)), rfl, ⟨av, Or.inr (Or.inr (Or.inl (⟨c_64, (by rw [st2_n _ _ _ (by decide)]; exact hQ), Or.inr (Or.inr ⟨hkk, Int32.not_lt.mpr c_259, rfl⟩)⟩)))⟩, by rw [st2_k, pk_us]⟩
                                              · rw [st2_k, pk_un (by decide)]; exact h2q 17 (Or.inl rfl)
                                              · rw [st2_k, pk_un (by decide)]; exact h2q 18 (Or.inr rfl))
                  · -- 259 false
                    refine x_iconst h (nI 3) dX6_order_262 (by decide) ?_
                    refine x_goto h 267 dX6_order_263 (by decide) ?_
                    refine xp_X6_16 h in_X6_order_X6 (by decide +kernel) dX6_order_267 ?_
                    exact hret _ _ _ _ dX6_order_270 (by 
                                              refine ⟨rfl, FrX_s _ (Or.inr (Or.inl rfl)) hF2, ⟨p + 1 + m + 1, by omega, by omega, (by rw [st2_k, pk_un (by decide)]; exact h215), ?_⟩, ?_, ?_⟩
                                              · exact Or.inr ⟨m, nI 3, (endO_y c_18 hmD ⟨hp, by omega⟩ hm0 ((chM_S hT).mp c_40)), rfl, ⟨av, Or.inr (Or.inr (Or.inl (⟨c_64, (by rw [st2_n _ _ _ (by decide)]; exact hQ), Or.inr (Or.inl ⟨hkk, Int32.not_le.mp c_259, rfl⟩)⟩)))⟩, by rw [st2_k, pk_us]⟩
                                              · rw [st2_k, pk_un (by decide)]; exact h2q 17 (Or.inl rfl)
                                              · rw [st2_k, pk_un (by decide)]; exact h2q 18 (Or.inr rfl))
                · -- not there
                  refine x_if_ne h 148 dX6_order_116 (by decide) (fun c => absurd c (by decide)) (fun _ => ?_)
                  refine x_goto h 142 dX6_order_119 (by decide) ?_
                  refine x_aload_n h 3 dX6_order_142 rfl rfl ?_
                  refine x_iconst h (nI 2) dX6_order_143 (by decide) ?_
                  refine xp_X6_16 h in_X6_order_X6 (by decide +kernel) dX6_order_144 ?_
                  exact hret _ _ _ _ dX6_order_147 (by 
                                          refine ⟨rfl, FrX_s _ (Or.inr (Or.inl rfl)) hF1, ⟨p + 1 + m + 1, by omega, by omega, (by rw [st2_k, pk_un (by decide)]; exact h115), ?_⟩, ?_, ?_⟩
                                          · exact Or.inr ⟨m, nI 2, (endO_y c_18 hmD ⟨hp, by omega⟩ hm0 ((chM_S hT).mp c_40)), rfl, ⟨-1000001, Or.inr (Or.inr (Or.inl (⟨c_64, Or.inl ⟨nkk, rfl, (by rw [st2_n _ _ _ (by decide)]; exact e159)⟩, Or.inl ⟨fun z => nkk ⟨_, z, rfl⟩, rfl⟩⟩)))⟩, by rw [st2_k, pk_us]⟩
                                          · rw [st2_k, pk_un (by decide)]; exact h18 17 (by decide)
                                          · rw [st2_k, pk_un (by decide)]; exact h18 18 (by decide))
              · -- 64 false
                refine x_iload_n h 1 dX6_order_67 rfl rfl ?_
                refine x_bipush h (nI 104) dX6_order_68 (by decide) ?_
                refine x_icmp_eq_n h 79 dX6_order_70 (by decide) (by omega) (by decide) (fun c_70 => by omega) (fun c_70 => ?_)
                refine x_iload_n h 1 dX6_order_73 rfl rfl ?_
                refine x_bipush h (nI 119) dX6_order_74 (by decide) ?_
                refine x_icmp_ne_n h 83 dX6_order_76 (by decide) (by omega) (by decide) (fun c_76 => ?_) (fun c_76 => ?_)
                · -- 76 true
                  refine x_iconst h (nI 0) dX6_order_83 (by decide) ?_
                  refine x_istore_n h [(3, .int (nI 0)), (2, .int (nI (numL tx (p + 1) m))), (1, .int (nI (tx p))), (0, .ref (g.1 158))] dX6_order_84 rfl (by decide) rfl ?_
                  refine x_aload_n h 3 dX6_order_85 rfl rfl ?_
                  refine x_dup h dX6_order_86 rfl ?_
                  refine xg_X6_15 h in_X6_order_X6 (by decide +kernel) dX6_order_87 ?_
                  refine x_top (nI (p + 1 + m)) (hn15) ?_
                  refine x_iconst h (nI 1) dX6_order_90 (by decide) ?_
                  refine x_iadd_n h dX6_order_91 ?_
                  refine xp_X6_15 h in_X6_order_X6 (by decide +kernel) dX6_order_92 ?_
                  obtain ⟨W1, hW1⟩ : ∃ q : Nat → Nat → Int32, q = st2 Mn 158 15 (nI ((p + 1 + m) + 1)) := ⟨_, rfl⟩
                  refine x_mem W1 hW1.symm ?_
                  have h1k : ∀ k, k ≠ 158 → W1 k = M k := fun k hk => by rw [hW1, st2_n _ _ _ hk]; exact hnk k hk
                  have h18 : ∀ j, j ≠ 15 → W1 158 j = M 158 j := fun j hj => by rw [hW1, st2_k, pk_un hj]; exact hn8 j hj
                  have h115 : W1 158 15 = nI (p + 1 + m + 1) := by rw [hW1, st2_k, pk_us]
                  have hF1 := FrX_1 h1k h18
                  have e159 : W1 159 = M 159 := h1k 159 (by decide)
                  have hI1 := hI
                  rw [← e159] at hI1
                  refine x_iload_n h 0 dX6_order_95 rfl rfl ?_
                  refine x_if_ne h 105 dX6_order_96 (by decide) (fun c => absurd c (by decide)) (fun _ => ?_)
                  refine x_aload_n h 3 dX6_order_99 rfl rfl ?_
                  refine x_iconst h (nI 1) dX6_order_100 (by decide) ?_
                  refine xp_X6_16 h in_X6_order_X6 (by decide +kernel) dX6_order_101 ?_
                  exact hret _ _ _ _ dX6_order_104 (by 
                                          refine ⟨rfl, FrX_s _ (Or.inr (Or.inl rfl)) hF1, ⟨p + 1 + m + 1, by omega, by omega, (by rw [st2_k, pk_un (by decide)]; exact h115), ?_⟩, ?_, ?_⟩
                                          · exact Or.inl ⟨endO_x c_18 hmD (by first | exact Or.inr (Or.inl hm0) | exact Or.inr (Or.inr (fun z => c_40 ((chM_S hT).mpr z))) | exact Or.inl (fun z => by have := z.2; omega)), by rw [st2_k, pk_us], by rw [st2_n _ _ _ (by decide)]; exact e159⟩
                                          · rw [st2_k, pk_un (by decide)]; exact h18 17 (by decide)
                                          · rw [st2_k, pk_un (by decide)]; exact h18 18 (by decide))
                · -- 76 false
                  refine x_lvr (lv' := [(2, .int (nI (numL tx (p + 1) m))), (1, .int (nI 119)), (0, .ref (g.1 158))]) ?_ (by rw [c_76])
                  refine x_iconst h (nI 1) dX6_order_79 (by decide) ?_
                  refine x_goto h 84 dX6_order_80 (by decide) ?_
                  refine x_istore_n h [(3, .int (nI 1)), (2, .int (nI (numL tx (p + 1) m))), (1, .int (nI 119)), (0, .ref (g.1 158))] dX6_order_84 rfl (by decide) rfl ?_
                  refine x_aload_n h 3 dX6_order_85 rfl rfl ?_
                  refine x_dup h dX6_order_86 rfl ?_
                  refine xg_X6_15 h in_X6_order_X6 (by decide +kernel) dX6_order_87 ?_
                  refine x_top (nI (p + 1 + m)) (hn15) ?_
                  refine x_iconst h (nI 1) dX6_order_90 (by decide) ?_
                  refine x_iadd_n h dX6_order_91 ?_
                  refine xp_X6_15 h in_X6_order_X6 (by decide +kernel) dX6_order_92 ?_
                  obtain ⟨W1, hW1⟩ : ∃ q : Nat → Nat → Int32, q = st2 Mn 158 15 (nI ((p + 1 + m) + 1)) := ⟨_, rfl⟩
                  refine x_mem W1 hW1.symm ?_
                  have h1k : ∀ k, k ≠ 158 → W1 k = M k := fun k hk => by rw [hW1, st2_n _ _ _ hk]; exact hnk k hk
                  have h18 : ∀ j, j ≠ 15 → W1 158 j = M 158 j := fun j hj => by rw [hW1, st2_k, pk_un hj]; exact hn8 j hj
                  have h115 : W1 158 15 = nI (p + 1 + m + 1) := by rw [hW1, st2_k, pk_us]
                  have hF1 := FrX_1 h1k h18
                  have e159 : W1 159 = M 159 := h1k 159 (by decide)
                  have hI1 := hI
                  rw [← e159] at hI1
                  refine x_iload_n h 0 dX6_order_95 rfl rfl ?_
                  refine x_if_ne h 105 dX6_order_96 (by decide) (fun _ => ?_) (fun c => absurd c (by decide))
                  refine x_iload_n h 2 dX6_order_105 rfl rfl ?_
                  refine x_bipush h (nI 97) dX6_order_106 (by decide) ?_
                  refine x_icmp_ne h 122 dX6_order_108 (by decide) (fun _ => ?_) (fun c => absurd c (by decide))
                  refine x_iload_n h 2 dX6_order_122 rfl rfl ?_
                  refine x_bipush h (nI 104) dX6_order_123 (by decide) ?_
                  refine x_icmp_eq h 148 dX6_order_125 (by decide) (fun c => absurd c (by decide)) (fun _ => ?_)
                  refine x_iload_n h 2 dX6_order_128 rfl rfl ?_
                  refine x_bipush h (nI 119) dX6_order_129 (by decide) ?_
                  refine x_icmp_eq h 148 dX6_order_131 (by decide) (fun _ => ?_) (fun c => absurd (by decide) c)
                  refine x_iload_n h 2 dX6_order_148 rfl rfl ?_
                  refine x_lookup h (100) 249 dX6_order_149 (by decide) (by decide) (by decide) ?_
                  refine x_aload_n h 3 dX6_order_249 rfl rfl ?_
                  refine x_iload_n h 1 dX6_order_250 rfl rfl ?_
                  refine x_callV h (As := [.int (nI (numL tx (p + 1) m))]) 1 hx (c_X6_passes) gX6_order_X6_passes rfl ⟨rfl, rfl⟩ (by decide +kernel) rfl (by decide) (by decide) E_158 rfl rfl (Nat.le_of_ble_eq_true rfl) dX6_order_251 (fun av W2 P' hp => ?_)
                  obtain ⟨rfl, X2, hQ, hW2⟩ := hp
                  have hQ2 : X2 = W2 159 := by rw [hW2, va_up_k]
                  rw [e159, hQ2] at hQ
                  have hF2 : FrX M W2 := by rw [hW2]; exact FrX_v _ hF1
                  have h215 := (show W2 158 15 = W1 158 15 by rw [hW2, va_up_n _ _ (by decide)]).trans h115
                  have h2q : ∀ j, j = 17 ∨ j = 18 → W2 158 j = M 158 j := fun j hj => by rw [hW2, va_up_n _ _ (by decide)]; exact h18 j (by omega)
                  refine x_istore h [(4, .int av), (3, .int (nI 1)), (2, .int (nI (numL tx (p + 1) m))), (1, .int (nI 119)), (0, .ref (g.1 158))] dX6_order_254 (by decide) rfl ?_
                  refine x_aload_n h 4 dX6_order_256 rfl rfl ?_
                  refine x_iload h 0 dX6_order_257 rfl ?_
                  refine x_if_ge h 266 dX6_order_259 (by decide) (fun c_259 => ?_) (fun c_259 => ?_)
                  · -- 259 true
                    refine x_iconst h (nI 0) dX6_order_266 (by decide) ?_
                    refine xp_X6_16 h in_X6_order_X6 (by decide +kernel) dX6_order_267 ?_
                    exact hret _ _ _ _ dX6_order_270 (by 
                                              refine ⟨rfl, FrX_s _ (Or.inr (Or.inl rfl)) hF2, ⟨p + 1 + m + 1, by omega, by omega, (by rw [st2_k, pk_un (by decide)]; exact h215), ?_⟩, ?_, ?_⟩
                                              · exact Or.inr ⟨m, nI 0, (endO_y c_18 hmD ⟨hp, by omega⟩ hm0 ((chM_S hT).mp c_40)), rfl, ⟨av, Or.inr (Or.inl (⟨c_76, (by rw [st2_n _ _ _ (by decide)]; exact hQ), Or.inr (Or.inr ⟨trivial, Int32.not_lt.mpr c_259, rfl⟩)⟩))⟩, by rw [st2_k, pk_us]⟩
                                              · rw [st2_k, pk_un (by decide)]; exact h2q 17 (Or.inl rfl)
                                              · rw [st2_k, pk_un (by decide)]; exact h2q 18 (Or.inr rfl))
                  · -- 259 false
                    refine x_iconst h (nI 3) dX6_order_262 (by decide) ?_
                    refine x_goto h 267 dX6_order_263 (by decide) ?_
                    refine xp_X6_16 h in_X6_order_X6 (by decide +kernel) dX6_order_267 ?_
                    exact hret _ _ _ _ dX6_order_270 (by 
                                              refine ⟨rfl, FrX_s _ (Or.inr (Or.inl rfl)) hF2, ⟨p + 1 + m + 1, by omega, by omega, (by rw [st2_k, pk_un (by decide)]; exact h215), ?_⟩, ?_, ?_⟩
                                              · exact Or.inr ⟨m, nI 3, (endO_y c_18 hmD ⟨hp, by omega⟩ hm0 ((chM_S hT).mp c_40)), rfl, ⟨av, Or.inr (Or.inl (⟨c_76, (by rw [st2_n _ _ _ (by decide)]; exact hQ), Or.inr (Or.inl ⟨trivial, Int32.not_le.mp c_259, rfl⟩)⟩))⟩, by rw [st2_k, pk_us]⟩
                                              · rw [st2_k, pk_un (by decide)]; exact h2q 17 (Or.inl rfl)
                                              · rw [st2_k, pk_un (by decide)]; exact h2q 18 (Or.inr rfl))
  · -- 18 false
    refine x_lvr (lv' := [(1, .int (nI 104)), (0, .ref (g.1 158))]) ?_ (by rw [c_18])
    obtain ⟨Mn, hMn⟩ : ∃ q : Nat → Nat → Int32, q = st2 M 158 15 (nI (p + 1)) := ⟨_, rfl⟩
    refine x_mem Mn hMn.symm ?_
    have hnk : ∀ k, k ≠ 158 → Mn k = M k := fun k hk => by rw [hMn, st2_n _ _ _ hk]
    have hn8 : ∀ j, j ≠ 15 → Mn 158 j = M 158 j := fun j hj => by rw [hMn, st2_k, pk_un hj]
    have hn15 : Mn 158 15 = nI (p + 1) := by rw [hMn, st2_k, pk_us]
    refine x_iconst h (nI 0) dX6_order_21 (by decide) ?_
    refine x_goto h 29 dX6_order_22 (by decide) ?_
    refine x_istore_n h [(2, .int (nI 0)), (1, .int (nI 104)), (0, .ref (g.1 158))] dX6_order_29 rfl (by decide) rfl ?_
    refine x_iload_n h 0 dX6_order_30 rfl rfl ?_
    refine x_if_lt h 83 dX6_order_31 (by decide) (fun c => absurd c (by decide)) (fun _ => ?_)
    refine x_aload_n h 2 dX6_order_34 rfl rfl ?_
    refine x_callV h (As := []) 0 hx (c_X6_here (tx := tx) (ln := ln) (TxN_cg (hn8 7 (by decide)) (hnk 163 (by decide)) hT) (p := p + 1) (hn15) (by omega)) gX6_order_X6_here rfl ⟨rfl, rfl⟩ (by decide +kernel) rfl (by decide) (by decide) E_158 rfl rfl (Nat.le_of_ble_eq_true rfl) dX6_order_35 (fun rv M' P' hp => ?_)
    obtain ⟨⟨rfl, rfl⟩, rfl⟩ := hp
    refine x_bipush h (nI 59) dX6_order_38 (by decide) ?_
    refine x_icmp_ne h 83 dX6_order_40 (by decide) (fun c_40 => ?_) (fun c_40 => ?_)
    · -- 40 true
      refine x_iconst h (nI 0) dX6_order_83 (by decide) ?_
      refine x_istore_n h [(3, .int (nI 0)), (2, .int (nI 0)), (1, .int (nI 104)), (0, .ref (g.1 158))] dX6_order_84 rfl (by decide) rfl ?_
      refine x_aload_n h 3 dX6_order_85 rfl rfl ?_
      refine x_dup h dX6_order_86 rfl ?_
      refine xg_X6_15 h in_X6_order_X6 (by decide +kernel) dX6_order_87 ?_
      refine x_top (nI (p + 1)) (hn15) ?_
      refine x_iconst h (nI 1) dX6_order_90 (by decide) ?_
      refine x_iadd_n h dX6_order_91 ?_
      refine xp_X6_15 h in_X6_order_X6 (by decide +kernel) dX6_order_92 ?_
      obtain ⟨W1, hW1⟩ : ∃ q : Nat → Nat → Int32, q = st2 Mn 158 15 (nI ((p + 1) + 1)) := ⟨_, rfl⟩
      refine x_mem W1 hW1.symm ?_
      have h1k : ∀ k, k ≠ 158 → W1 k = M k := fun k hk => by rw [hW1, st2_n _ _ _ hk]; exact hnk k hk
      have h18 : ∀ j, j ≠ 15 → W1 158 j = M 158 j := fun j hj => by rw [hW1, st2_k, pk_un hj]; exact hn8 j hj
      have h115 : W1 158 15 = nI (p + 1 + 1) := by rw [hW1, st2_k, pk_us]
      have hF1 := FrX_1 h1k h18
      have e159 : W1 159 = M 159 := h1k 159 (by decide)
      have hI1 := hI
      rw [← e159] at hI1
      refine x_iload_n h 0 dX6_order_95 rfl rfl ?_
      refine x_if_ne h 105 dX6_order_96 (by decide) (fun c => absurd c (by decide)) (fun _ => ?_)
      refine x_aload_n h 3 dX6_order_99 rfl rfl ?_
      refine x_iconst h (nI 1) dX6_order_100 (by decide) ?_
      refine xp_X6_16 h in_X6_order_X6 (by decide +kernel) dX6_order_101 ?_
      exact hret _ _ _ _ dX6_order_104 (by 
                  refine ⟨rfl, FrX_s _ (Or.inr (Or.inl rfl)) hF1, ⟨p + 1 + 1, by omega, by omega, (by rw [st2_k, pk_un (by decide)]; exact h115), ?_⟩, ?_, ?_⟩
                  · exact Or.inl ⟨by rw [endO_h hp c_18, if_neg (fun z => c_40 ((chM_S hT).mpr z))], by rw [st2_k, pk_us], by rw [st2_n _ _ _ (by decide)]; exact e159⟩
                  · rw [st2_k, pk_un (by decide)]; exact h18 17 (by decide)
                  · rw [st2_k, pk_un (by decide)]; exact h18 18 (by decide))
    · -- 40 false
      refine x_iload_n h 1 dX6_order_43 rfl rfl ?_
      refine x_bipush h (nI 108) dX6_order_44 (by decide) ?_
      refine x_icmp_eq h 79 dX6_order_46 (by decide) (fun c => absurd c (by decide)) (fun _ => ?_)
      refine x_iload_n h 1 dX6_order_49 rfl rfl ?_
      refine x_bipush h (nI 100) dX6_order_50 (by decide) ?_
      refine x_icmp_eq h 79 dX6_order_52 (by decide) (fun c => absurd c (by decide)) (fun _ => ?_)
      refine x_iload_n h 1 dX6_order_55 rfl rfl ?_
      refine x_bipush h (nI 114) dX6_order_56 (by decide) ?_
      refine x_icmp_eq h 79 dX6_order_58 (by decide) (fun c => absurd c (by decide)) (fun _ => ?_)
      refine x_iload_n h 1 dX6_order_61 rfl rfl ?_
      refine x_bipush h (nI 97) dX6_order_62 (by decide) ?_
      refine x_icmp_eq h 79 dX6_order_64 (by decide) (fun c => absurd c (by decide)) (fun _ => ?_)
      refine x_iload_n h 1 dX6_order_67 rfl rfl ?_
      refine x_bipush h (nI 104) dX6_order_68 (by decide) ?_
      refine x_icmp_eq h 79 dX6_order_70 (by decide) (fun _ => ?_) (fun c => absurd (by decide) c)
      refine x_iconst h (nI 1) dX6_order_79 (by decide) ?_
      refine x_goto h 84 dX6_order_80 (by decide) ?_
      refine x_istore_n h [(3, .int (nI 1)), (2, .int (nI 0)), (1, .int (nI 104)), (0, .ref (g.1 158))] dX6_order_84 rfl (by decide) rfl ?_
      refine x_aload_n h 3 dX6_order_85 rfl rfl ?_
      refine x_dup h dX6_order_86 rfl ?_
      refine xg_X6_15 h in_X6_order_X6 (by decide +kernel) dX6_order_87 ?_
      refine x_top (nI (p + 1)) (hn15) ?_
      refine x_iconst h (nI 1) dX6_order_90 (by decide) ?_
      refine x_iadd_n h dX6_order_91 ?_
      refine xp_X6_15 h in_X6_order_X6 (by decide +kernel) dX6_order_92 ?_
      obtain ⟨W1, hW1⟩ : ∃ q : Nat → Nat → Int32, q = st2 Mn 158 15 (nI ((p + 1) + 1)) := ⟨_, rfl⟩
      refine x_mem W1 hW1.symm ?_
      have h1k : ∀ k, k ≠ 158 → W1 k = M k := fun k hk => by rw [hW1, st2_n _ _ _ hk]; exact hnk k hk
      have h18 : ∀ j, j ≠ 15 → W1 158 j = M 158 j := fun j hj => by rw [hW1, st2_k, pk_un hj]; exact hn8 j hj
      have h115 : W1 158 15 = nI (p + 1 + 1) := by rw [hW1, st2_k, pk_us]
      have hF1 := FrX_1 h1k h18
      have e159 : W1 159 = M 159 := h1k 159 (by decide)
      have hI1 := hI
      rw [← e159] at hI1
      refine x_iload_n h 0 dX6_order_95 rfl rfl ?_
      refine x_if_ne h 105 dX6_order_96 (by decide) (fun _ => ?_) (fun c => absurd c (by decide))
      refine x_iload_n h 2 dX6_order_105 rfl rfl ?_
      refine x_bipush h (nI 97) dX6_order_106 (by decide) ?_
      refine x_icmp_ne h 122 dX6_order_108 (by decide) (fun _ => ?_) (fun c => absurd c (by decide))
      refine x_iload_n h 2 dX6_order_122 rfl rfl ?_
      refine x_bipush h (nI 104) dX6_order_123 (by decide) ?_
      refine x_icmp_eq h 148 dX6_order_125 (by decide) (fun _ => ?_) (fun c => absurd (by decide) c)
      refine x_iload_n h 2 dX6_order_148 rfl rfl ?_
      refine x_lookup h (91) 240 dX6_order_149 (by decide) (by decide) (by decide) ?_
      refine x_aload_n h 3 dX6_order_240 rfl rfl ?_
      refine x_callV h (As := []) 0 hx (c_X6_hears hI1) gX6_order_X6_hears rfl ⟨rfl, rfl⟩ (by decide +kernel) rfl (by decide) (by decide) E_158 rfl rfl (Nat.le_of_ble_eq_true rfl) dX6_order_241 (fun av W2 P' hp => ?_)
      obtain ⟨rfl, X2, hQ, hW2⟩ := hp
      have hQ2 : X2 = W2 159 := by rw [hW2, va_up_k]
      rw [e159, hQ2] at hQ
      have hF2 : FrX M W2 := by rw [hW2]; exact FrX_v _ hF1
      have h215 := (show W2 158 15 = W1 158 15 by rw [hW2, va_up_n _ _ (by decide)]).trans h115
      have h2q : ∀ j, j = 17 ∨ j = 18 → W2 158 j = M 158 j := fun j hj => by rw [hW2, va_up_n _ _ (by decide)]; exact h18 j (by omega)
      refine x_istore h [(4, .int av), (3, .int (nI 1)), (2, .int (nI 0)), (1, .int (nI 104)), (0, .ref (g.1 158))] dX6_order_244 (by decide) rfl ?_
      refine x_goto h 256 dX6_order_246 (by decide) ?_
      refine x_aload_n h 4 dX6_order_256 rfl rfl ?_
      refine x_iload h 0 dX6_order_257 rfl ?_
      refine x_if_ge h 266 dX6_order_259 (by decide) (fun c_259 => ?_) (fun c_259 => ?_)
      · -- 259 true
        refine x_iconst h (nI 0) dX6_order_266 (by decide) ?_
        refine xp_X6_16 h in_X6_order_X6 (by decide +kernel) dX6_order_267 ?_
        exact hret _ _ _ _ dX6_order_270 (by 
                      refine ⟨rfl, FrX_s _ (Or.inr (Or.inl rfl)) hF2, ⟨p + 1 + 1, by omega, by omega, (by rw [st2_k, pk_un (by decide)]; exact h215), ?_⟩, ?_, ?_⟩
                      · exact Or.inr ⟨0, nI 0, (by rw [endO_h hp c_18, if_pos ((chM_S hT).mp c_40)]), rfl, ⟨av, Or.inl (⟨c_18, (by rw [st2_n _ _ _ (by decide)]; exact hQ), Or.inr (Or.inr ⟨trivial, Int32.not_lt.mpr c_259, rfl⟩)⟩)⟩, by rw [st2_k, pk_us]⟩
                      · rw [st2_k, pk_un (by decide)]; exact h2q 17 (Or.inl rfl)
                      · rw [st2_k, pk_un (by decide)]; exact h2q 18 (Or.inr rfl))
      · -- 259 false
        refine x_iconst h (nI 3) dX6_order_262 (by decide) ?_
        refine x_goto h 267 dX6_order_263 (by decide) ?_
        refine xp_X6_16 h in_X6_order_X6 (by decide +kernel) dX6_order_267 ?_
        exact hret _ _ _ _ dX6_order_270 (by 
                      refine ⟨rfl, FrX_s _ (Or.inr (Or.inl rfl)) hF2, ⟨p + 1 + 1, by omega, by omega, (by rw [st2_k, pk_un (by decide)]; exact h215), ?_⟩, ?_, ?_⟩
                      · exact Or.inr ⟨0, nI 3, (by rw [endO_h hp c_18, if_pos ((chM_S hT).mp c_40)]), rfl, ⟨av, Or.inl (⟨c_18, (by rw [st2_n _ _ _ (by decide)]; exact hQ), Or.inr (Or.inl ⟨trivial, Int32.not_le.mp c_259, rfl⟩)⟩)⟩, by rw [st2_k, pk_us]⟩
                      · rw [st2_k, pk_un (by decide)]; exact h2q 17 (Or.inl rfl)
                      · rw [st2_k, pk_un (by decide)]; exact h2q 18 (Or.inr rfl))
