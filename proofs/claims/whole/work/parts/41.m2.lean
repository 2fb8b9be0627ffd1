def Ch (M M1 : Nat → Nat → Int32) : Prop := (∀ j, j < 379 → M1 160 j = M 159 j) ∧ (∀ k, k < 158 ∨ k = 162 ∨ k = 163 → M1 k = M k) ∧ ∀ j, j = 5 ∨ j = 6 ∨ j = 7 → M1 158 j = M 158 j
theorem Ch_copy (M : Nat → Nat → Int32) : Ch M (va_up M 160 (cpI (M 159) (M 160) 379)) := ⟨fun j hj => by rw [va_up_k]; exact if_pos hj, fun k hk => va_up_n _ _ (by omega), fun j _ => by rw [va_up_n _ _ (by decide)]⟩
theorem Ch_s {M M1 : Nat → Nat → Int32} (j : Nat) (v : Int32) (h : Ch M M1) : Ch M (st2 M1 159 j v) := ⟨fun j hj => by rw [st2_n _ _ _ (by decide)]; exact h.1 j hj, fun k hk => (st2_n _ _ _ (by omega)).trans (h.2.1 k hk), fun j hj => by rw [st2_n _ _ _ (by decide)]; exact h.2.2 j hj⟩
theorem Ch_v {M M1 : Nat → Nat → Int32} (Y : Nat → Int32) (h : Ch M M1) : Ch M (va_up M1 159 Y) := ⟨fun j hj => by rw [va_up_n _ _ (by decide)]; exact h.1 j hj, fun k hk => (va_up_n _ _ (by omega)).trans (h.2.1 k hk), fun j hj => by rw [va_up_n _ _ (by decide)]; exact h.2.2 j hj⟩
theorem rcI_cg {R A B : Nat → Int32} {q n : Nat} (h : ∀ j, j < n → A j = B j) : rcI R A q n = rcI R B q n := by
  funext j
  unfold rcI
  by_cases e : 379 * q ≤ j ∧ j < 379 * q + n
  · rw [if_pos e, if_pos e]; exact h _ (by omega)
  · rw [if_neg e, if_neg e]
theorem rec_mk {M M1 M' : Nat → Nat → Int32} {many at_ : Nat} {a : Int32} (h : Ch M M1) (hm : M 158 5 = nI many) (hat : M 158 6 = nI at_) (hr : (a < 0 ∧ M1 = M') ∨ (¬ a < 0 ∧ M' 162 = rcI (M1 162) (M1 160) at_ 379 ∧ M' 158 5 = nI (min (many + 1) 4) ∧ M' 158 6 = nI ((at_ + 1) % 4) ∧ (∀ k, k ≠ 162 → k ≠ 158 → M' k = M1 k) ∧ M' 158 7 = M1 158 7)) : FrM M M' ∧ KpM many at_ (M 159) M a M' ∧ M' 159 = M1 159 := by
  rcases hr with ⟨h1, rfl⟩ | ⟨h1, h2, h3, h4, h5, h6⟩
  · exact ⟨⟨fun k hk => h.2.1 k (Or.inl hk), h.2.1 163 (by omega), h.2.2 7 (by omega)⟩, Or.inl ⟨h1, h.2.1 162 (by omega), (h.2.2 5 (by omega)).trans hm, (h.2.2 6 (by omega)).trans hat⟩, rfl⟩
  · exact ⟨⟨fun k hk => (h5 k (by omega) (by omega)).trans (h.2.1 k (Or.inl hk)), (h5 163 (by decide) (by decide)).trans (h.2.1 163 (by omega)), h6.trans (h.2.2 7 (by omega))⟩, Or.inr ⟨h1, by rw [h2, h.2.1 162 (by omega)]; exact rcI_cg h.1, h3, h4⟩, h5 159 (by decide) (by decide)⟩
theorem FrM_rf (M : Nat → Nat → Int32) : FrM M M := ⟨fun _ _ => rfl, rfl, rfl⟩
theorem dec_n {n : Nat} (h : 0 < n) : nI n + Int32.ofInt (-1) = nI (n - 1) := by
  obtain ⟨m, rfl⟩ : ∃ m, n = m + 1 := ⟨n - 1, by omega⟩
  exact pk_m1 m
/-- the places that a net beyond the last has still as they began -/
def Zn (S : Nat → Int32) (N : Nat) : Prop := ∀ k, N ≤ k → k < 6 → ∀ t, 5 ≤ t → t < 9 → S (169 + 9 * k + t) = nI 0
theorem BlkV_upd {S : Nat → Int32} {j : Nat} {v : Int32} (hj : j < 81) (h : BlkV S) : BlkV (upd (upd S (7 + j) v) (7 + (j + 81)) v) := fun a ha => by
  by_cases e : a = j
  · subst e; rw [pk_un (by omega), pk_us, pk_us]
  · rw [pk_un (by omega), pk_un (by omega), pk_un (by omega), pk_un (by omega)]; exact h a ha
theorem sumI_j {S : Nat → Int32} : ∀ {N : Nat}, (∀ k, k < N → S (169 + 9 * k + 5) = nI 0 ∨ S (169 + 9 * k + 5) = nI 1) → sumI (fun k => S (169 + 9 * k + 5)) N = nI (joinedN S N)
  | 0, _ => rfl
  | n + 1, h => by
    have ih := sumI_j (N := n) (fun k hk => h k (by omega))
    have hs : joinedN S (n + 1) = joinedN S n + (if decide (¬ S (169 + 9 * n + 5) = 0) = true then 1 else 0) := rfl
    show sumI (fun k => S (169 + 9 * k + 5)) n + S (169 + 9 * n + 5) = nI (joinedN S (n + 1))
    rw [ih, hs]
    rcases h n (by omega) with q | q
    · rw [q, if_neg (by decide)]
      exact Int32.add_zero _
    · rw [q, if_pos (by decide), nI_add]
theorem wires_in {S : Nat → Int32} {N : Nat} (hN : N ≤ 6) (hO : OwV eM S N) : cnt (fun a => decide (nI 1 ≤ S (7 + a) ∧ S (7 + a) ≤ nI 6)) 162 = wires eM S N := cnt_congr (fun a ha => decide_eq_decide.mpr (in_wire hN hO ha))
theorem free_in (S : Nat → Int32) : cnt (fun a => decide (nI 0 ≤ S (7 + a) ∧ S (7 + a) ≤ nI 0)) 162 = wir S (nI 0) := cnt_congr (fun a _ => decide_eq_decide.mpr ⟨fun q => Int32.le_antisymm q.2 q.1, fun q => by rw [q]; exact ⟨Int32.le_refl _, Int32.le_refl _⟩⟩)
def clQ (S : Nat → Int32) (a r : Int32) : Prop := (¬ InR 162 a ∧ r = -1000001) ∨ ∃ j, j < 162 ∧ a = nI j ∧ r = if S (7 + j) = nI 0 then -1000004 else if S (7 + j) = nI 20 then nI 20 else S (7 + j) - nI 1

theorem hIap {M : Nat → Nat → Int32} {N K B k : Nat} {v w : Int32} (hI : InvX eM (M 159) N K B) (hk : k < 12) : InvX eM (st2 (st2 M 159 (223 + 13 * k + 5) v) 159 4 w 159) N K B := by
  have hN := hI.1.2.1
  rw [st2_k, st2_k]
  exact InvX_u eM_g hI (fun j hj => by rw [pk_un (by omega), pk_un (by omega)]) (fun k hk t ht => by rw [pk_un (by omega), pk_un (by omega)]) (fun i hi => ⟨by rw [pk_un (by omega), pk_un (by omega)], by rw [pk_un (by omega), pk_un (by omega)]⟩)

set_option maxRecDepth 20000 in
theorem ggX6_set_X6_in : GoodIn wsX6_set wsX6_in := goodIn_r _ [6] (by decide +kernel) (by decide +kernel)
set_option maxRecDepth 20000 in
theorem gX6_set_X6_in : GoodIn wsX6_set (va_wsS RX6 38 yX6_in wsX6_in) := goodIn_app (goodIn_of _ (by decide +kernel)) ggX6_set_X6_in
set_option maxRecDepth 20000 in
theorem ggX6_set_X6_least : GoodIn wsX6_set wsX6_least := goodIn_r _ [9] (by decide +kernel) (by decide +kernel)
set_option maxRecDepth 20000 in
theorem gX6_set_X6_least : GoodIn wsX6_set (va_wsS RX6 54 yX6_least wsX6_least) := goodIn_app (goodIn_of _ (by decide +kernel)) ggX6_set_X6_least
set_option maxRecDepth 20000 in
theorem ggX6_set_X6_most : GoodIn wsX6_set wsX6_most := goodIn_r _ [12] (by decide +kernel) (by decide +kernel)
set_option maxRecDepth 20000 in
theorem gX6_set_X6_most : GoodIn wsX6_set (va_wsS RX6 58 yX6_most wsX6_most) := goodIn_app (goodIn_of _ (by decide +kernel)) ggX6_set_X6_most
set_option maxRecDepth 20000 in
theorem ggX6_set_X6_copy : GoodIn wsX6_set wsX6_copy := goodIn_r _ [16, 17, 2, 25, 26, 27, 28, 29, 30, 31, 32, 33, 34, 35, 36, 37, 38, 39, 40, 41, 42, 43] (by decide +kernel) (by decide +kernel)
set_option maxRecDepth 20000 in
theorem gX6_set_X6_copy : GoodIn wsX6_set (wsV RX6 62 RX6 yX6_copy wsX6_copy) := goodIn_app (goodIn_of _ (by decide +kernel)) ggX6_set_X6_copy
set_option maxRecDepth 20000 in
theorem ggX6_set_X6_recorded : GoodIn wsX6_set wsX6_recorded := goodIn_r _ [21, 22, 23, 17, 24, 25, 26, 27, 28, 29, 30, 31, 32, 33, 34, 35, 36, 37, 38, 39, 40, 41, 42, 43] (by decide +kernel) (by decide +kernel)
set_option maxRecDepth 20000 in
theorem gX6_set_X6_recorded : GoodIn wsX6_set (wsV RX6 65 RX6 yX6_recorded wsX6_recorded) := goodIn_app (goodIn_of _ (by decide +kernel)) ggX6_set_X6_recorded
theorem dX6_set_0 : decode cX6_set 0 = .ok (.iload_n 1, 1) := by decide +kernel
theorem dX6_set_1 : decode cX6_set 1 = .ok (.iconst 0, 1) := by decide +kernel
theorem dX6_set_2 : decode cX6_set 2 = .ok (.iconst 3, 1) := by decide +kernel
theorem dX6_set_3 : decode cX6_set 3 = .ok (.invokestatic 38, 3) := by decide +kernel
theorem dX6_set_6 : decode cX6_set 6 = .ok (.ifCond .eq 18, 3) := by decide +kernel
theorem dX6_set_9 : decode cX6_set 9 = .ok (.iload_n 2, 1) := by decide +kernel
theorem dX6_set_10 : decode cX6_set 10 = .ok (.iload_n 1, 1) := by decide +kernel
theorem dX6_set_11 : decode cX6_set 11 = .ok (.invokestatic 54, 3) := by decide +kernel
theorem dX6_set_14 : decode cX6_set 14 = .ok (.iload_n 1, 1) := by decide +kernel
theorem dX6_set_15 : decode cX6_set 15 = .ok (.invokestatic 58, 3) := by decide +kernel
theorem dX6_set_18 : decode cX6_set 18 = .ok (.invokestatic 38, 3) := by decide +kernel
theorem dX6_set_21 : decode cX6_set 21 = .ok (.ifCond .ne 6, 3) := by decide +kernel
theorem dX6_set_24 : decode cX6_set 24 = .ok (.ldc 61, 2) := by decide +kernel
theorem dX6_set_26 : decode cX6_set 26 = .ok (.ireturn, 1) := by decide +kernel
theorem dX6_set_27 : decode cX6_set 27 = .ok (.aload_n 0, 1) := by decide +kernel
theorem dX6_set_28 : decode cX6_set 28 = .ok (.invokevirtual 62, 3) := by decide +kernel
theorem dX6_set_31 : decode cX6_set 31 = .ok (.aload_n 0, 1) := by decide +kernel
theorem dX6_set_32 : decode cX6_set 32 = .ok (.getfield 7, 3) := by decide +kernel
theorem dX6_set_35 : decode cX6_set 35 = .ok (.iload_n 1, 1) := by decide +kernel
theorem dX6_set_36 : decode cX6_set 36 = .ok (.iaload, 1) := by decide +kernel
theorem dX6_set_37 : decode cX6_set 37 = .ok (.istore_n 3, 1) := by decide +kernel
theorem dX6_set_38 : decode cX6_set 38 = .ok (.aload_n 0, 1) := by decide +kernel
theorem dX6_set_39 : decode cX6_set 39 = .ok (.getfield 7, 3) := by decide +kernel
theorem dX6_set_42 : decode cX6_set 42 = .ok (.iload_n 1, 1) := by decide +kernel
theorem dX6_set_43 : decode cX6_set 43 = .ok (.iload_n 2, 1) := by decide +kernel
theorem dX6_set_44 : decode cX6_set 44 = .ok (.iastore, 1) := by decide +kernel
theorem dX6_set_45 : decode cX6_set 45 = .ok (.aload_n 0, 1) := by decide +kernel
theorem dX6_set_46 : decode cX6_set 46 = .ok (.iload_n 3, 1) := by decide +kernel
theorem dX6_set_47 : decode cX6_set 47 = .ok (.invokevirtual 65, 3) := by decide +kernel
theorem dX6_set_50 : decode cX6_set 50 = .ok (.ireturn, 1) := by decide +kernel
abbrev rmX6_set : Room := { frames := 1, cells := 0, slots := 0, locals := 22 }
set_option maxRecDepth 20000 in
theorem in_X6_set_X6 : ∀ w ∈ wsX60, w ∈ wsX6_set := by decide +kernel

set_option maxRecDepth 100000 in
set_option maxHeartbeats 4000000 in
theorem c_X6_set {l : Launch} {g : Geo} {M : Nat → Nat → Int32} {P : Nat → Nat} {many at_ : Nat} (hm : M 158 5 = nI many) (hm4 : many ≤ 4) (hat : M 158 6 = nI at_) (hat4 : at_ < 4) {w v : Int32} : Met l yX6_set wsX6_set rmX6_set (cPre g [.ref (g.1 158), .int w, .int v] M P) (cQi g (fun r M' P' => P = P' ∧ FrM M M' ∧ KpM many at_ (M 159) M r M' ∧ setQ (M 159) w v r (M' 159))) 0 0 (gA g) := by
  refine met_i (cc := cX6_set) (maxL := 4) (by decide) rfl ⟨rfl, rfl⟩ (Nat.le_of_ble_eq_true rfl) (fun x hx h hret => ?_)
  replace h : Cxk x g cX6_set 4 wsX6_set RX6 rmX6_set := h
  show X x 0 [(0, .ref (g.1 158)), (1, .int w), (2, .int v)] [] M P
  refine x_iload_n h 1 dX6_set_0 rfl rfl ?_
  refine x_iconst h (nI 0) dX6_set_1 (by decide) ?_
  refine x_iconst h (nI 3) dX6_set_2 (by decide) ?_
  refine x_callS h (As := [.int w, .int (nI 0), .int (nI 3)]) 3 hx (c_X6_in) gX6_set_X6_in rfl ⟨rfl, rfl⟩ (by decide +kernel) rfl (by decide) (Nat.le_of_ble_eq_true rfl) dX6_set_3 (fun rv M' P' hp => ?_)
  obtain ⟨⟨rfl, rfl⟩, hp⟩ := hp
  rcases hp with ⟨iy3, rfl⟩ | ⟨in3, rfl⟩
  · -- in
    obtain ⟨k3, hk3, rfl⟩ := (InR_in2 (N := 3) (by omega)).mp iy3
    refine x_if_eq h 24 dX6_set_6 (by decide) (fun c => absurd c (by decide)) (fun _ => ?_)
    refine x_iload_n h 2 dX6_set_9 rfl rfl ?_
    refine x_iload_n h 1 dX6_set_10 rfl rfl ?_
    refine x_callS h (As := [.int (nI k3)]) 1 hx (c_X6_least (by omega)) gX6_set_X6_least rfl ⟨rfl, rfl⟩ (by decide +kernel) rfl (by decide) (Nat.le_of_ble_eq_true rfl) dX6_set_11 (fun rv M' P' hp => ?_)
    obtain ⟨⟨rfl, rfl⟩, rfl⟩ := hp
    refine x_iload_n h 1 dX6_set_14 rfl rfl ?_
    refine x_callS h (As := [.int (nI k3)]) 1 hx (c_X6_most (by omega)) gX6_set_X6_most rfl ⟨rfl, rfl⟩ (by decide +kernel) rfl (by decide) (Nat.le_of_ble_eq_true rfl) dX6_set_15 (fun rv M' P' hp => ?_)
    obtain ⟨⟨rfl, rfl⟩, rfl⟩ := hp
    refine x_callS h (As := [.int v, .int (f_LEASTi k3), .int (f_MOSTi k3)]) 3 hx (c_X6_in) gX6_set_X6_in rfl ⟨rfl, rfl⟩ (by decide +kernel) rfl (by decide) (Nat.le_of_ble_eq_true rfl) dX6_set_18 (fun rv M' P' hp => ?_)
    obtain ⟨⟨rfl, rfl⟩, hp⟩ := hp
    rcases hp with ⟨i18, rfl⟩ | ⟨ni18, rfl⟩
    · -- call 18
      refine x_if_ne h 27 dX6_set_21 (by decide) (fun _ => ?_) (fun c => absurd c (by decide))
      refine x_aload_n h 0 dX6_set_27 rfl rfl ?_
      refine x_callVv h (As := []) 0 hx (c_X6_copy) gX6_set_X6_copy rfl ⟨rfl, rfl⟩ (by decide +kernel) rfl (by decide) (by decide) E_158 rfl rfl (Nat.le_of_ble_eq_true rfl) dX6_set_28 (fun Mc P' hp => ?_)
      obtain ⟨rfl, hMc⟩ := hp
      have hC : Ch M Mc := by rw [hMc]; exact Ch_copy M
      have hc9 : Mc 159 = M 159 := by rw [hMc, va_up_n _ _ (by decide)]
      refine x_aload_n h 0 dX6_set_31 rfl rfl ?_
      refine xg_X6_0 h in_X6_set_X6 (by decide +kernel) dX6_set_32 ?_
      refine x_iload_n h 1 dX6_set_35 rfl rfl ?_
      refine xl_159 h dX6_set_36 (by omega) ?_
      refine x_istore_n h [(3, .int (Mc 159 k3)), (0, .ref (g.1 158)), (1, .int (nI k3)), (2, .int v)] dX6_set_37 rfl (by decide) rfl ?_
      refine x_aload_n h 1 dX6_set_38 rfl rfl ?_
      refine xg_X6_0 h in_X6_set_X6 (by decide +kernel) dX6_set_39 ?_
      refine x_iload_n h 2 dX6_set_42 rfl rfl ?_
      refine x_iload_n h 3 dX6_set_43 rfl rfl ?_
      refine xs_159 h dX6_set_44 (by omega) ?_
      refine x_aload_n h 1 dX6_set_45 rfl rfl ?_
      refine x_iload_n h 0 dX6_set_46 rfl rfl ?_
      obtain ⟨W1, hW1⟩ : ∃ q : Nat → Nat → Int32, q = st2 Mc 159 k3 v := ⟨_, rfl⟩
      refine x_mem W1 hW1.symm ?_
      have hCh : Ch M W1 := by rw [hW1]; (repeat (first | apply Ch_s | apply Ch_v)); exact hC
      refine x_callV h (As := [.int (Mc 159 k3)]) 1 hx (c_X6_recorded ((hCh.2.2 5 (by decide)).trans hm) hm4 ((hCh.2.2 6 (by decide)).trans hat) hat4) gX6_set_X6_recorded rfl ⟨rfl, rfl⟩ (by decide +kernel) rfl (by decide) (by decide) E_158 rfl rfl (Nat.le_of_ble_eq_true rfl) dX6_set_47 (fun rv Mr P' hp => ?_)
      obtain ⟨rfl, rfl, hrec⟩ := hp
      obtain ⟨f1, f2, f3⟩ := rec_mk hCh hm hat hrec
      exact hret _ _ _ _ _ dX6_set_50 (by refine ⟨rfl, f1, f2, Or.inr ⟨k3, by omega, rfl, i18.1, i18.2, by rw [hc9], ?_⟩⟩; rw [f3, hW1]; simp only [st2_k, hc9])
    · -- call 18
      refine x_if_ne h 27 dX6_set_21 (by decide) (fun c => absurd c (by decide)) (fun _ => ?_)
      refine x_ldc h ((-1000001)) (by decide +kernel) dX6_set_24 ?_
      exact hret _ _ _ _ _ dX6_set_26 (by exact ⟨rfl, FrM_rf M, Or.inl ⟨by decide, rfl, hm, hat⟩, Or.inl ⟨fun ⟨q, hq, e, e1, e2⟩ => (by first | exact nk3 ⟨q, hq, e⟩ | (obtain rfl := (nI_eq (by omega) (by omega)).mp e; exact ni18 ⟨e1, e2⟩)), rfl, rfl⟩⟩)
  · -- out
    have nk3 := fun q => in3 ((InR_in2 (N := 3) (by omega)).mpr q)
    refine x_if_eq h 24 dX6_set_6 (by decide) (fun _ => ?_) (fun c => absurd (by decide) c)
    refine x_ldc h ((-1000001)) (by decide +kernel) dX6_set_24 ?_
    exact hret _ _ _ _ _ dX6_set_26 (by exact ⟨rfl, FrM_rf M, Or.inl ⟨by decide, rfl, hm, hat⟩, Or.inl ⟨fun ⟨q, hq, e, e1, e2⟩ => (by first | exact nk3 ⟨q, hq, e⟩ | (obtain rfl := (nI_eq (by omega) (by omega)).mp e; exact ni18 ⟨e1, e2⟩)), rfl, rfl⟩⟩)

set_option maxRecDepth 20000 in
theorem ggX6_block_X6_in : GoodIn wsX6_block wsX6_in := goodIn_r _ [7] (by decide +kernel) (by decide +kernel)
set_option maxRecDepth 20000 in
theorem gX6_block_X6_in : GoodIn wsX6_block (va_wsS RX6 38 yX6_in wsX6_in) := goodIn_app (goodIn_of _ (by decide +kernel)) ggX6_block_X6_in
set_option maxRecDepth 20000 in
theorem ggX6_block_X6_isFree : GoodIn wsX6_block wsX6_isFree := goodIn_r _ [11, 2, 28, 29, 30, 31, 32, 33, 34, 35, 36, 37, 38, 39, 40, 41, 42, 43, 44, 45, 46] (by decide +kernel) (by decide +kernel)
set_option maxRecDepth 20000 in
theorem gX6_block_X6_isFree : GoodIn wsX6_block (wsV RX6 68 RX6 yX6_isFree wsX6_isFree) := goodIn_app (goodIn_of _ (by decide +kernel)) ggX6_block_X6_isFree
set_option maxRecDepth 20000 in
theorem ggX6_block_X6_copy : GoodIn wsX6_block wsX6_copy := goodIn_r _ [15, 16, 2, 28, 29, 30, 31, 32, 33, 34, 35, 36, 37, 38, 39, 40, 41, 42, 43, 44, 45, 46] (by decide +kernel) (by decide +kernel)
set_option maxRecDepth 20000 in
theorem gX6_block_X6_copy : GoodIn wsX6_block (wsV RX6 62 RX6 yX6_copy wsX6_copy) := goodIn_app (goodIn_of _ (by decide +kernel)) ggX6_block_X6_copy
set_option maxRecDepth 20000 in
theorem ggX6_block_X6_blockedMany : GoodIn wsX6_block wsX6_blockedMany := goodIn_r _ [20, 2, 28, 29, 30, 31, 32, 33, 34, 35, 36, 37, 38, 39, 40, 41, 42, 43, 44, 45, 46] (by decide +kernel) (by decide +kernel)
set_option maxRecDepth 20000 in
theorem gX6_block_X6_blockedMany : GoodIn wsX6_block (wsV RX6 72 RX6 yX6_blockedMany wsX6_blockedMany) := goodIn_app (goodIn_of _ (by decide +kernel)) ggX6_block_X6_blockedMany
set_option maxRecDepth 20000 in
theorem ggX6_block_X6_recorded : GoodIn wsX6_block wsX6_recorded := goodIn_r _ [24, 25, 26, 16, 27, 28, 29, 30, 31, 32, 33, 34, 35, 36, 37, 38, 39, 40, 41, 42, 43, 44, 45, 46] (by decide +kernel) (by decide +kernel)
set_option maxRecDepth 20000 in
theorem gX6_block_X6_recorded : GoodIn wsX6_block (wsV RX6 65 RX6 yX6_recorded wsX6_recorded) := goodIn_app (goodIn_of _ (by decide +kernel)) ggX6_block_X6_recorded
theorem dX6_block_0 : decode cX6_block 0 = .ok (.iload_n 1, 1) := by decide +kernel
theorem dX6_block_1 : decode cX6_block 1 = .ok (.iconst 0, 1) := by decide +kernel
theorem dX6_block_2 : decode cX6_block 2 = .ok (.bipush 80, 2) := by decide +kernel
theorem dX6_block_4 : decode cX6_block 4 = .ok (.invokestatic 38, 3) := by decide +kernel
theorem dX6_block_7 : decode cX6_block 7 = .ok (.ifCond .eq 12, 3) := by decide +kernel
theorem dX6_block_10 : decode cX6_block 10 = .ok (.iload_n 2, 1) := by decide +kernel
theorem dX6_block_11 : decode cX6_block 11 = .ok (.iconst 0, 1) := by decide +kernel
theorem dX6_block_12 : decode cX6_block 12 = .ok (.iconst 1, 1) := by decide +kernel
theorem dX6_block_13 : decode cX6_block 13 = .ok (.invokestatic 38, 3) := by decide +kernel
theorem dX6_block_16 : decode cX6_block 16 = .ok (.ifCond .ne 6, 3) := by decide +kernel
theorem dX6_block_19 : decode cX6_block 19 = .ok (.ldc 61, 2) := by decide +kernel
theorem dX6_block_21 : decode cX6_block 21 = .ok (.ireturn, 1) := by decide +kernel
theorem dX6_block_22 : decode cX6_block 22 = .ok (.iload_n 2, 1) := by decide +kernel
theorem dX6_block_23 : decode cX6_block 23 = .ok (.iconst 1, 1) := by decide +kernel
theorem dX6_block_24 : decode cX6_block 24 = .ok (.if_icmp .ne 14, 3) := by decide +kernel
theorem dX6_block_27 : decode cX6_block 27 = .ok (.aload_n 0, 1) := by decide +kernel
theorem dX6_block_28 : decode cX6_block 28 = .ok (.iload_n 1, 1) := by decide +kernel
theorem dX6_block_29 : decode cX6_block 29 = .ok (.invokevirtual 68, 3) := by decide +kernel
theorem dX6_block_32 : decode cX6_block 32 = .ok (.ifCond .ne 23, 3) := by decide +kernel
theorem dX6_block_35 : decode cX6_block 35 = .ok (.goto 17, 3) := by decide +kernel
theorem dX6_block_38 : decode cX6_block 38 = .ok (.aload_n 0, 1) := by decide +kernel
theorem dX6_block_39 : decode cX6_block 39 = .ok (.getfield 7, 3) := by decide +kernel
theorem dX6_block_42 : decode cX6_block 42 = .ok (.bipush 7, 2) := by decide +kernel
theorem dX6_block_44 : decode cX6_block 44 = .ok (.iload_n 1, 1) := by decide +kernel
theorem dX6_block_45 : decode cX6_block 45 = .ok (.iadd, 1) := by decide +kernel
theorem dX6_block_46 : decode cX6_block 46 = .ok (.iaload, 1) := by decide +kernel
theorem dX6_block_47 : decode cX6_block 47 = .ok (.bipush 20, 2) := by decide +kernel
theorem dX6_block_49 : decode cX6_block 49 = .ok (.if_icmp .eq 6, 3) := by decide +kernel
theorem dX6_block_52 : decode cX6_block 52 = .ok (.ldc 53, 2) := by decide +kernel
theorem dX6_block_54 : decode cX6_block 54 = .ok (.ireturn, 1) := by decide +kernel
theorem dX6_block_55 : decode cX6_block 55 = .ok (.aload_n 0, 1) := by decide +kernel
theorem dX6_block_56 : decode cX6_block 56 = .ok (.invokevirtual 62, 3) := by decide +kernel
theorem dX6_block_59 : decode cX6_block 59 = .ok (.aload_n 0, 1) := by decide +kernel
theorem dX6_block_60 : decode cX6_block 60 = .ok (.getfield 7, 3) := by decide +kernel
theorem dX6_block_63 : decode cX6_block 63 = .ok (.bipush 7, 2) := by decide +kernel
theorem dX6_block_65 : decode cX6_block 65 = .ok (.iload_n 1, 1) := by decide +kernel
theorem dX6_block_66 : decode cX6_block 66 = .ok (.iadd, 1) := by decide +kernel
theorem dX6_block_67 : decode cX6_block 67 = .ok (.iload_n 2, 1) := by decide +kernel
theorem dX6_block_68 : decode cX6_block 68 = .ok (.iconst 1, 1) := by decide +kernel
theorem dX6_block_69 : decode cX6_block 69 = .ok (.if_icmp .ne 8, 3) := by decide +kernel
theorem dX6_block_72 : decode cX6_block 72 = .ok (.bipush 20, 2) := by decide +kernel
theorem dX6_block_74 : decode cX6_block 74 = .ok (.goto 4, 3) := by decide +kernel
theorem dX6_block_77 : decode cX6_block 77 = .ok (.iconst 0, 1) := by decide +kernel
theorem dX6_block_78 : decode cX6_block 78 = .ok (.iastore, 1) := by decide +kernel
theorem dX6_block_79 : decode cX6_block 79 = .ok (.aload_n 0, 1) := by decide +kernel
theorem dX6_block_80 : decode cX6_block 80 = .ok (.getfield 7, 3) := by decide +kernel
theorem dX6_block_83 : decode cX6_block 83 = .ok (.bipush 88, 2) := by decide +kernel
theorem dX6_block_85 : decode cX6_block 85 = .ok (.iload_n 1, 1) := by decide +kernel
theorem dX6_block_86 : decode cX6_block 86 = .ok (.iadd, 1) := by decide +kernel
theorem dX6_block_87 : decode cX6_block 87 = .ok (.iload_n 2, 1) := by decide +kernel
theorem dX6_block_88 : decode cX6_block 88 = .ok (.iconst 1, 1) := by decide +kernel
theorem dX6_block_89 : decode cX6_block 89 = .ok (.if_icmp .ne 8, 3) := by decide +kernel
theorem dX6_block_92 : decode cX6_block 92 = .ok (.bipush 20, 2) := by decide +kernel
theorem dX6_block_94 : decode cX6_block 94 = .ok (.goto 4, 3) := by decide +kernel
theorem dX6_block_97 : decode cX6_block 97 = .ok (.iconst 0, 1) := by decide +kernel
theorem dX6_block_98 : decode cX6_block 98 = .ok (.iastore, 1) := by decide +kernel
theorem dX6_block_99 : decode cX6_block 99 = .ok (.aload_n 0, 1) := by decide +kernel
theorem dX6_block_100 : decode cX6_block 100 = .ok (.aload_n 0, 1) := by decide +kernel
theorem dX6_block_101 : decode cX6_block 101 = .ok (.invokevirtual 72, 3) := by decide +kernel
theorem dX6_block_104 : decode cX6_block 104 = .ok (.invokevirtual 65, 3) := by decide +kernel
theorem dX6_block_107 : decode cX6_block 107 = .ok (.ireturn, 1) := by decide +kernel
abbrev rmX6_block : Room := { frames := 1, cells := 0, slots := 0, locals := 22 }
set_option maxRecDepth 20000 in
theorem in_X6_block_X6 : ∀ w ∈ wsX60, w ∈ wsX6_block := by decide +kernel

set_option maxRecDepth 100000 in
set_option maxHeartbeats 4000000 in
theorem c_X6_block {l : Launch} {g : Geo} {M : Nat → Nat → Int32} {P : Nat → Nat} {N K B : Nat} (hI : InvX eM (M 159) N K B) {many at_ : Nat} (hm : M 158 5 = nI many) (hm4 : many ≤ 4) (hat : M 158 6 = nI at_) (hat4 : at_ < 4) {p t : Int32} : Met l yX6_block wsX6_block rmX6_block (cPre g [.ref (g.1 158), .int p, .int t] M P) (cQi g (fun r M' P' => P = P' ∧ FrM M M' ∧ KpM many at_ (M 159) M r M' ∧ blkQ eM (M 159) p t r (M' 159))) 0 0 (gA g) := by
  refine met_i (cc := cX6_block) (maxL := 3) (by decide) rfl ⟨rfl, rfl⟩ (Nat.le_of_ble_eq_true rfl) (fun x hx h hret => ?_)
  replace h : Cxk x g cX6_block 3 wsX6_block RX6 rmX6_block := h
  show X x 0 [(0, .ref (g.1 158)), (1, .int p), (2, .int t)] [] M P
  refine x_iload_n h 1 dX6_block_0 rfl rfl ?_
  refine x_iconst h (nI 0) dX6_block_1 (by decide) ?_
  refine x_bipush h (nI 80) dX6_block_2 (by decide) ?_
  refine x_callS h (As := [.int p, .int (nI 0), .int (nI 80)]) 3 hx (c_X6_in) gX6_block_X6_in rfl ⟨rfl, rfl⟩ (by decide +kernel) rfl (by decide) (Nat.le_of_ble_eq_true rfl) dX6_block_4 (fun rv M' P' hp => ?_)
  obtain ⟨⟨rfl, rfl⟩, hp⟩ := hp
  rcases hp with ⟨iy4, rfl⟩ | ⟨in4, rfl⟩
  · -- in
    obtain ⟨k4, hk4, rfl⟩ := (InR_in2 (N := 80) (by omega)).mp iy4
    refine x_if_eq h 19 dX6_block_7 (by decide) (fun c => absurd c (by decide)) (fun _ => ?_)
    refine x_iload_n h 2 dX6_block_10 rfl rfl ?_
    refine x_iconst h (nI 0) dX6_block_11 (by decide) ?_
    refine x_iconst h (nI 1) dX6_block_12 (by decide) ?_
    refine x_callS h (As := [.int t, .int (nI 0), .int (nI 1)]) 3 hx (c_X6_in) gX6_block_X6_in rfl ⟨rfl, rfl⟩ (by decide +kernel) rfl (by decide) (Nat.le_of_ble_eq_true rfl) dX6_block_13 (fun rv M' P' hp => ?_)
    obtain ⟨⟨rfl, rfl⟩, hp⟩ := hp
    rcases hp with ⟨iy13, rfl⟩ | ⟨in13, rfl⟩
    · -- in
      obtain ⟨k13, hk13, rfl⟩ := (InR_in2 (N := 1) (by omega)).mp iy13
      refine x_if_ne h 22 dX6_block_16 (by decide) (fun _ => ?_) (fun c => absurd c (by decide))
      refine x_iload_n h 2 dX6_block_22 rfl rfl ?_
      refine x_iconst h (nI 1) dX6_block_23 (by decide) ?_
      refine x_icmp_ne_n h 38 dX6_block_24 (by decide) (by omega) (by decide) (fun c_24 => ?_) (fun c_24 => ?_)
      · -- 24 true
        obtain rfl : k13 = 0 := by omega
        refine x_aload_n h 0 dX6_block_38 rfl rfl ?_
        refine xg_X6_0 h in_X6_block_X6 (by decide +kernel) dX6_block_39 ?_
        refine x_bipush h (nI 7) dX6_block_42 (by decide) ?_
        refine x_iload_n h 1 dX6_block_44 rfl rfl ?_
        refine x_iadd_n h dX6_block_45 ?_
        refine xl_159 h dX6_block_46 (by omega) ?_
        refine x_bipush h (nI 20) dX6_block_47 (by decide) ?_
        refine x_icmp_eq h 55 dX6_block_49 (by decide) (fun c_49 => ?_) (fun c_49 => ?_)
        · -- 49 true
          refine x_aload_n h 0 dX6_block_55 rfl rfl ?_
          refine x_callVv h (As := []) 0 hx (c_X6_copy) gX6_block_X6_copy rfl ⟨rfl, rfl⟩ (by decide +kernel) rfl (by decide) (by decide) E_158 rfl rfl (Nat.le_of_ble_eq_true rfl) dX6_block_56 (fun Mc P' hp => ?_)
          obtain ⟨rfl, hMc⟩ := hp
          have hC : Ch M Mc := by rw [hMc]; exact Ch_copy M
          have hc9 : Mc 159 = M 159 := by rw [hMc, va_up_n _ _ (by decide)]
          refine x_aload_n h 0 dX6_block_59 rfl rfl ?_
          refine xg_X6_0 h in_X6_block_X6 (by decide +kernel) dX6_block_60 ?_
          refine x_bipush h (nI 7) dX6_block_63 (by decide) ?_
          refine x_iload_n h 1 dX6_block_65 rfl rfl ?_
          refine x_iadd_n h dX6_block_66 ?_
          refine x_iload_n h 2 dX6_block_67 rfl rfl ?_
          refine x_iconst h (nI 1) dX6_block_68 (by decide) ?_
          refine x_icmp_ne h 77 dX6_block_69 (by decide) (fun _ => ?_) (fun c => absurd c (by decide))
          refine x_iconst h (nI 0) dX6_block_77 (by decide) ?_
          refine xs_159 h dX6_block_78 (by omega) ?_
          refine x_aload_n h 0 dX6_block_79 rfl rfl ?_
          refine xg_X6_0 h in_X6_block_X6 (by decide +kernel) dX6_block_80 ?_
          refine x_bipush h (nI 88) dX6_block_83 (by decide) ?_
          refine x_iload_n h 1 dX6_block_85 rfl rfl ?_
          refine x_iadd_n h dX6_block_86 ?_
          refine x_iload_n h 2 dX6_block_87 rfl rfl ?_
          refine x_iconst h (nI 1) dX6_block_88 (by decide) ?_
          refine x_icmp_ne h 97 dX6_block_89 (by decide) (fun _ => ?_) (fun c => absurd c (by decide))
          refine x_iconst h (nI 0) dX6_block_97 (by decide) ?_
          refine xs_159 h dX6_block_98 (by omega) ?_
          obtain ⟨W1, hW1⟩ : ∃ q : Nat → Nat → Int32, q = st2 (st2 Mc 159 (7 + k4) (nI 0)) 159 (88 + k4) (nI 0) := ⟨_, rfl⟩
          refine x_mem W1 hW1.symm ?_
          have hCh : Ch M W1 := by rw [hW1]; (repeat apply Ch_s); exact hC
          have hS1 : W1 159 = upd (upd (M 159) (7 + k4) (nI 0)) (7 + (k4 + 81)) (nI 0) := by rw [hW1, show 88 + k4 = 7 + (k4 + 81) by omega]; simp only [st2_k, hc9]
          refine x_aload_n h 0 dX6_block_99 rfl rfl ?_
          refine x_aload_n h 0 dX6_block_100 rfl rfl ?_
          refine x_callV h (As := []) 0 hx (c_X6_blockedMany) gX6_block_X6_blockedMany rfl ⟨rfl, rfl⟩ (by decide +kernel) rfl (by decide) (by decide) E_158 rfl rfl (Nat.le_of_ble_eq_true rfl) dX6_block_101 (fun rv M' P' hp => ?_)
          obtain ⟨⟨rfl, rfl⟩, rfl⟩ := hp
          refine x_top (nI (wir (W1 159) (nI 20) / 2)) (by rw [blk_half (by rw [hS1]; exact BlkV_upd (by omega) hI.2.2.1)]) ?_
          refine x_callV h (As := [.int (nI (wir (W1 159) (nI 20) / 2))]) 1 hx (c_X6_recorded ((hCh.2.2 5 (by decide)).trans hm) hm4 ((hCh.2.2 6 (by decide)).trans hat) hat4) gX6_block_X6_recorded rfl ⟨rfl, rfl⟩ (by decide +kernel) rfl (by decide) (by decide) E_158 rfl rfl (Nat.le_of_ble_eq_true rfl) dX6_block_104 (fun rv Mr P' hp => ?_)
          obtain ⟨rfl, rfl, hrec⟩ := hp
          obtain ⟨f1, f2, f3⟩ := rec_mk hCh hm hat hrec
          exact hret _ _ _ _ _ dX6_block_107 (by exact ⟨rfl, f1, f2, Or.inr ⟨k4, _, by omega, by omega, rfl, rfl, Or.inr ⟨(by first | exact f29.1 | exact c_49), (by first | exact f29.2 | exact (hI.2.2.1 k4 (by omega)).mp c_49), f3.trans hS1, by rw [f3]⟩⟩⟩)
        · -- 49 false
          refine x_ldc h ((-1000002)) (by decide +kernel) dX6_block_52 ?_
          exact hret _ _ _ _ _ dX6_block_54 (by exact ⟨rfl, FrM_rf M, Or.inl ⟨by decide, rfl, hm, hat⟩, Or.inr ⟨k4, _, by omega, by omega, rfl, rfl, Or.inl ⟨fun q => (by first | exact nf29 q | exact c_49 q.1), rfl, rfl⟩⟩⟩)
      · -- 24 false
        subst c_24
        refine x_aload_n h 0 dX6_block_27 rfl rfl ?_
        refine x_iload_n h 1 dX6_block_28 rfl rfl ?_
        refine x_callV h (As := [.int (nI k4)]) 1 hx (c_X6_isFree (by omega)) gX6_block_X6_isFree rfl ⟨rfl, rfl⟩ (by decide +kernel) rfl (by decide) (by decide) E_158 rfl rfl (Nat.le_of_ble_eq_true rfl) dX6_block_29 (fun rv M' P' hp => ?_)
        obtain ⟨⟨rfl, rfl⟩, hp⟩ := hp
        rcases hp with ⟨f29, rfl⟩ | ⟨nf29, rfl⟩
        · -- call 29
          refine x_if_ne h 55 dX6_block_32 (by decide) (fun _ => ?_) (fun c => absurd c (by decide))
          refine x_aload_n h 0 dX6_block_55 rfl rfl ?_
          refine x_callVv h (As := []) 0 hx (c_X6_copy) gX6_block_X6_copy rfl ⟨rfl, rfl⟩ (by decide +kernel) rfl (by decide) (by decide) E_158 rfl rfl (Nat.le_of_ble_eq_true rfl) dX6_block_56 (fun Mc P' hp => ?_)
          obtain ⟨rfl, hMc⟩ := hp
          have hC : Ch M Mc := by rw [hMc]; exact Ch_copy M
          have hc9 : Mc 159 = M 159 := by rw [hMc, va_up_n _ _ (by decide)]
          refine x_aload_n h 0 dX6_block_59 rfl rfl ?_
          refine xg_X6_0 h in_X6_block_X6 (by decide +kernel) dX6_block_60 ?_
          refine x_bipush h (nI 7) dX6_block_63 (by decide) ?_
          refine x_iload_n h 1 dX6_block_65 rfl rfl ?_
          refine x_iadd_n h dX6_block_66 ?_
          refine x_iload_n h 2 dX6_block_67 rfl rfl ?_
          refine x_iconst h (nI 1) dX6_block_68 (by decide) ?_
          refine x_icmp_ne h 77 dX6_block_69 (by decide) (fun c => absurd c (by decide)) (fun _ => ?_)
          refine x_bipush h (nI 20) dX6_block_72 (by decide) ?_
          refine x_goto h 78 dX6_block_74 (by decide) ?_
          refine xs_159 h dX6_block_78 (by omega) ?_
          refine x_aload_n h 0 dX6_block_79 rfl rfl ?_
          refine xg_X6_0 h in_X6_block_X6 (by decide +kernel) dX6_block_80 ?_
          refine x_bipush h (nI 88) dX6_block_83 (by decide) ?_
          refine x_iload_n h 1 dX6_block_85 rfl rfl ?_
          refine x_iadd_n h dX6_block_86 ?_
          refine x_iload_n h 2 dX6_block_87 rfl rfl ?_
          refine x_iconst h (nI 1) dX6_block_88 (by decide) ?_
          refine x_icmp_ne h 97 dX6_block_89 (by decide) (fun c => absurd c (by decide)) (fun _ => ?_)
          refine x_bipush h (nI 20) dX6_block_92 (by decide) ?_
          refine x_goto h 98 dX6_block_94 (by decide) ?_
          refine xs_159 h dX6_block_98 (by omega) ?_
          obtain ⟨W1, hW1⟩ : ∃ q : Nat → Nat → Int32, q = st2 (st2 Mc 159 (7 + k4) (nI 20)) 159 (88 + k4) (nI 20) := ⟨_, rfl⟩
          refine x_mem W1 hW1.symm ?_
          have hCh : Ch M W1 := by rw [hW1]; (repeat apply Ch_s); exact hC
          have hS1 : W1 159 = upd (upd (M 159) (7 + k4) (nI 20)) (7 + (k4 + 81)) (nI 20) := by rw [hW1, show 88 + k4 = 7 + (k4 + 81) by omega]; simp only [st2_k, hc9]
          refine x_aload_n h 0 dX6_block_99 rfl rfl ?_
          refine x_aload_n h 0 dX6_block_100 rfl rfl ?_
          refine x_callV h (As := []) 0 hx (c_X6_blockedMany) gX6_block_X6_blockedMany rfl ⟨rfl, rfl⟩ (by decide +kernel) rfl (by decide) (by decide) E_158 rfl rfl (Nat.le_of_ble_eq_true rfl) dX6_block_101 (fun rv M' P' hp => ?_)
          obtain ⟨⟨rfl, rfl⟩, rfl⟩ := hp
          refine x_top (nI (wir (W1 159) (nI 20) / 2)) (by rw [blk_half (by rw [hS1]; exact BlkV_upd (by omega) hI.2.2.1)]) ?_
          refine x_callV h (As := [.int (nI (wir (W1 159) (nI 20) / 2))]) 1 hx (c_X6_recorded ((hCh.2.2 5 (by decide)).trans hm) hm4 ((hCh.2.2 6 (by decide)).trans hat) hat4) gX6_block_X6_recorded rfl ⟨rfl, rfl⟩ (by decide +kernel) rfl (by decide) (by decide) E_158 rfl rfl (Nat.le_of_ble_eq_true rfl) dX6_block_104 (fun rv Mr P' hp => ?_)
          obtain ⟨rfl, rfl, hrec⟩ := hp
          obtain ⟨f1, f2, f3⟩ := rec_mk hCh hm hat hrec
          exact hret _ _ _ _ _ dX6_block_107 (by exact ⟨rfl, f1, f2, Or.inr ⟨k4, _, by omega, by omega, rfl, rfl, Or.inr ⟨(by first | exact f29.1 | exact c_49), (by first | exact f29.2 | exact (hI.2.2.1 k4 (by omega)).mp c_49), f3.trans hS1, by rw [f3]⟩⟩⟩)
        · -- call 29
          refine x_if_ne h 55 dX6_block_32 (by decide) (fun c => absurd c (by decide)) (fun _ => ?_)
          refine x_goto h 52 dX6_block_35 (by decide) ?_
          refine x_ldc h ((-1000002)) (by decide +kernel) dX6_block_52 ?_
          exact hret _ _ _ _ _ dX6_block_54 (by exact ⟨rfl, FrM_rf M, Or.inl ⟨by decide, rfl, hm, hat⟩, Or.inr ⟨k4, _, by omega, by omega, rfl, rfl, Or.inl ⟨fun q => (by first | exact nf29 q | exact c_49 q.1), rfl, rfl⟩⟩⟩)
    · -- out
      have nk13 := fun q => in13 ((InR_in2 (N := 1) (by omega)).mpr q)
      refine x_if_ne h 22 dX6_block_16 (by decide) (fun c => absurd c (by decide)) (fun _ => ?_)
      refine x_ldc h ((-1000001)) (by decide +kernel) dX6_block_19 ?_
      exact hret _ _ _ _ _ dX6_block_21 (by exact ⟨rfl, FrM_rf M, Or.inl ⟨by decide, rfl, hm, hat⟩, Or.inl ⟨fun q => (by first | exact nk4 q.1 | exact nk13 q.2), rfl, rfl⟩⟩)
  · -- out
    have nk4 := fun q => in4 ((InR_in2 (N := 80) (by omega)).mpr q)
    refine x_if_eq h 19 dX6_block_7 (by decide) (fun _ => ?_) (fun c => absurd (by decide) c)
    refine x_ldc h ((-1000001)) (by decide +kernel) dX6_block_19 ?_
    exact hret _ _ _ _ _ dX6_block_21 (by exact ⟨rfl, FrM_rf M, Or.inl ⟨by decide, rfl, hm, hat⟩, Or.inl ⟨fun q => (by first | exact nk4 q.1 | exact nk13 q.2), rfl, rfl⟩⟩)

set_option maxRecDepth 20000 in
theorem ggX6_give_X6_isNet : GoodIn wsX6_give wsX6_isNet := goodIn_r _ [8, 9, 10, 11, 7, 12, 33, 34, 35, 36, 37, 38, 39, 40, 41, 42, 43, 44, 45, 46, 47, 48, 49, 50, 51] (by decide +kernel) (by decide +kernel)
set_option maxRecDepth 20000 in
theorem gX6_give_X6_isNet : GoodIn wsX6_give (wsV RX6 77 RX6 yX6_isNet wsX6_isNet) := goodIn_app (goodIn_of _ (by decide +kernel)) ggX6_give_X6_isNet
set_option maxRecDepth 20000 in
theorem ggX6_give_X6_in : GoodIn wsX6_give wsX6_in := goodIn_r _ [12] (by decide +kernel) (by decide +kernel)
set_option maxRecDepth 20000 in
theorem gX6_give_X6_in : GoodIn wsX6_give (va_wsS RX6 38 yX6_in wsX6_in) := goodIn_app (goodIn_of _ (by decide +kernel)) ggX6_give_X6_in
set_option maxRecDepth 20000 in
theorem ggX6_give_X6_of : GoodIn wsX6_give wsX6_of := goodIn_r _ [16, 9, 33, 34, 35, 36, 37, 38, 39, 40, 41, 42, 43, 44, 45, 46, 47, 48, 49, 50, 51] (by decide +kernel) (by decide +kernel)
set_option maxRecDepth 20000 in
theorem gX6_give_X6_of : GoodIn wsX6_give (wsV RX6 42 RX6 yX6_of wsX6_of) := goodIn_app (goodIn_of _ (by decide +kernel)) ggX6_give_X6_of
set_option maxRecDepth 20000 in
theorem ggX6_give_X6_copy : GoodIn wsX6_give wsX6_copy := goodIn_r _ [20, 21, 9, 33, 34, 35, 36, 37, 38, 39, 40, 41, 42, 43, 44, 45, 46, 47, 48, 49, 50, 51] (by decide +kernel) (by decide +kernel)
set_option maxRecDepth 20000 in
theorem gX6_give_X6_copy : GoodIn wsX6_give (wsV RX6 62 RX6 yX6_copy wsX6_copy) := goodIn_app (goodIn_of _ (by decide +kernel)) ggX6_give_X6_copy
set_option maxRecDepth 20000 in
theorem ggX6_give_X6_adds : GoodIn wsX6_give wsX6_adds := goodIn_r _ [25, 9, 33, 34, 35, 36, 37, 38, 39, 40, 41, 42, 43, 44, 45, 46, 47, 48, 49, 50, 51] (by decide +kernel) (by decide +kernel)
set_option maxRecDepth 20000 in
theorem gX6_give_X6_adds : GoodIn wsX6_give (wsV RX6 81 RX6 yX6_adds wsX6_adds) := goodIn_app (goodIn_of _ (by decide +kernel)) ggX6_give_X6_adds
set_option maxRecDepth 20000 in
theorem ggX6_give_X6_recorded : GoodIn wsX6_give wsX6_recorded := goodIn_r _ [29, 30, 31, 21, 32, 33, 34, 35, 36, 37, 38, 39, 40, 41, 42, 43, 44, 45, 46, 47, 48, 49, 50, 51] (by decide +kernel) (by decide +kernel)
set_option maxRecDepth 20000 in
theorem gX6_give_X6_recorded : GoodIn wsX6_give (wsV RX6 65 RX6 yX6_recorded wsX6_recorded) := goodIn_app (goodIn_of _ (by decide +kernel)) ggX6_give_X6_recorded
theorem dX6_give_0 : decode cX6_give 0 = .ok (.aload_n 0, 1) := by decide +kernel
theorem dX6_give_1 : decode cX6_give 1 = .ok (.iload_n 1, 1) := by decide +kernel
theorem dX6_give_2 : decode cX6_give 2 = .ok (.invokevirtual 77, 3) := by decide +kernel
theorem dX6_give_5 : decode cX6_give 5 = .ok (.ifCond .eq 14, 3) := by decide +kernel
theorem dX6_give_8 : decode cX6_give 8 = .ok (.iload_n 2, 1) := by decide +kernel
theorem dX6_give_9 : decode cX6_give 9 = .ok (.iconst 1, 1) := by decide +kernel
theorem dX6_give_10 : decode cX6_give 10 = .ok (.sipush 9999, 3) := by decide +kernel
theorem dX6_give_13 : decode cX6_give 13 = .ok (.invokestatic 38, 3) := by decide +kernel
theorem dX6_give_16 : decode cX6_give 16 = .ok (.ifCond .ne 6, 3) := by decide +kernel
theorem dX6_give_19 : decode cX6_give 19 = .ok (.ldc 61, 2) := by decide +kernel
theorem dX6_give_21 : decode cX6_give 21 = .ok (.ireturn, 1) := by decide +kernel
theorem dX6_give_22 : decode cX6_give 22 = .ok (.aload_n 0, 1) := by decide +kernel
theorem dX6_give_23 : decode cX6_give 23 = .ok (.iload_n 1, 1) := by decide +kernel
theorem dX6_give_24 : decode cX6_give 24 = .ok (.iconst 4, 1) := by decide +kernel
theorem dX6_give_25 : decode cX6_give 25 = .ok (.invokevirtual 42, 3) := by decide +kernel
theorem dX6_give_28 : decode cX6_give 28 = .ok (.iload_n 2, 1) := by decide +kernel
theorem dX6_give_29 : decode cX6_give 29 = .ok (.iadd, 1) := by decide +kernel
theorem dX6_give_30 : decode cX6_give 30 = .ok (.ldc 80, 2) := by decide +kernel
theorem dX6_give_32 : decode cX6_give 32 = .ok (.if_icmp .le 6, 3) := by decide +kernel
theorem dX6_give_35 : decode cX6_give 35 = .ok (.ldc 76, 2) := by decide +kernel
theorem dX6_give_37 : decode cX6_give 37 = .ok (.ireturn, 1) := by decide +kernel
theorem dX6_give_38 : decode cX6_give 38 = .ok (.aload_n 0, 1) := by decide +kernel
theorem dX6_give_39 : decode cX6_give 39 = .ok (.invokevirtual 62, 3) := by decide +kernel
theorem dX6_give_42 : decode cX6_give 42 = .ok (.aload_n 0, 1) := by decide +kernel
theorem dX6_give_43 : decode cX6_give 43 = .ok (.iload_n 1, 1) := by decide +kernel
theorem dX6_give_44 : decode cX6_give 44 = .ok (.iconst 4, 1) := by decide +kernel
theorem dX6_give_45 : decode cX6_give 45 = .ok (.iload_n 2, 1) := by decide +kernel
theorem dX6_give_46 : decode cX6_give 46 = .ok (.invokevirtual 81, 3) := by decide +kernel
theorem dX6_give_49 : decode cX6_give 49 = .ok (.aload_n 0, 1) := by decide +kernel
theorem dX6_give_50 : decode cX6_give 50 = .ok (.aload_n 0, 1) := by decide +kernel
theorem dX6_give_51 : decode cX6_give 51 = .ok (.iload_n 1, 1) := by decide +kernel
theorem dX6_give_52 : decode cX6_give 52 = .ok (.iconst 4, 1) := by decide +kernel
theorem dX6_give_53 : decode cX6_give 53 = .ok (.invokevirtual 42, 3) := by decide +kernel
theorem dX6_give_56 : decode cX6_give 56 = .ok (.invokevirtual 65, 3) := by decide +kernel
theorem dX6_give_59 : decode cX6_give 59 = .ok (.ireturn, 1) := by decide +kernel
abbrev rmX6_give : Room := { frames := 2, cells := 0, slots := 0, locals := 43 }

set_option maxRecDepth 100000 in
set_option maxHeartbeats 4000000 in
theorem c_X6_give {l : Launch} {g : Geo} {M : Nat → Nat → Int32} {P : Nat → Nat} {N K B : Nat} (hI : InvX eM (M 159) N K B) {many at_ : Nat} (hm : M 158 5 = nI many) (hm4 : many ≤ 4) (hat : M 158 6 = nI at_) (hat4 : at_ < 4) {n a : Int32} : Met l yX6_give wsX6_give rmX6_give (cPre g [.ref (g.1 158), .int n, .int a] M P) (cQi g (fun r M' P' => P = P' ∧ FrM M M' ∧ KpM many at_ (M 159) M r M' ∧ giveQ (M 159) N n a r (M' 159))) 0 0 (gA g) := by
  refine met_i (cc := cX6_give) (maxL := 3) (by decide) rfl ⟨rfl, rfl⟩ (Nat.le_of_ble_eq_true rfl) (fun x hx h hret => ?_)
  replace h : Cxk x g cX6_give 3 wsX6_give RX6 rmX6_give := h
  show X x 0 [(0, .ref (g.1 158)), (1, .int n), (2, .int a)] [] M P
  have hN := hI.1.1
  have hN6 := hI.1.2.1
  have hK := hI.1.2.2.1
  have hK12 := hI.1.2.2.2.1
  refine x_aload_n h 0 dX6_give_0 rfl rfl ?_
  refine x_iload_n h 1 dX6_give_1 rfl rfl ?_
  refine x_callV h (As := [.int n]) 1 hx (c_X6_isNet hI) gX6_give_X6_isNet rfl ⟨rfl, rfl⟩ (by decide +kernel) rfl (by decide) (by decide) E_158 rfl rfl (Nat.le_of_ble_eq_true rfl) dX6_give_2 (fun rv M' P' hp => ?_)
  obtain ⟨⟨rfl, rfl⟩, hp⟩ := hp
  rcases hp with ⟨⟨k2, hk2, rfl⟩, rfl⟩ | ⟨nk2, rfl⟩
  · -- call 2
    refine x_if_eq h 19 dX6_give_5 (by decide) (fun c => absurd c (by decide)) (fun _ => ?_)
    refine x_iload_n h 2 dX6_give_8 rfl rfl ?_
    refine x_iconst h (nI 1) dX6_give_9 (by decide) ?_
    refine x_sipush h (nI 9999) dX6_give_10 (by decide) ?_
    refine x_callS h (As := [.int a, .int (nI 1), .int (nI 9999)]) 3 hx (c_X6_in) gX6_give_X6_in rfl ⟨rfl, rfl⟩ (by decide +kernel) rfl (by decide) (Nat.le_of_ble_eq_true rfl) dX6_give_13 (fun rv M' P' hp => ?_)
    obtain ⟨⟨rfl, rfl⟩, hp⟩ := hp
    rcases hp with ⟨i13, rfl⟩ | ⟨ni13, rfl⟩
    · -- call 13
      refine x_if_ne h 22 dX6_give_16 (by decide) (fun _ => ?_) (fun c => absurd c (by decide))
      refine x_aload_n h 0 dX6_give_22 rfl rfl ?_
      refine x_iload_n h 1 dX6_give_23 rfl rfl ?_
      refine x_iconst h (nI 4) dX6_give_24 (by decide) ?_
      refine x_callV h (As := [.int (nI k2), .int (nI 4)]) 2 hx (c_X6_of (by omega) (by decide)) gX6_give_X6_of rfl ⟨rfl, rfl⟩ (by decide +kernel) rfl (by decide) (by decide) E_158 rfl rfl (Nat.le_of_ble_eq_true rfl) dX6_give_25 (fun rv M' P' hp => ?_)
      obtain ⟨⟨rfl, rfl⟩, rfl⟩ := hp
      refine x_iload_n h 2 dX6_give_28 rfl rfl ?_
      refine x_iadd h dX6_give_29 ?_
      refine x_ldc h (nI 100000) (by decide +kernel) dX6_give_30 ?_
      refine x_icmp_le h 38 dX6_give_32 (by decide) (fun c_32 => ?_) (fun c_32 => ?_)
      · -- 32 true
        refine x_aload_n h 0 dX6_give_38 rfl rfl ?_
        refine x_callVv h (As := []) 0 hx (c_X6_copy) gX6_give_X6_copy rfl ⟨rfl, rfl⟩ (by decide +kernel) rfl (by decide) (by decide) E_158 rfl rfl (Nat.le_of_ble_eq_true rfl) dX6_give_39 (fun Mc P' hp => ?_)
        obtain ⟨rfl, hMc⟩ := hp
        have hC : Ch M Mc := by rw [hMc]; exact Ch_copy M
        have hc9 : Mc 159 = M 159 := by rw [hMc, va_up_n _ _ (by decide)]
        refine x_aload_n h 0 dX6_give_42 rfl rfl ?_
        refine x_iload_n h 1 dX6_give_43 rfl rfl ?_
        refine x_iconst h (nI 4) dX6_give_44 (by decide) ?_
        refine x_iload_n h 2 dX6_give_45 rfl rfl ?_
        refine x_callVv h (As := [.int (nI k2), .int (nI 4), .int a]) 3 hx (c_X6_adds (by omega) (by decide)) gX6_give_X6_adds rfl ⟨rfl, rfl⟩ (by decide +kernel) rfl (by decide) (by decide) E_158 rfl rfl (Nat.le_of_ble_eq_true rfl) dX6_give_46 (fun M46 P' hp => ?_)
        obtain ⟨rfl, hM46⟩ := hp
        refine x_aload_n h 0 dX6_give_49 rfl rfl ?_
        refine x_aload_n h 0 dX6_give_50 rfl rfl ?_
        refine x_iload_n h 1 dX6_give_51 rfl rfl ?_
        refine x_iconst h (nI 4) dX6_give_52 (by decide) ?_
        refine x_callV h (As := [.int (nI k2), .int (nI 4)]) 2 hx (c_X6_of (by omega) (by decide)) gX6_give_X6_of rfl ⟨rfl, rfl⟩ (by decide +kernel) rfl (by decide) (by decide) E_158 rfl rfl (Nat.le_of_ble_eq_true rfl) dX6_give_53 (fun rv M' P' hp => ?_)
        obtain ⟨⟨rfl, rfl⟩, rfl⟩ := hp
        obtain ⟨W1, hW1⟩ : ∃ q : Nat → Nat → Int32, q = M46 := ⟨_, rfl⟩
        refine x_mem W1 hW1.symm ?_
        have hCh : Ch M W1 := by rw [hW1, hM46]; (repeat (first | apply Ch_s | apply Ch_v)); exact hC
        refine x_callV h (As := [.int (M46 159 (169 + 9 * k2 + 4))]) 1 hx (c_X6_recorded ((hCh.2.2 5 (by decide)).trans hm) hm4 ((hCh.2.2 6 (by decide)).trans hat) hat4) gX6_give_X6_recorded rfl ⟨rfl, rfl⟩ (by decide +kernel) rfl (by decide) (by decide) E_158 rfl rfl (Nat.le_of_ble_eq_true rfl) dX6_give_56 (fun rv Mr P' hp => ?_)
        obtain ⟨rfl, rfl, hrec⟩ := hp
        obtain ⟨f1, f2, f3⟩ := rec_mk hCh hm hat hrec
        exact hret _ _ _ _ _ dX6_give_59 (by 
                      refine ⟨rfl, f1, f2, Or.inr ⟨k2, hk2, rfl, i13.1, i13.2, Or.inr ⟨c_32, ?_, ?_⟩⟩⟩
                      · rw [hM46, va_up_k, pk_us, hc9]
                      · rw [f3, hW1, hM46, va_up_k, hc9])
      · -- 32 false
        refine x_ldc h ((-1000003)) (by decide +kernel) dX6_give_35 ?_
        exact hret _ _ _ _ _ dX6_give_37 (by exact ⟨rfl, FrM_rf M, Or.inl ⟨by decide, rfl, hm, hat⟩, Or.inr ⟨k2, hk2, rfl, i13.1, i13.2, Or.inl ⟨Int32.not_le.mp c_32, rfl, rfl⟩⟩⟩)
    · -- call 13
      refine x_if_ne h 22 dX6_give_16 (by decide) (fun c => absurd c (by decide)) (fun _ => ?_)
      refine x_ldc h ((-1000001)) (by decide +kernel) dX6_give_19 ?_
      exact hret _ _ _ _ _ dX6_give_21 (by exact ⟨rfl, FrM_rf M, Or.inl ⟨by decide, rfl, hm, hat⟩, Or.inl ⟨fun q => (by first | exact nk2 q.1 | exact ni13 q.2), rfl, rfl⟩⟩)
  · -- call 2
    refine x_if_eq h 19 dX6_give_5 (by decide) (fun _ => ?_) (fun c => absurd (by decide) c)
    refine x_ldc h ((-1000001)) (by decide +kernel) dX6_give_19 ?_
    exact hret _ _ _ _ _ dX6_give_21 (by exact ⟨rfl, FrM_rf M, Or.inl ⟨by decide, rfl, hm, hat⟩, Or.inl ⟨fun q => (by first | exact nk2 q.1 | exact ni13 q.2), rfl, rfl⟩⟩)

set_option maxRecDepth 20000 in
theorem ggX6_passes_X6_in : GoodIn wsX6_passes wsX6_in := goodIn_r _ [8] (by decide +kernel) (by decide +kernel)
set_option maxRecDepth 20000 in
theorem gX6_passes_X6_in : GoodIn wsX6_passes (va_wsS RX6 38 yX6_in wsX6_in) := goodIn_app (goodIn_of _ (by decide +kernel)) ggX6_passes_X6_in
theorem dX6_passes_0 : decode cX6_passes 0 = .ok (.iload_n 1, 1) := by decide +kernel
theorem dX6_passes_1 : decode cX6_passes 1 = .ok (.iconst 1, 1) := by decide +kernel
theorem dX6_passes_2 : decode cX6_passes 2 = .ok (.bipush 50, 2) := by decide +kernel
theorem dX6_passes_4 : decode cX6_passes 4 = .ok (.invokestatic 38, 3) := by decide +kernel
theorem dX6_passes_7 : decode cX6_passes 7 = .ok (.ifCond .ne 6, 3) := by decide +kernel
theorem dX6_passes_10 : decode cX6_passes 10 = .ok (.ldc 61, 2) := by decide +kernel
theorem dX6_passes_12 : decode cX6_passes 12 = .ok (.ireturn, 1) := by decide +kernel
theorem dX6_passes_13 : decode cX6_passes 13 = .ok (.aload_n 0, 1) := by decide +kernel
theorem dX6_passes_14 : decode cX6_passes 14 = .ok (.getfield 7, 3) := by decide +kernel
theorem dX6_passes_17 : decode cX6_passes 17 = .ok (.iconst 4, 1) := by decide +kernel
theorem dX6_passes_18 : decode cX6_passes 18 = .ok (.iaload, 1) := by decide +kernel
theorem dX6_passes_19 : decode cX6_passes 19 = .ok (.iload_n 1, 1) := by decide +kernel
theorem dX6_passes_20 : decode cX6_passes 20 = .ok (.iadd, 1) := by decide +kernel
theorem dX6_passes_21 : decode cX6_passes 21 = .ok (.ldc 80, 2) := by decide +kernel
theorem dX6_passes_23 : decode cX6_passes 23 = .ok (.if_icmp .le 6, 3) := by decide +kernel
theorem dX6_passes_26 : decode cX6_passes 26 = .ok (.ldc 76, 2) := by decide +kernel
theorem dX6_passes_28 : decode cX6_passes 28 = .ok (.ireturn, 1) := by decide +kernel
theorem dX6_passes_29 : decode cX6_passes 29 = .ok (.aload_n 0, 1) := by decide +kernel
theorem dX6_passes_30 : decode cX6_passes 30 = .ok (.getfield 7, 3) := by decide +kernel
theorem dX6_passes_33 : decode cX6_passes 33 = .ok (.iconst 4, 1) := by decide +kernel
theorem dX6_passes_34 : decode cX6_passes 34 = .ok (.dup2, 1) := by decide +kernel
theorem dX6_passes_35 : decode cX6_passes 35 = .ok (.iaload, 1) := by decide +kernel
theorem dX6_passes_36 : decode cX6_passes 36 = .ok (.iload_n 1, 1) := by decide +kernel
theorem dX6_passes_37 : decode cX6_passes 37 = .ok (.iadd, 1) := by decide +kernel
theorem dX6_passes_38 : decode cX6_passes 38 = .ok (.iastore, 1) := by decide +kernel
theorem dX6_passes_39 : decode cX6_passes 39 = .ok (.aload_n 0, 1) := by decide +kernel
theorem dX6_passes_40 : decode cX6_passes 40 = .ok (.getfield 7, 3) := by decide +kernel
theorem dX6_passes_43 : decode cX6_passes 43 = .ok (.iconst 4, 1) := by decide +kernel
theorem dX6_passes_44 : decode cX6_passes 44 = .ok (.iaload, 1) := by decide +kernel
theorem dX6_passes_45 : decode cX6_passes 45 = .ok (.ireturn, 1) := by decide +kernel
abbrev rmX6_passes : Room := { frames := 1, cells := 0, slots := 0, locals := 22 }
set_option maxRecDepth 20000 in
theorem in_X6_passes_X6 : ∀ w ∈ wsX60, w ∈ wsX6_passes := by decide +kernel

set_option maxRecDepth 100000 in
set_option maxHeartbeats 4000000 in
theorem c_X6_passes {l : Launch} {g : Geo} {M : Nat → Nat → Int32} {P : Nat → Nat} {a : Int32} : Met l yX6_passes wsX6_passes rmX6_passes (cPre g [.ref (g.1 158), .int a] M P) (cQi g (fun r M' P' => P = P' ∧ ∃ X', passQ (M 159) a r X' ∧ M' = va_up M 159 X')) 0 0 (gA g) := by
  refine met_i (cc := cX6_passes) (maxL := 2) (by decide) rfl ⟨rfl, rfl⟩ (Nat.le_of_ble_eq_true rfl) (fun x hx h hret => ?_)
  replace h : Cxk x g cX6_passes 2 wsX6_passes RX6 rmX6_passes := h
  show X x 0 [(0, .ref (g.1 158)), (1, .int a)] [] M P
  refine x_iload_n h 1 dX6_passes_0 rfl rfl ?_
  refine x_iconst h (nI 1) dX6_passes_1 (by decide) ?_
  refine x_bipush h (nI 50) dX6_passes_2 (by decide) ?_
  refine x_callS h (As := [.int a, .int (nI 1), .int (nI 50)]) 3 hx (c_X6_in) gX6_passes_X6_in rfl ⟨rfl, rfl⟩ (by decide +kernel) rfl (by decide) (Nat.le_of_ble_eq_true rfl) dX6_passes_4 (fun rv M' P' hp => ?_)
  obtain ⟨⟨rfl, rfl⟩, hp⟩ := hp
  rcases hp with ⟨i4, rfl⟩ | ⟨ni4, rfl⟩
  · -- call 4
    refine x_if_ne h 13 dX6_passes_7 (by decide) (fun _ => ?_) (fun c => absurd c (by decide))
    refine x_aload_n h 0 dX6_passes_13 rfl rfl ?_
    refine xg_X6_0 h in_X6_passes_X6 (by decide +kernel) dX6_passes_14 ?_
    refine x_iconst h (nI 4) dX6_passes_17 (by decide) ?_
    refine xl_159 h dX6_passes_18 (by decide) ?_
    refine x_iload_n h 1 dX6_passes_19 rfl rfl ?_
    refine x_iadd h dX6_passes_20 ?_
    refine x_ldc h (nI 100000) (by decide +kernel) dX6_passes_21 ?_
    refine x_icmp_le h 29 dX6_passes_23 (by decide) (fun c_23 => ?_) (fun c_23 => ?_)
    · -- 23 true
      refine x_aload_n h 0 dX6_passes_29 rfl rfl ?_
      refine xg_X6_0 h in_X6_passes_X6 (by decide +kernel) dX6_passes_30 ?_
      refine x_iconst h (nI 4) dX6_passes_33 (by decide) ?_
      refine x_dup2 h dX6_passes_34 rfl rfl ?_
      refine xl_159 h dX6_passes_35 (by decide) ?_
      refine x_iload_n h 1 dX6_passes_36 rfl rfl ?_
      refine x_iadd h dX6_passes_37 ?_
      refine xs_159 h dX6_passes_38 (by decide) ?_
      refine x_aload_n h 0 dX6_passes_39 rfl rfl ?_
      refine xg_X6_0 h in_X6_passes_X6 (by decide +kernel) dX6_passes_40 ?_
      refine x_iconst h (nI 4) dX6_passes_43 (by decide) ?_
      refine xl_159 h dX6_passes_44 (by decide) ?_
      exact hret _ _ _ _ _ dX6_passes_45 (by exact ⟨rfl, _, Or.inr ⟨i4.1, i4.2, Or.inr ⟨c_23, (by simp [st2, upd]), rfl⟩⟩, by simp only [st2_va, va_up_up, va_up_k]⟩)
    · -- 23 false
      refine x_ldc h ((-1000003)) (by decide +kernel) dX6_passes_26 ?_
      exact hret _ _ _ _ _ dX6_passes_28 (by exact ⟨rfl, _, Or.inr ⟨i4.1, i4.2, Or.inl ⟨Int32.not_le.mp c_23, rfl, rfl⟩⟩, (va_up_id _ _).symm⟩)
  · -- call 4
    refine x_if_ne h 13 dX6_passes_7 (by decide) (fun c => absurd c (by decide)) (fun _ => ?_)
    refine x_ldc h ((-1000001)) (by decide +kernel) dX6_passes_10 ?_
    exact hret _ _ _ _ _ dX6_passes_12 (by exact ⟨rfl, _, Or.inl ⟨ni4, rfl, rfl⟩, (va_up_id _ _).symm⟩)

theorem dX6_loses_0 : decode cX6_loses 0 = .ok (.iconst 0, 1) := by decide +kernel
theorem dX6_loses_1 : decode cX6_loses 1 = .ok (.istore_n 2, 1) := by decide +kernel
theorem dX6_loses_2 : decode cX6_loses 2 = .ok (.iload_n 2, 1) := by decide +kernel
theorem dX6_loses_3 : decode cX6_loses 3 = .ok (.sipush 162, 3) := by decide +kernel
theorem dX6_loses_6 : decode cX6_loses 6 = .ok (.if_icmp .ge 46, 3) := by decide +kernel
theorem dX6_loses_9 : decode cX6_loses 9 = .ok (.aload_n 0, 1) := by decide +kernel
theorem dX6_loses_10 : decode cX6_loses 10 = .ok (.getfield 7, 3) := by decide +kernel
theorem dX6_loses_13 : decode cX6_loses 13 = .ok (.bipush 7, 2) := by decide +kernel
theorem dX6_loses_15 : decode cX6_loses 15 = .ok (.iload_n 2, 1) := by decide +kernel
theorem dX6_loses_16 : decode cX6_loses 16 = .ok (.iadd, 1) := by decide +kernel
theorem dX6_loses_17 : decode cX6_loses 17 = .ok (.aload_n 0, 1) := by decide +kernel
theorem dX6_loses_18 : decode cX6_loses 18 = .ok (.getfield 7, 3) := by decide +kernel
theorem dX6_loses_21 : decode cX6_loses 21 = .ok (.bipush 7, 2) := by decide +kernel
theorem dX6_loses_23 : decode cX6_loses 23 = .ok (.iload_n 2, 1) := by decide +kernel
theorem dX6_loses_24 : decode cX6_loses 24 = .ok (.iadd, 1) := by decide +kernel
theorem dX6_loses_25 : decode cX6_loses 25 = .ok (.iaload, 1) := by decide +kernel
theorem dX6_loses_26 : decode cX6_loses 26 = .ok (.iconst 1, 1) := by decide +kernel
theorem dX6_loses_27 : decode cX6_loses 27 = .ok (.iload_n 1, 1) := by decide +kernel
theorem dX6_loses_28 : decode cX6_loses 28 = .ok (.iadd, 1) := by decide +kernel
theorem dX6_loses_29 : decode cX6_loses 29 = .ok (.if_icmp .ne 7, 3) := by decide +kernel
theorem dX6_loses_32 : decode cX6_loses 32 = .ok (.iconst 0, 1) := by decide +kernel
theorem dX6_loses_33 : decode cX6_loses 33 = .ok (.goto 12, 3) := by decide +kernel
theorem dX6_loses_36 : decode cX6_loses 36 = .ok (.aload_n 0, 1) := by decide +kernel
theorem dX6_loses_37 : decode cX6_loses 37 = .ok (.getfield 7, 3) := by decide +kernel
theorem dX6_loses_40 : decode cX6_loses 40 = .ok (.bipush 7, 2) := by decide +kernel
theorem dX6_loses_42 : decode cX6_loses 42 = .ok (.iload_n 2, 1) := by decide +kernel
theorem dX6_loses_43 : decode cX6_loses 43 = .ok (.iadd, 1) := by decide +kernel
theorem dX6_loses_44 : decode cX6_loses 44 = .ok (.iaload, 1) := by decide +kernel
theorem dX6_loses_45 : decode cX6_loses 45 = .ok (.iastore, 1) := by decide +kernel
theorem dX6_loses_46 : decode cX6_loses 46 = .ok (.iinc 2 1, 3) := by decide +kernel
theorem dX6_loses_49 : decode cX6_loses 49 = .ok (.goto (-47), 3) := by decide +kernel
theorem dX6_loses_52 : decode cX6_loses 52 = .ok (.aload_n 0, 1) := by decide +kernel
theorem dX6_loses_53 : decode cX6_loses 53 = .ok (.getfield 7, 3) := by decide +kernel
theorem dX6_loses_56 : decode cX6_loses 56 = .ok (.sipush 169, 3) := by decide +kernel
theorem dX6_loses_59 : decode cX6_loses 59 = .ok (.bipush 9, 2) := by decide +kernel
theorem dX6_loses_61 : decode cX6_loses 61 = .ok (.iload_n 1, 1) := by decide +kernel
theorem dX6_loses_62 : decode cX6_loses 62 = .ok (.imul, 1) := by decide +kernel
theorem dX6_loses_63 : decode cX6_loses 63 = .ok (.iadd, 1) := by decide +kernel
theorem dX6_loses_64 : decode cX6_loses 64 = .ok (.iconst 5, 1) := by decide +kernel
theorem dX6_loses_65 : decode cX6_loses 65 = .ok (.iadd, 1) := by decide +kernel
theorem dX6_loses_66 : decode cX6_loses 66 = .ok (.iconst 0, 1) := by decide +kernel
theorem dX6_loses_67 : decode cX6_loses 67 = .ok (.iastore, 1) := by decide +kernel
theorem dX6_loses_68 : decode cX6_loses 68 = .ok (.return_, 1) := by decide +kernel
abbrev rmX6_loses : Room := { frames := 0, cells := 0, slots := 0, locals := 0 }
set_option maxRecDepth 20000 in
theorem in_X6_loses_X6 : ∀ w ∈ wsX60, w ∈ wsX6_loses := by decide +kernel

set_option maxRecDepth 100000 in
set_option maxHeartbeats 4000000 in
theorem c_X6_loses {l : Launch} {g : Geo} {M : Nat → Nat → Int32} {P : Nat → Nat} {k : Nat} (hk6 : k < 6) : Met l yX6_loses wsX6_loses rmX6_loses (cPre g [.ref (g.1 158), .int (nI k)] M P) (cQv g (fun M' P' => P = P' ∧ M' = va_up M 159 (loseE eM (M 159) k))) 0 0 (gA g) := by
  refine met_v (cc := cX6_loses) (maxL := 3) (by decide) rfl ⟨rfl, rfl⟩ (Nat.le_of_ble_eq_true rfl) (fun x hx h hret => ?_)
  replace h : Cxk x g cX6_loses 3 wsX6_loses RX6 rmX6_loses := h
  show X x 0 [(0, .ref (g.1 158)), (1, .int (nI k))] [] M P
  refine x_iconst h (nI 0) dX6_loses_0 (by decide) ?_
  refine x_istore_n h [(2, .int (nI 0)), (0, .ref (g.1 158)), (1, .int (nI k))] dX6_loses_1 rfl (by decide) rfl ?_
  have L2 : ∀ (fu : Nat) (i : Nat) (W : Nat → Nat → Int32), (162 - i) < fu → (i ≤ 162) → (W = va_up M 159 (scan 7 (M 159) (fun _ v => if v = nI (1 + k) then nI 0 else v) i)) → X x 2 [(0, .ref (g.1 158)), (1, .int (nI k)), (2, .int (nI i))] [] W P := by
    intro fu
    induction fu with
    | zero => intro i W hmu2; exact absurd hmu2 (Nat.not_lt_zero _)
    | succ fu ih2 =>
      intro i W hmu2 hi hW
      refine x_iload_n h 2 dX6_loses_2 rfl rfl ?_
      refine x_sipush h (nI 162) dX6_loses_3 (by decide) ?_
      refine x_icmp_ge_n h 52 dX6_loses_6 (by decide) (by omega) (by decide) (fun c_6 => ?_) (fun c_6 => ?_)
      · -- 6 true
        refine x_aload_n h 0 dX6_loses_52 rfl rfl ?_
        refine xg_X6_0 h in_X6_loses_X6 (by decide +kernel) dX6_loses_53 ?_
        refine x_sipush h (nI 169) dX6_loses_56 (by decide) ?_
        refine x_bipush h (nI 9) dX6_loses_59 (by decide) ?_
        refine x_iload_n h 1 dX6_loses_61 rfl rfl ?_
        refine x_imul_n h dX6_loses_62 ?_
        refine x_iadd_n h dX6_loses_63 ?_
        refine x_iconst h (nI 5) dX6_loses_64 (by decide) ?_
        refine x_iadd_n h dX6_loses_65 ?_
        refine x_iconst h (nI 0) dX6_loses_66 (by decide) ?_
        refine xs_159 h dX6_loses_67 (by omega) ?_
        exact hret _ _ _ _ dX6_loses_68 (by obtain rfl : i = 162 := (by omega); refine ⟨rfl, ?_⟩; rw [st2_va, hW, va_up_up, va_up_k]; rfl)
      · -- 6 false
        refine x_aload_n h 0 dX6_loses_9 rfl rfl ?_
        refine xg_X6_0 h in_X6_loses_X6 (by decide +kernel) dX6_loses_10 ?_
        refine x_bipush h (nI 7) dX6_loses_13 (by decide) ?_
        refine x_iload_n h 2 dX6_loses_15 rfl rfl ?_
        refine x_iadd_n h dX6_loses_16 ?_
        refine x_aload_n h 0 dX6_loses_17 rfl rfl ?_
        refine xg_X6_0 h in_X6_loses_X6 (by decide +kernel) dX6_loses_18 ?_
        refine x_bipush h (nI 7) dX6_loses_21 (by decide) ?_
        refine x_iload_n h 2 dX6_loses_23 rfl rfl ?_
        refine x_iadd_n h dX6_loses_24 ?_
        refine xl_159 h dX6_loses_25 (by omega) ?_
        refine x_iconst h (nI 1) dX6_loses_26 (by decide) ?_
        refine x_iload_n h 1 dX6_loses_27 rfl rfl ?_
        refine x_iadd_n h dX6_loses_28 ?_
        refine x_icmp_ne h 36 dX6_loses_29 (by decide) (fun c_29 => ?_) (fun c_29 => ?_)
        · -- 29 true
          refine x_aload_n h 0 dX6_loses_36 rfl rfl ?_
          refine xg_X6_0 h in_X6_loses_X6 (by decide +kernel) dX6_loses_37 ?_
          refine x_bipush h (nI 7) dX6_loses_40 (by decide) ?_
          refine x_iload_n h 2 dX6_loses_42 rfl rfl ?_
          refine x_iadd_n h dX6_loses_43 ?_
          refine xl_159 h dX6_loses_44 (by omega) ?_
          refine xs_159 h dX6_loses_45 (by omega) ?_
          refine x_iinc_n h 2 (n := 1) [(2, .int (nI (i + 1))), (0, .ref (g.1 158)), (1, .int (nI k))] dX6_loses_46 rfl (by decide) rfl ?_
          refine x_goto h 2 dX6_loses_49 (by decide) ?_
          exact x_lv (ih2 (i + 1) (st2 W 159 (7 + i) (W 159 (7 + i))) (by omega) (by omega) (by first | (rw [st2_va, hW, va_up_up, va_up_k]; exact congrArg _ (scan_s 7 (M 159) (fun _ v => if v = nI (1 + k) then nI 0 else v) i (by rw [if_pos (by rw [hW, va_up_k, scan_at] at c_29; exact c_29)]))) | (rw [st2_va, hW, va_up_up, va_up_k]; exact congrArg _ (scan_s 7 (M 159) (fun _ v => if v = nI (1 + k) then nI 0 else v) i (by rw [if_neg (by rw [hW, va_up_k, scan_at] at c_29; exact c_29), scan_at]))))) [1, 2, 0] rfl
        · -- 29 false
          refine x_iconst h (nI 0) dX6_loses_32 (by decide) ?_
          refine x_goto h 45 dX6_loses_33 (by decide) ?_
          refine xs_159 h dX6_loses_45 (by omega) ?_
          refine x_iinc_n h 2 (n := 1) [(2, .int (nI (i + 1))), (0, .ref (g.1 158)), (1, .int (nI k))] dX6_loses_46 rfl (by decide) rfl ?_
          refine x_goto h 2 dX6_loses_49 (by decide) ?_
          exact x_lv (ih2 (i + 1) (st2 W 159 (7 + i) (nI 0)) (by omega) (by omega) (by first | (rw [st2_va, hW, va_up_up, va_up_k]; exact congrArg _ (scan_s 7 (M 159) (fun _ v => if v = nI (1 + k) then nI 0 else v) i (by rw [if_pos (by rw [hW, va_up_k, scan_at] at c_29; exact c_29)]))) | (rw [st2_va, hW, va_up_up, va_up_k]; exact congrArg _ (scan_s 7 (M 159) (fun _ v => if v = nI (1 + k) then nI 0 else v) i (by rw [if_neg (by rw [hW, va_up_k, scan_at] at c_29; exact c_29), scan_at]))))) [1, 2, 0] rfl
  exact x_lv (L2 _ 0 M (Nat.lt_succ_self _) (by omega) (by rw [scan_0, va_up_id])) [1, 2, 0] rfl

set_option maxRecDepth 20000 in
theorem ggX6_rips_X6_isNet : GoodIn wsX6_rips wsX6_isNet := goodIn_r _ [8, 3, 9, 10, 7, 11, 28, 29, 30, 31, 32, 33, 34, 35, 36, 37, 38, 39, 40, 41, 42, 43, 44, 45, 46] (by decide +kernel) (by decide +kernel)
set_option maxRecDepth 20000 in
theorem gX6_rips_X6_isNet : GoodIn wsX6_rips (wsV RX6 77 RX6 yX6_isNet wsX6_isNet) := goodIn_app (goodIn_of _ (by decide +kernel)) ggX6_rips_X6_isNet
set_option maxRecDepth 20000 in
theorem ggX6_rips_X6_isJoined : GoodIn wsX6_rips wsX6_isJoined := goodIn_r _ [15, 16, 17, 18, 7, 19, 3, 28, 29, 30, 31, 32, 33, 34, 35, 36, 37, 38, 39, 40, 41, 42, 43, 44, 45, 46] (by decide +kernel) (by decide +kernel)
set_option maxRecDepth 20000 in
theorem gX6_rips_X6_isJoined : GoodIn wsX6_rips (wsV RX6 131 RX6 yX6_isJoined wsX6_isJoined) := goodIn_app (goodIn_of _ (by decide +kernel)) ggX6_rips_X6_isJoined
set_option maxRecDepth 20000 in
theorem ggX6_rips_X6_wireMany : GoodIn wsX6_rips wsX6_wireMany := goodIn_r _ [23, 3, 28, 29, 30, 31, 32, 33, 34, 35, 36, 37, 38, 39, 40, 41, 42, 43, 44, 45, 46] (by decide +kernel) (by decide +kernel)
set_option maxRecDepth 20000 in
theorem gX6_rips_X6_wireMany : GoodIn wsX6_rips (wsV RX6 86 RX6 yX6_wireMany wsX6_wireMany) := goodIn_app (goodIn_of _ (by decide +kernel)) ggX6_rips_X6_wireMany
set_option maxRecDepth 20000 in
theorem ggX6_rips_X6_loses : GoodIn wsX6_rips wsX6_loses := goodIn_r _ [27, 3, 28, 29, 30, 31, 32, 33, 34, 35, 36, 37, 38, 39, 40, 41, 42, 43, 44, 45, 46] (by decide +kernel) (by decide +kernel)
set_option maxRecDepth 20000 in
theorem gX6_rips_X6_loses : GoodIn wsX6_rips (wsV RX6 159 RX6 yX6_loses wsX6_loses) := goodIn_app (goodIn_of _ (by decide +kernel)) ggX6_rips_X6_loses
theorem dX6_rips_0 : decode cX6_rips 0 = .ok (.aload_n 0, 1) := by decide +kernel
theorem dX6_rips_1 : decode cX6_rips 1 = .ok (.iload_n 1, 1) := by decide +kernel
theorem dX6_rips_2 : decode cX6_rips 2 = .ok (.invokevirtual 77, 3) := by decide +kernel
theorem dX6_rips_5 : decode cX6_rips 5 = .ok (.ifCond .ne 6, 3) := by decide +kernel
theorem dX6_rips_8 : decode cX6_rips 8 = .ok (.ldc 61, 2) := by decide +kernel
theorem dX6_rips_10 : decode cX6_rips 10 = .ok (.ireturn, 1) := by decide +kernel
theorem dX6_rips_11 : decode cX6_rips 11 = .ok (.aload_n 0, 1) := by decide +kernel
theorem dX6_rips_12 : decode cX6_rips 12 = .ok (.iload_n 1, 1) := by decide +kernel
theorem dX6_rips_13 : decode cX6_rips 13 = .ok (.invokevirtual 131, 3) := by decide +kernel
theorem dX6_rips_16 : decode cX6_rips 16 = .ok (.ifCond .ne 6, 3) := by decide +kernel
theorem dX6_rips_19 : decode cX6_rips 19 = .ok (.ldc 53, 2) := by decide +kernel
theorem dX6_rips_21 : decode cX6_rips 21 = .ok (.ireturn, 1) := by decide +kernel
theorem dX6_rips_22 : decode cX6_rips 22 = .ok (.aload_n 0, 1) := by decide +kernel
theorem dX6_rips_23 : decode cX6_rips 23 = .ok (.iload_n 1, 1) := by decide +kernel
theorem dX6_rips_24 : decode cX6_rips 24 = .ok (.invokevirtual 86, 3) := by decide +kernel
theorem dX6_rips_27 : decode cX6_rips 27 = .ok (.istore_n 2, 1) := by decide +kernel
theorem dX6_rips_28 : decode cX6_rips 28 = .ok (.aload_n 0, 1) := by decide +kernel
theorem dX6_rips_29 : decode cX6_rips 29 = .ok (.iload_n 1, 1) := by decide +kernel
theorem dX6_rips_30 : decode cX6_rips 30 = .ok (.invokevirtual 159, 3) := by decide +kernel
theorem dX6_rips_33 : decode cX6_rips 33 = .ok (.aload_n 0, 1) := by decide +kernel
theorem dX6_rips_34 : decode cX6_rips 34 = .ok (.getfield 7, 3) := by decide +kernel
theorem dX6_rips_37 : decode cX6_rips 37 = .ok (.iconst 4, 1) := by decide +kernel
theorem dX6_rips_38 : decode cX6_rips 38 = .ok (.dup2, 1) := by decide +kernel
theorem dX6_rips_39 : decode cX6_rips 39 = .ok (.iaload, 1) := by decide +kernel
theorem dX6_rips_40 : decode cX6_rips 40 = .ok (.iconst 1, 1) := by decide +kernel
theorem dX6_rips_41 : decode cX6_rips 41 = .ok (.iadd, 1) := by decide +kernel
theorem dX6_rips_42 : decode cX6_rips 42 = .ok (.iastore, 1) := by decide +kernel
theorem dX6_rips_43 : decode cX6_rips 43 = .ok (.iload_n 2, 1) := by decide +kernel
theorem dX6_rips_44 : decode cX6_rips 44 = .ok (.ireturn, 1) := by decide +kernel
abbrev rmX6_rips : Room := { frames := 2, cells := 0, slots := 0, locals := 43 }
set_option maxRecDepth 20000 in
theorem in_X6_rips_X6 : ∀ w ∈ wsX60, w ∈ wsX6_rips := by decide +kernel

set_option maxRecDepth 100000 in
set_option maxHeartbeats 4000000 in
theorem c_X6_rips {l : Launch} {g : Geo} {M : Nat → Nat → Int32} {P : Nat → Nat} {N K B : Nat} (hI : InvX eM (M 159) N K B) {n : Int32} : Met l yX6_rips wsX6_rips rmX6_rips (cPre g [.ref (g.1 158), .int n] M P) (cQi g (fun r M' P' => P = P' ∧ ∃ X', ripQ eM (M 159) N n r X' ∧ M' = va_up M 159 X')) 0 0 (gA g) := by
  refine met_i (cc := cX6_rips) (maxL := 3) (by decide) rfl ⟨rfl, rfl⟩ (Nat.le_of_ble_eq_true rfl) (fun x hx h hret => ?_)
  replace h : Cxk x g cX6_rips 3 wsX6_rips RX6 rmX6_rips := h
  show X x 0 [(0, .ref (g.1 158)), (1, .int n)] [] M P
  have hN := hI.1.1
  have hN6 := hI.1.2.1
  have hK := hI.1.2.2.1
  have hK12 := hI.1.2.2.2.1
  refine x_aload_n h 0 dX6_rips_0 rfl rfl ?_
  refine x_iload_n h 1 dX6_rips_1 rfl rfl ?_
  refine x_callV h (As := [.int n]) 1 hx (c_X6_isNet hI) gX6_rips_X6_isNet rfl ⟨rfl, rfl⟩ (by decide +kernel) rfl (by decide) (by decide) E_158 rfl rfl (Nat.le_of_ble_eq_true rfl) dX6_rips_2 (fun rv M' P' hp => ?_)
  obtain ⟨⟨rfl, rfl⟩, hp⟩ := hp
  rcases hp with ⟨⟨k2, hk2, rfl⟩, rfl⟩ | ⟨nk2, rfl⟩
  · -- call 2
    refine x_if_ne h 11 dX6_rips_5 (by decide) (fun _ => ?_) (fun c => absurd c (by decide))
    refine x_aload_n h 0 dX6_rips_11 rfl rfl ?_
    refine x_iload_n h 1 dX6_rips_12 rfl rfl ?_
    refine x_callV h (As := [.int (nI k2)]) 1 hx (c_X6_isJoined (by omega)) gX6_rips_X6_isJoined rfl ⟨rfl, rfl⟩ (by decide +kernel) rfl (by decide) (by decide) E_158 rfl rfl (Nat.le_of_ble_eq_true rfl) dX6_rips_13 (fun rv M' P' hp => ?_)
    obtain ⟨⟨rfl, rfl⟩, hp⟩ := hp
    rcases hp with ⟨j13, rfl⟩ | ⟨nj13, rfl⟩
    · -- call 13
      refine x_if_ne h 22 dX6_rips_16 (by decide) (fun _ => ?_) (fun c => absurd c (by decide))
      refine x_aload_n h 0 dX6_rips_22 rfl rfl ?_
      refine x_iload_n h 1 dX6_rips_23 rfl rfl ?_
      refine x_callV h (As := [.int (nI k2)]) 1 hx (c_X6_wireMany (by omega)) gX6_rips_X6_wireMany rfl ⟨rfl, rfl⟩ (by decide +kernel) rfl (by decide) (by decide) E_158 rfl rfl (Nat.le_of_ble_eq_true rfl) dX6_rips_24 (fun rv M' P' hp => ?_)
      obtain ⟨⟨rfl, rfl⟩, rfl⟩ := hp
      refine x_istore_n h [(2, .int (nI (wir (M 159) (nI (1 + k2))))), (0, .ref (g.1 158)), (1, .int (nI k2))] dX6_rips_27 rfl (by decide) rfl ?_
      refine x_aload_n h 1 dX6_rips_28 rfl rfl ?_
      refine x_iload_n h 2 dX6_rips_29 rfl rfl ?_
      refine x_callVv h (As := [.int (nI k2)]) 1 hx (c_X6_loses (by omega)) gX6_rips_X6_loses rfl ⟨rfl, rfl⟩ (by decide +kernel) rfl (by decide) (by decide) E_158 rfl rfl (Nat.le_of_ble_eq_true rfl) dX6_rips_30 (fun M30 P' hp => ?_)
      obtain ⟨rfl, hM30⟩ := hp
      refine x_aload_n h 1 dX6_rips_33 rfl rfl ?_
      refine xg_X6_0 h in_X6_rips_X6 (by decide +kernel) dX6_rips_34 ?_
      refine x_iconst h (nI 4) dX6_rips_37 (by decide) ?_
      refine x_dup2 h dX6_rips_38 rfl rfl ?_
      refine xl_159 h dX6_rips_39 (by decide) ?_
      refine x_iconst h (nI 1) dX6_rips_40 (by decide) ?_
      refine x_iadd h dX6_rips_41 ?_
      refine xs_159 h dX6_rips_42 (by decide) ?_
      refine x_iload_n h 0 dX6_rips_43 rfl rfl ?_
      exact hret _ _ _ _ _ dX6_rips_44 (by refine ⟨rfl, _, Or.inr ⟨k2, hk2, rfl, Or.inr ⟨(fun q => by rw [j13] at q; exact absurd q (by decide)), rfl, rfl⟩⟩, ?_⟩; rw [hM30]; simp only [st2_va, va_up_up, va_up_k])
    · -- call 13
      refine x_if_ne h 22 dX6_rips_16 (by decide) (fun c => absurd c (by decide)) (fun _ => ?_)
      refine x_ldc h ((-1000002)) (by decide +kernel) dX6_rips_19 ?_
      exact hret _ _ _ _ _ dX6_rips_21 (by exact ⟨rfl, _, Or.inr ⟨k2, hk2, rfl, Or.inl ⟨(hI.j5 hk2).elim id (fun q => absurd q nj13), rfl, rfl⟩⟩, (va_up_id _ _).symm⟩)
  · -- call 2
    refine x_if_ne h 11 dX6_rips_5 (by decide) (fun c => absurd c (by decide)) (fun _ => ?_)
    refine x_ldc h ((-1000001)) (by decide +kernel) dX6_rips_8 ?_
    exact hret _ _ _ _ _ dX6_rips_10 (by exact ⟨rfl, _, Or.inl ⟨nk2, rfl, rfl⟩, (va_up_id _ _).symm⟩)

set_option maxRecDepth 20000 in
theorem ggX6_appeals_X6_isClaim : GoodIn wsX6_appeals wsX6_isClaim := goodIn_r _ [8, 2, 9, 10, 7, 11, 24, 25, 26, 27, 28, 29, 30, 31, 32, 33, 34, 35, 36, 37, 38, 39, 40, 41, 42] (by decide +kernel) (by decide +kernel)
set_option maxRecDepth 20000 in
theorem gX6_appeals_X6_isClaim : GoodIn wsX6_appeals (wsV RX6 171 RX6 yX6_isClaim wsX6_isClaim) := goodIn_app (goodIn_of _ (by decide +kernel)) ggX6_appeals_X6_isClaim
set_option maxRecDepth 20000 in
theorem ggX6_appeals_X6_claimAt : GoodIn wsX6_appeals wsX6_claimAt := goodIn_r _ [15, 2, 24, 25, 26, 27, 28, 29, 30, 31, 32, 33, 34, 35, 36, 37, 38, 39, 40, 41, 42] (by decide +kernel) (by decide +kernel)
set_option maxRecDepth 20000 in
theorem gX6_appeals_X6_claimAt : GoodIn wsX6_appeals (wsV RX6 168 RX6 yX6_claimAt wsX6_claimAt) := goodIn_app (goodIn_of _ (by decide +kernel)) ggX6_appeals_X6_claimAt
set_option maxRecDepth 20000 in
theorem ggX6_appeals_X6_since : GoodIn wsX6_appeals wsX6_since := goodIn_r _ [19, 2, 12, 13, 14, 7, 15, 24, 25, 26, 27, 28, 29, 30, 31, 32, 33, 34, 35, 36, 37, 38, 39, 40, 41, 42] (by decide +kernel) (by decide +kernel)
set_option maxRecDepth 20000 in
theorem gX6_appeals_X6_since : GoodIn wsX6_appeals (wsV RX6 174 RX6 yX6_since wsX6_since) := goodIn_app (goodIn_of _ (by decide +kernel)) ggX6_appeals_X6_since
set_option maxRecDepth 20000 in
theorem ggX6_appeals_X6_appealMany : GoodIn wsX6_appeals wsX6_appealMany := goodIn_r _ [23, 2, 12, 13, 14, 7, 15, 24, 25, 26, 27, 28, 29, 30, 31, 32, 33, 34, 35, 36, 37, 38, 39, 40, 41, 42] (by decide +kernel) (by decide +kernel)
set_option maxRecDepth 20000 in
theorem gX6_appeals_X6_appealMany : GoodIn wsX6_appeals (wsV RX6 177 RX6 yX6_appealMany wsX6_appealMany) := goodIn_app (goodIn_of _ (by decide +kernel)) ggX6_appeals_X6_appealMany
theorem dX6_appeals_0 : decode cX6_appeals 0 = .ok (.aload_n 0, 1) := by decide +kernel
theorem dX6_appeals_1 : decode cX6_appeals 1 = .ok (.iload_n 1, 1) := by decide +kernel
theorem dX6_appeals_2 : decode cX6_appeals 2 = .ok (.invokevirtual 171, 3) := by decide +kernel
theorem dX6_appeals_5 : decode cX6_appeals 5 = .ok (.ifCond .ne 6, 3) := by decide +kernel
theorem dX6_appeals_8 : decode cX6_appeals 8 = .ok (.ldc 61, 2) := by decide +kernel
theorem dX6_appeals_10 : decode cX6_appeals 10 = .ok (.ireturn, 1) := by decide +kernel
theorem dX6_appeals_11 : decode cX6_appeals 11 = .ok (.aload_n 0, 1) := by decide +kernel
theorem dX6_appeals_12 : decode cX6_appeals 12 = .ok (.iload_n 1, 1) := by decide +kernel
theorem dX6_appeals_13 : decode cX6_appeals 13 = .ok (.iconst 5, 1) := by decide +kernel
theorem dX6_appeals_14 : decode cX6_appeals 14 = .ok (.invokevirtual 168, 3) := by decide +kernel
theorem dX6_appeals_17 : decode cX6_appeals 17 = .ok (.ifCond .ne 17, 3) := by decide +kernel
theorem dX6_appeals_20 : decode cX6_appeals 20 = .ok (.aload_n 0, 1) := by decide +kernel
theorem dX6_appeals_21 : decode cX6_appeals 21 = .ok (.iload_n 1, 1) := by decide +kernel
theorem dX6_appeals_22 : decode cX6_appeals 22 = .ok (.invokevirtual 174, 3) := by decide +kernel
theorem dX6_appeals_25 : decode cX6_appeals 25 = .ok (.aload_n 0, 1) := by decide +kernel
theorem dX6_appeals_26 : decode cX6_appeals 26 = .ok (.getfield 7, 3) := by decide +kernel
theorem dX6_appeals_29 : decode cX6_appeals 29 = .ok (.iconst 3, 1) := by decide +kernel
theorem dX6_appeals_30 : decode cX6_appeals 30 = .ok (.iaload, 1) := by decide +kernel
theorem dX6_appeals_31 : decode cX6_appeals 31 = .ok (.if_icmp .le 6, 3) := by decide +kernel
theorem dX6_appeals_34 : decode cX6_appeals 34 = .ok (.ldc 53, 2) := by decide +kernel
theorem dX6_appeals_36 : decode cX6_appeals 36 = .ok (.ireturn, 1) := by decide +kernel
theorem dX6_appeals_37 : decode cX6_appeals 37 = .ok (.aload_n 0, 1) := by decide +kernel
theorem dX6_appeals_38 : decode cX6_appeals 38 = .ok (.getfield 7, 3) := by decide +kernel
theorem dX6_appeals_41 : decode cX6_appeals 41 = .ok (.sipush 223, 3) := by decide +kernel
theorem dX6_appeals_44 : decode cX6_appeals 44 = .ok (.bipush 13, 2) := by decide +kernel
theorem dX6_appeals_46 : decode cX6_appeals 46 = .ok (.iload_n 1, 1) := by decide +kernel
theorem dX6_appeals_47 : decode cX6_appeals 47 = .ok (.imul, 1) := by decide +kernel
theorem dX6_appeals_48 : decode cX6_appeals 48 = .ok (.iadd, 1) := by decide +kernel
theorem dX6_appeals_49 : decode cX6_appeals 49 = .ok (.iconst 5, 1) := by decide +kernel
theorem dX6_appeals_50 : decode cX6_appeals 50 = .ok (.iadd, 1) := by decide +kernel
theorem dX6_appeals_51 : decode cX6_appeals 51 = .ok (.iconst 1, 1) := by decide +kernel
theorem dX6_appeals_52 : decode cX6_appeals 52 = .ok (.iastore, 1) := by decide +kernel
theorem dX6_appeals_53 : decode cX6_appeals 53 = .ok (.aload_n 0, 1) := by decide +kernel
theorem dX6_appeals_54 : decode cX6_appeals 54 = .ok (.getfield 7, 3) := by decide +kernel
theorem dX6_appeals_57 : decode cX6_appeals 57 = .ok (.iconst 4, 1) := by decide +kernel
theorem dX6_appeals_58 : decode cX6_appeals 58 = .ok (.dup2, 1) := by decide +kernel
theorem dX6_appeals_59 : decode cX6_appeals 59 = .ok (.iaload, 1) := by decide +kernel
theorem dX6_appeals_60 : decode cX6_appeals 60 = .ok (.iconst 1, 1) := by decide +kernel
theorem dX6_appeals_61 : decode cX6_appeals 61 = .ok (.iadd, 1) := by decide +kernel
theorem dX6_appeals_62 : decode cX6_appeals 62 = .ok (.iastore, 1) := by decide +kernel
theorem dX6_appeals_63 : decode cX6_appeals 63 = .ok (.aload_n 0, 1) := by decide +kernel
theorem dX6_appeals_64 : decode cX6_appeals 64 = .ok (.invokevirtual 177, 3) := by decide +kernel
theorem dX6_appeals_67 : decode cX6_appeals 67 = .ok (.ireturn, 1) := by decide +kernel
abbrev rmX6_appeals : Room := { frames := 2, cells := 0, slots := 0, locals := 44 }
set_option maxRecDepth 20000 in
theorem in_X6_appeals_X6 : ∀ w ∈ wsX60, w ∈ wsX6_appeals := by decide +kernel

set_option maxRecDepth 100000 in
set_option maxHeartbeats 4000000 in
theorem c_X6_appeals {l : Launch} {g : Geo} {M : Nat → Nat → Int32} {P : Nat → Nat} {N K B : Nat} (hI : InvX eM (M 159) N K B) {n : Int32} : Met l yX6_appeals wsX6_appeals rmX6_appeals (cPre g [.ref (g.1 158), .int n] M P) (cQi g (fun r M' P' => P = P' ∧ ∃ X', applQ (M 159) K n r X' ∧ M' = va_up M 159 X')) 0 0 (gA g) := by
  refine met_i (cc := cX6_appeals) (maxL := 2) (by decide) rfl ⟨rfl, rfl⟩ (Nat.le_of_ble_eq_true rfl) (fun x hx h hret => ?_)
  replace h : Cxk x g cX6_appeals 2 wsX6_appeals RX6 rmX6_appeals := h
  show X x 0 [(0, .ref (g.1 158)), (1, .int n)] [] M P
  have hN := hI.1.1
  have hN6 := hI.1.2.1
  have hK := hI.1.2.2.1
  have hK12 := hI.1.2.2.2.1
  refine x_aload_n h 0 dX6_appeals_0 rfl rfl ?_
  refine x_iload_n h 1 dX6_appeals_1 rfl rfl ?_
  refine x_callV h (As := [.int n]) 1 hx (c_X6_isClaim hI) gX6_appeals_X6_isClaim rfl ⟨rfl, rfl⟩ (by decide +kernel) rfl (by decide) (by decide) E_158 rfl rfl (Nat.le_of_ble_eq_true rfl) dX6_appeals_2 (fun rv M' P' hp => ?_)
  obtain ⟨⟨rfl, rfl⟩, hp⟩ := hp
  rcases hp with ⟨⟨k2, hk2, rfl⟩, rfl⟩ | ⟨nk2, rfl⟩
  · -- call 2
    refine x_if_ne h 11 dX6_appeals_5 (by decide) (fun _ => ?_) (fun c => absurd c (by decide))
    refine x_aload_n h 0 dX6_appeals_11 rfl rfl ?_
    refine x_iload_n h 1 dX6_appeals_12 rfl rfl ?_
    refine x_iconst h (nI 5) dX6_appeals_13 (by decide) ?_
    refine x_callV h (As := [.int (nI k2), .int (nI 5)]) 2 hx (c_X6_claimAt (by omega) (by decide)) gX6_appeals_X6_claimAt rfl ⟨rfl, rfl⟩ (by decide +kernel) rfl (by decide) (by decide) E_158 rfl rfl (Nat.le_of_ble_eq_true rfl) dX6_appeals_14 (fun rv M' P' hp => ?_)
    obtain ⟨⟨rfl, rfl⟩, rfl⟩ := hp
    refine x_if_ne h 34 dX6_appeals_17 (by decide) (fun c_17 => ?_) (fun c_17 => ?_)
    · -- 17 true
      refine x_ldc h ((-1000002)) (by decide +kernel) dX6_appeals_34 ?_
      exact hret _ _ _ _ _ dX6_appeals_36 (by exact ⟨rfl, _, Or.inr ⟨k2, hk2, rfl, Or.inl ⟨(by rintro ⟨q1, q2⟩; first | exact c_17 q1 | exact c_31 q2), rfl, rfl⟩⟩, (va_up_id _ _).symm⟩)
    · -- 17 false
      refine x_aload_n h 0 dX6_appeals_20 rfl rfl ?_
      refine x_iload_n h 1 dX6_appeals_21 rfl rfl ?_
      refine x_callV h (As := [.int (nI k2)]) 1 hx (c_X6_since (by omega)) gX6_appeals_X6_since rfl ⟨rfl, rfl⟩ (by decide +kernel) rfl (by decide) (by decide) E_158 rfl rfl (Nat.le_of_ble_eq_true rfl) dX6_appeals_22 (fun rv M' P' hp => ?_)
      obtain ⟨⟨rfl, rfl⟩, rfl⟩ := hp
      refine x_aload_n h 0 dX6_appeals_25 rfl rfl ?_
      refine xg_X6_0 h in_X6_appeals_X6 (by decide +kernel) dX6_appeals_26 ?_
      refine x_iconst h (nI 3) dX6_appeals_29 (by decide) ?_
      refine xl_159 h dX6_appeals_30 (by decide) ?_
      refine x_icmp_le h 37 dX6_appeals_31 (by decide) (fun c_31 => ?_) (fun c_31 => ?_)
      · -- 31 true
        refine x_aload_n h 0 dX6_appeals_37 rfl rfl ?_
        refine xg_X6_0 h in_X6_appeals_X6 (by decide +kernel) dX6_appeals_38 ?_
        refine x_sipush h (nI 223) dX6_appeals_41 (by decide) ?_
        refine x_bipush h (nI 13) dX6_appeals_44 (by decide) ?_
        refine x_iload_n h 1 dX6_appeals_46 rfl rfl ?_
        refine x_imul_n h dX6_appeals_47 ?_
        refine x_iadd_n h dX6_appeals_48 ?_
        refine x_iconst h (nI 5) dX6_appeals_49 (by decide) ?_
        refine x_iadd_n h dX6_appeals_50 ?_
        refine x_iconst h (nI 1) dX6_appeals_51 (by decide) ?_
        refine xs_159 h dX6_appeals_52 (by omega) ?_
        refine x_aload_n h 0 dX6_appeals_53 rfl rfl ?_
        refine xg_X6_0 h in_X6_appeals_X6 (by decide +kernel) dX6_appeals_54 ?_
        refine x_iconst h (nI 4) dX6_appeals_57 (by decide) ?_
        refine x_dup2 h dX6_appeals_58 rfl rfl ?_
        refine xl_159 h dX6_appeals_59 (by decide) ?_
        refine x_iconst h (nI 1) dX6_appeals_60 (by decide) ?_
        refine x_iadd h dX6_appeals_61 ?_
        refine xs_159 h dX6_appeals_62 (by decide) ?_
        refine x_aload_n h 0 dX6_appeals_63 rfl rfl ?_
        refine x_callV h (As := []) 0 hx (c_X6_appealMany (N := N) (K := K) (B := B) (hIap hI (by omega))) gX6_appeals_X6_appealMany rfl ⟨rfl, rfl⟩ (by decide +kernel) rfl (by decide) (by decide) E_158 rfl rfl (Nat.le_of_ble_eq_true rfl) dX6_appeals_64 (fun rv M' P' hp => ?_)
        obtain ⟨⟨rfl, rfl⟩, rfl⟩ := hp
        exact hret _ _ _ _ _ dX6_appeals_67 (by exact ⟨rfl, _, Or.inr ⟨k2, hk2, rfl, Or.inr ⟨c_17, c_31, rfl, (by simp only [st2_va, va_up_up, va_up_k]; simp [upd])⟩⟩, (by simp only [st2_va, va_up_up, va_up_k]; simp [upd])⟩)
      · -- 31 false
        refine x_ldc h ((-1000002)) (by decide +kernel) dX6_appeals_34 ?_
        exact hret _ _ _ _ _ dX6_appeals_36 (by exact ⟨rfl, _, Or.inr ⟨k2, hk2, rfl, Or.inl ⟨(by rintro ⟨q1, q2⟩; first | exact c_17 q1 | exact c_31 q2), rfl, rfl⟩⟩, (va_up_id _ _).symm⟩)
  · -- call 2
    refine x_if_ne h 11 dX6_appeals_5 (by decide) (fun c => absurd c (by decide)) (fun _ => ?_)
    refine x_ldc h ((-1000001)) (by decide +kernel) dX6_appeals_8 ?_
    exact hret _ _ _ _ _ dX6_appeals_10 (by exact ⟨rfl, _, Or.inl ⟨nk2, rfl, rfl⟩, (va_up_id _ _).symm⟩)

set_option maxRecDepth 20000 in
theorem ggX6_pass_X6_copy : GoodIn wsX6_pass wsX6_copy := goodIn_r _ [5, 6, 7, 25, 26, 27, 28, 29, 30, 31, 32, 33, 34, 35, 36, 37, 38, 39, 40, 41, 42, 43] (by decide +kernel) (by decide +kernel)
set_option maxRecDepth 20000 in
theorem gX6_pass_X6_copy : GoodIn wsX6_pass (wsV RX6 62 RX6 yX6_copy wsX6_copy) := goodIn_app (goodIn_of _ (by decide +kernel)) ggX6_pass_X6_copy
set_option maxRecDepth 20000 in
theorem ggX6_pass_X6_passes : GoodIn wsX6_pass wsX6_passes := goodIn_r _ [11, 12, 7, 13, 14, 15, 16, 4, 17, 25, 26, 27, 28, 29, 30, 31, 32, 33, 34, 35, 36, 37, 38, 39, 40, 41, 42, 43] (by decide +kernel) (by decide +kernel)
set_option maxRecDepth 20000 in
theorem gX6_pass_X6_passes : GoodIn wsX6_pass (wsV RX6 198 RX6 yX6_passes wsX6_passes) := goodIn_app (goodIn_of _ (by decide +kernel)) ggX6_pass_X6_passes
set_option maxRecDepth 20000 in
theorem ggX6_pass_X6_recorded : GoodIn wsX6_pass wsX6_recorded := goodIn_r _ [21, 22, 23, 6, 24, 25, 26, 27, 28, 29, 30, 31, 32, 33, 34, 35, 36, 37, 38, 39, 40, 41, 42, 43] (by decide +kernel) (by decide +kernel)
set_option maxRecDepth 20000 in
theorem gX6_pass_X6_recorded : GoodIn wsX6_pass (wsV RX6 65 RX6 yX6_recorded wsX6_recorded) := goodIn_app (goodIn_of _ (by decide +kernel)) ggX6_pass_X6_recorded
theorem dX6_pass_0 : decode cX6_pass 0 = .ok (.aload_n 0, 1) := by decide +kernel
theorem dX6_pass_1 : decode cX6_pass 1 = .ok (.invokevirtual 62, 3) := by decide +kernel
theorem dX6_pass_4 : decode cX6_pass 4 = .ok (.aload_n 0, 1) := by decide +kernel
theorem dX6_pass_5 : decode cX6_pass 5 = .ok (.aload_n 0, 1) := by decide +kernel
theorem dX6_pass_6 : decode cX6_pass 6 = .ok (.iload_n 1, 1) := by decide +kernel
theorem dX6_pass_7 : decode cX6_pass 7 = .ok (.invokevirtual 198, 3) := by decide +kernel
theorem dX6_pass_10 : decode cX6_pass 10 = .ok (.invokevirtual 65, 3) := by decide +kernel
theorem dX6_pass_13 : decode cX6_pass 13 = .ok (.ireturn, 1) := by decide +kernel
abbrev rmX6_pass : Room := { frames := 2, cells := 0, slots := 0, locals := 43 }

set_option maxRecDepth 100000 in
set_option maxHeartbeats 4000000 in
theorem c_X6_pass {l : Launch} {g : Geo} {M : Nat → Nat → Int32} {P : Nat → Nat} {many at_ : Nat} (hm : M 158 5 = nI many) (hm4 : many ≤ 4) (hat : M 158 6 = nI at_) (hat4 : at_ < 4) {a : Int32} : Met l yX6_pass wsX6_pass rmX6_pass (cPre g [.ref (g.1 158), .int a] M P) (cQi g (fun r M' P' => P = P' ∧ FrM M M' ∧ KpM many at_ (M 159) M r M' ∧ passQ (M 159) a r (M' 159))) 0 0 (gA g) := by
  refine met_i (cc := cX6_pass) (maxL := 2) (by decide) rfl ⟨rfl, rfl⟩ (Nat.le_of_ble_eq_true rfl) (fun x hx h hret => ?_)
  replace h : Cxk x g cX6_pass 2 wsX6_pass RX6 rmX6_pass := h
  show X x 0 [(0, .ref (g.1 158)), (1, .int a)] [] M P
  refine x_aload_n h 0 dX6_pass_0 rfl rfl ?_
  refine x_callVv h (As := []) 0 hx (c_X6_copy) gX6_pass_X6_copy rfl ⟨rfl, rfl⟩ (by decide +kernel) rfl (by decide) (by decide) E_158 rfl rfl (Nat.le_of_ble_eq_true rfl) dX6_pass_1 (fun Mc P' hp => ?_)
  obtain ⟨rfl, hMc⟩ := hp
  have hC : Ch M Mc := by rw [hMc]; exact Ch_copy M
  have hc9 : Mc 159 = M 159 := by rw [hMc, va_up_n _ _ (by decide)]
  have hc99 := hc9
  refine x_aload_n h 0 dX6_pass_4 rfl rfl ?_
  refine x_aload_n h 0 dX6_pass_5 rfl rfl ?_
  refine x_iload_n h 1 dX6_pass_6 rfl rfl ?_
  refine x_callV h (As := [.int a]) 1 hx (c_X6_passes) gX6_pass_X6_passes rfl ⟨rfl, rfl⟩ (by decide +kernel) rfl (by decide) (by decide) E_158 rfl rfl (Nat.le_of_ble_eq_true rfl) dX6_pass_7 (fun a7 M7 P' hp => ?_)
  obtain ⟨rfl, X7, hQ7, hM7⟩ := hp
  obtain ⟨W1, hW1⟩ : ∃ q : Nat → Nat → Int32, q = M7 := ⟨_, rfl⟩
  refine x_mem W1 hW1.symm ?_
  have hCh : Ch M W1 := by rw [hW1, hM7]; (repeat (first | apply Ch_s | apply Ch_v)); exact hC
  refine x_callV h (As := [.int a7]) 1 hx (c_X6_recorded ((hCh.2.2 5 (by decide)).trans hm) hm4 ((hCh.2.2 6 (by decide)).trans hat) hat4) gX6_pass_X6_recorded rfl ⟨rfl, rfl⟩ (by decide +kernel) rfl (by decide) (by decide) E_158 rfl rfl (Nat.le_of_ble_eq_true rfl) dX6_pass_10 (fun rv Mr P' hp => ?_)
  obtain ⟨rfl, rfl, hrec⟩ := hp
  obtain ⟨f1, f2, f3⟩ := rec_mk hCh hm hat hrec
  exact hret _ _ _ _ _ dX6_pass_13 (by refine ⟨rfl, f1, f2, ?_⟩; rw [f3, hW1, hM7, va_up_k, ← hc9]; exact hQ7)

set_option maxRecDepth 20000 in
theorem ggX6_rip_X6_copy : GoodIn wsX6_rip wsX6_copy := goodIn_r _ [5, 6, 7, 44, 45, 46, 47, 48, 49, 50, 51, 52, 53, 54, 55, 56, 57, 58, 59, 60, 61, 62] (by decide +kernel) (by decide +kernel)
set_option maxRecDepth 20000 in
theorem gX6_rip_X6_copy : GoodIn wsX6_rip (wsV RX6 62 RX6 yX6_copy wsX6_copy) := goodIn_app (goodIn_of _ (by decide +kernel)) ggX6_rip_X6_copy
set_option maxRecDepth 20000 in
theorem ggX6_rip_X6_rips : GoodIn wsX6_rip wsX6_rips := goodIn_r _ [11, 12, 13, 7, 14, 15, 16, 4, 17, 18, 19, 20, 21, 22, 23, 24, 25, 26, 27, 28, 29, 30, 31, 32, 33, 34, 35, 36, 44, 45, 46, 47, 48, 49, 50, 51, 52, 53, 54, 55, 56, 57, 58, 59, 60, 61, 62] (by decide +kernel) (by decide +kernel)
set_option maxRecDepth 20000 in
theorem gX6_rip_X6_rips : GoodIn wsX6_rip (wsV RX6 165 RX6 yX6_rips wsX6_rips) := goodIn_app (goodIn_of _ (by decide +kernel)) ggX6_rip_X6_rips
set_option maxRecDepth 20000 in
theorem ggX6_rip_X6_recorded : GoodIn wsX6_rip wsX6_recorded := goodIn_r _ [40, 41, 42, 6, 43, 44, 45, 46, 47, 48, 49, 50, 51, 52, 53, 54, 55, 56, 57, 58, 59, 60, 61, 62] (by decide +kernel) (by decide +kernel)
set_option maxRecDepth 20000 in
theorem gX6_rip_X6_recorded : GoodIn wsX6_rip (wsV RX6 65 RX6 yX6_recorded wsX6_recorded) := goodIn_app (goodIn_of _ (by decide +kernel)) ggX6_rip_X6_recorded
theorem dX6_rip_0 : decode cX6_rip 0 = .ok (.aload_n 0, 1) := by decide +kernel
theorem dX6_rip_1 : decode cX6_rip 1 = .ok (.invokevirtual 62, 3) := by decide +kernel
theorem dX6_rip_4 : decode cX6_rip 4 = .ok (.aload_n 0, 1) := by decide +kernel
theorem dX6_rip_5 : decode cX6_rip 5 = .ok (.aload_n 0, 1) := by decide +kernel
theorem dX6_rip_6 : decode cX6_rip 6 = .ok (.iload_n 1, 1) := by decide +kernel
theorem dX6_rip_7 : decode cX6_rip 7 = .ok (.invokevirtual 165, 3) := by decide +kernel
theorem dX6_rip_10 : decode cX6_rip 10 = .ok (.invokevirtual 65, 3) := by decide +kernel
theorem dX6_rip_13 : decode cX6_rip 13 = .ok (.ireturn, 1) := by decide +kernel
abbrev rmX6_rip : Room := { frames := 3, cells := 0, slots := 0, locals := 65 }

set_option maxRecDepth 100000 in
set_option maxHeartbeats 4000000 in
theorem c_X6_rip {l : Launch} {g : Geo} {M : Nat → Nat → Int32} {P : Nat → Nat} {N K B : Nat} (hI : InvX eM (M 159) N K B) {many at_ : Nat} (hm : M 158 5 = nI many) (hm4 : many ≤ 4) (hat : M 158 6 = nI at_) (hat4 : at_ < 4) {a : Int32} : Met l yX6_rip wsX6_rip rmX6_rip (cPre g [.ref (g.1 158), .int a] M P) (cQi g (fun r M' P' => P = P' ∧ FrM M M' ∧ KpM many at_ (M 159) M r M' ∧ ripQ eM (M 159) N a r (M' 159))) 0 0 (gA g) := by
  refine met_i (cc := cX6_rip) (maxL := 2) (by decide) rfl ⟨rfl, rfl⟩ (Nat.le_of_ble_eq_true rfl) (fun x hx h hret => ?_)
  replace h : Cxk x g cX6_rip 2 wsX6_rip RX6 rmX6_rip := h
  show X x 0 [(0, .ref (g.1 158)), (1, .int a)] [] M P
  refine x_aload_n h 0 dX6_rip_0 rfl rfl ?_
  refine x_callVv h (As := []) 0 hx (c_X6_copy) gX6_rip_X6_copy rfl ⟨rfl, rfl⟩ (by decide +kernel) rfl (by decide) (by decide) E_158 rfl rfl (Nat.le_of_ble_eq_true rfl) dX6_rip_1 (fun Mc P' hp => ?_)
  obtain ⟨rfl, hMc⟩ := hp
  have hC : Ch M Mc := by rw [hMc]; exact Ch_copy M
  have hc9 : Mc 159 = M 159 := by rw [hMc, va_up_n _ _ (by decide)]
  have hIc := hI; rw [← hc9] at hIc
  refine x_aload_n h 0 dX6_rip_4 rfl rfl ?_
  refine x_aload_n h 0 dX6_rip_5 rfl rfl ?_
  refine x_iload_n h 1 dX6_rip_6 rfl rfl ?_
  refine x_callV h (As := [.int a]) 1 hx (c_X6_rips (hIc)) gX6_rip_X6_rips rfl ⟨rfl, rfl⟩ (by decide +kernel) rfl (by decide) (by decide) E_158 rfl rfl (Nat.le_of_ble_eq_true rfl) dX6_rip_7 (fun a7 M7 P' hp => ?_)
  obtain ⟨rfl, X7, hQ7, hM7⟩ := hp
  obtain ⟨W1, hW1⟩ : ∃ q : Nat → Nat → Int32, q = M7 := ⟨_, rfl⟩
  refine x_mem W1 hW1.symm ?_
  have hCh : Ch M W1 := by rw [hW1, hM7]; (repeat (first | apply Ch_s | apply Ch_v)); exact hC
  refine x_callV h (As := [.int a7]) 1 hx (c_X6_recorded ((hCh.2.2 5 (by decide)).trans hm) hm4 ((hCh.2.2 6 (by decide)).trans hat) hat4) gX6_rip_X6_recorded rfl ⟨rfl, rfl⟩ (by decide +kernel) rfl (by decide) (by decide) E_158 rfl rfl (Nat.le_of_ble_eq_true rfl) dX6_rip_10 (fun rv Mr P' hp => ?_)
  obtain ⟨rfl, rfl, hrec⟩ := hp
  obtain ⟨f1, f2, f3⟩ := rec_mk hCh hm hat hrec
  exact hret _ _ _ _ _ dX6_rip_13 (by refine ⟨rfl, f1, f2, ?_⟩; rw [f3, hW1, hM7, va_up_k, ← hc9]; exact hQ7)

set_option maxRecDepth 20000 in
theorem ggX6_appeal_X6_copy : GoodIn wsX6_appeal wsX6_copy := goodIn_r _ [5, 6, 7, 40, 41, 42, 43, 44, 45, 46, 47, 48, 49, 50, 51, 52, 53, 54, 55, 56, 57, 58] (by decide +kernel) (by decide +kernel)
set_option maxRecDepth 20000 in
theorem gX6_appeal_X6_copy : GoodIn wsX6_appeal (wsV RX6 62 RX6 yX6_copy wsX6_copy) := goodIn_app (goodIn_of _ (by decide +kernel)) ggX6_appeal_X6_copy
set_option maxRecDepth 20000 in
theorem ggX6_appeal_X6_appeals : GoodIn wsX6_appeal wsX6_appeals := goodIn_r _ [11, 12, 7, 13, 14, 15, 16, 4, 17, 18, 19, 20, 21, 22, 23, 24, 25, 26, 27, 28, 29, 30, 31, 32, 40, 41, 42, 43, 44, 45, 46, 47, 48, 49, 50, 51, 52, 53, 54, 55, 56, 57, 58] (by decide +kernel) (by decide +kernel)
set_option maxRecDepth 20000 in
theorem gX6_appeal_X6_appeals : GoodIn wsX6_appeal (wsV RX6 180 RX6 yX6_appeals wsX6_appeals) := goodIn_app (goodIn_of _ (by decide +kernel)) ggX6_appeal_X6_appeals
set_option maxRecDepth 20000 in
theorem ggX6_appeal_X6_recorded : GoodIn wsX6_appeal wsX6_recorded := goodIn_r _ [36, 37, 38, 6, 39, 40, 41, 42, 43, 44, 45, 46, 47, 48, 49, 50, 51, 52, 53, 54, 55, 56, 57, 58] (by decide +kernel) (by decide +kernel)
set_option maxRecDepth 20000 in
theorem gX6_appeal_X6_recorded : GoodIn wsX6_appeal (wsV RX6 65 RX6 yX6_recorded wsX6_recorded) := goodIn_app (goodIn_of _ (by decide +kernel)) ggX6_appeal_X6_recorded
theorem dX6_appeal_0 : decode cX6_appeal 0 = .ok (.aload_n 0, 1) := by decide +kernel
theorem dX6_appeal_1 : decode cX6_appeal 1 = .ok (.invokevirtual 62, 3) := by decide +kernel
theorem dX6_appeal_4 : decode cX6_appeal 4 = .ok (.aload_n 0, 1) := by decide +kernel
theorem dX6_appeal_5 : decode cX6_appeal 5 = .ok (.aload_n 0, 1) := by decide +kernel
theorem dX6_appeal_6 : decode cX6_appeal 6 = .ok (.iload_n 1, 1) := by decide +kernel
theorem dX6_appeal_7 : decode cX6_appeal 7 = .ok (.invokevirtual 180, 3) := by decide +kernel
theorem dX6_appeal_10 : decode cX6_appeal 10 = .ok (.invokevirtual 65, 3) := by decide +kernel
theorem dX6_appeal_13 : decode cX6_appeal 13 = .ok (.ireturn, 1) := by decide +kernel
abbrev rmX6_appeal : Room := { frames := 3, cells := 0, slots := 0, locals := 65 }

set_option maxRecDepth 100000 in
set_option maxHeartbeats 4000000 in
theorem c_X6_appeal {l : Launch} {g : Geo} {M : Nat → Nat → Int32} {P : Nat → Nat} {N K B : Nat} (hI : InvX eM (M 159) N K B) {many at_ : Nat} (hm : M 158 5 = nI many) (hm4 : many ≤ 4) (hat : M 158 6 = nI at_) (hat4 : at_ < 4) {a : Int32} : Met l yX6_appeal wsX6_appeal rmX6_appeal (cPre g [.ref (g.1 158), .int a] M P) (cQi g (fun r M' P' => P = P' ∧ FrM M M' ∧ KpM many at_ (M 159) M r M' ∧ applQ (M 159) K a r (M' 159))) 0 0 (gA g) := by
  refine met_i (cc := cX6_appeal) (maxL := 2) (by decide) rfl ⟨rfl, rfl⟩ (Nat.le_of_ble_eq_true rfl) (fun x hx h hret => ?_)
  replace h : Cxk x g cX6_appeal 2 wsX6_appeal RX6 rmX6_appeal := h
  show X x 0 [(0, .ref (g.1 158)), (1, .int a)] [] M P
  refine x_aload_n h 0 dX6_appeal_0 rfl rfl ?_
  refine x_callVv h (As := []) 0 hx (c_X6_copy) gX6_appeal_X6_copy rfl ⟨rfl, rfl⟩ (by decide +kernel) rfl (by decide) (by decide) E_158 rfl rfl (Nat.le_of_ble_eq_true rfl) dX6_appeal_1 (fun Mc P' hp => ?_)
  obtain ⟨rfl, hMc⟩ := hp
  have hC : Ch M Mc := by rw [hMc]; exact Ch_copy M
  have hc9 : Mc 159 = M 159 := by rw [hMc, va_up_n _ _ (by decide)]
  have hIc := hI; rw [← hc9] at hIc
  refine x_aload_n h 0 dX6_appeal_4 rfl rfl ?_
  refine x_aload_n h 0 dX6_appeal_5 rfl rfl ?_
  refine x_iload_n h 1 dX6_appeal_6 rfl rfl ?_
  refine x_callV h (As := [.int a]) 1 hx (c_X6_appeals (hIc)) gX6_appeal_X6_appeals rfl ⟨rfl, rfl⟩ (by decide +kernel) rfl (by decide) (by decide) E_158 rfl rfl (Nat.le_of_ble_eq_true rfl) dX6_appeal_7 (fun a7 M7 P' hp => ?_)
  obtain ⟨rfl, X7, hQ7, hM7⟩ := hp
  obtain ⟨W1, hW1⟩ : ∃ q : Nat → Nat → Int32, q = M7 := ⟨_, rfl⟩
  refine x_mem W1 hW1.symm ?_
  have hCh : Ch M W1 := by rw [hW1, hM7]; (repeat (first | apply Ch_s | apply Ch_v)); exact hC
  refine x_callV h (As := [.int a7]) 1 hx (c_X6_recorded ((hCh.2.2 5 (by decide)).trans hm) hm4 ((hCh.2.2 6 (by decide)).trans hat) hat4) gX6_appeal_X6_recorded rfl ⟨rfl, rfl⟩ (by decide +kernel) rfl (by decide) (by decide) E_158 rfl rfl (Nat.le_of_ble_eq_true rfl) dX6_appeal_10 (fun rv Mr P' hp => ?_)
  obtain ⟨rfl, rfl, hrec⟩ := hp
  obtain ⟨f1, f2, f3⟩ := rec_mk hCh hm hat hrec
  exact hret _ _ _ _ _ dX6_appeal_13 (by refine ⟨rfl, f1, f2, ?_⟩; rw [f3, hW1, hM7, va_up_k, ← hc9]; exact hQ7)

set_option maxRecDepth 20000 in
theorem ggX6_heard_X6_loss : GoodIn wsX6_heard wsX6_loss := goodIn_r _ [7, 1, 8, 9, 10, 6, 11, 12, 13, 14, 15, 16, 17, 18, 19, 20, 21, 22, 23, 24, 25, 26, 27, 28, 29, 30] (by decide +kernel) (by decide +kernel)
set_option maxRecDepth 20000 in
theorem gX6_heard_X6_loss : GoodIn wsX6_heard (wsV RX6 183 RX6 yX6_loss wsX6_loss) := goodIn_app (goodIn_of _ (by decide +kernel)) ggX6_heard_X6_loss
set_option maxRecDepth 20000 in
theorem ggX6_heard_X6_claimAt : GoodIn wsX6_heard wsX6_claimAt := goodIn_r _ [11, 1, 12, 13, 14, 15, 16, 17, 18, 19, 20, 21, 22, 23, 24, 25, 26, 27, 28, 29, 30] (by decide +kernel) (by decide +kernel)
set_option maxRecDepth 20000 in
theorem gX6_heard_X6_claimAt : GoodIn wsX6_heard (wsV RX6 168 RX6 yX6_claimAt wsX6_claimAt) := goodIn_app (goodIn_of _ (by decide +kernel)) ggX6_heard_X6_claimAt
theorem dX6_heard_0 : decode cX6_heard 0 = .ok (.iconst 0, 1) := by decide +kernel
theorem dX6_heard_1 : decode cX6_heard 1 = .ok (.istore_n 2, 1) := by decide +kernel
theorem dX6_heard_2 : decode cX6_heard 2 = .ok (.iload_n 2, 1) := by decide +kernel
theorem dX6_heard_3 : decode cX6_heard 3 = .ok (.aload_n 0, 1) := by decide +kernel
theorem dX6_heard_4 : decode cX6_heard 4 = .ok (.getfield 7, 3) := by decide +kernel
theorem dX6_heard_7 : decode cX6_heard 7 = .ok (.bipush 6, 2) := by decide +kernel
theorem dX6_heard_9 : decode cX6_heard 9 = .ok (.iaload, 1) := by decide +kernel
theorem dX6_heard_10 : decode cX6_heard 10 = .ok (.if_icmp .ge 114, 3) := by decide +kernel
theorem dX6_heard_13 : decode cX6_heard 13 = .ok (.iconst 0, 1) := by decide +kernel
theorem dX6_heard_14 : decode cX6_heard 14 = .ok (.istore_n 3, 1) := by decide +kernel
theorem dX6_heard_15 : decode cX6_heard 15 = .ok (.iconst 0, 1) := by decide +kernel
theorem dX6_heard_16 : decode cX6_heard 16 = .ok (.istore 4, 2) := by decide +kernel
theorem dX6_heard_18 : decode cX6_heard 18 = .ok (.iload 4, 2) := by decide +kernel
theorem dX6_heard_20 : decode cX6_heard 20 = .ok (.aload_n 0, 1) := by decide +kernel
theorem dX6_heard_21 : decode cX6_heard 21 = .ok (.getfield 7, 3) := by decide +kernel
theorem dX6_heard_24 : decode cX6_heard 24 = .ok (.bipush 6, 2) := by decide +kernel
theorem dX6_heard_26 : decode cX6_heard 26 = .ok (.iaload, 1) := by decide +kernel
theorem dX6_heard_27 : decode cX6_heard 27 = .ok (.if_icmp .ge 74, 3) := by decide +kernel
theorem dX6_heard_30 : decode cX6_heard 30 = .ok (.aload_n 0, 1) := by decide +kernel
theorem dX6_heard_31 : decode cX6_heard 31 = .ok (.iload 4, 2) := by decide +kernel
theorem dX6_heard_33 : decode cX6_heard 33 = .ok (.invokevirtual 183, 3) := by decide +kernel
theorem dX6_heard_36 : decode cX6_heard 36 = .ok (.aload_n 0, 1) := by decide +kernel
theorem dX6_heard_37 : decode cX6_heard 37 = .ok (.iload_n 2, 1) := by decide +kernel
theorem dX6_heard_38 : decode cX6_heard 38 = .ok (.invokevirtual 183, 3) := by decide +kernel
theorem dX6_heard_41 : decode cX6_heard 41 = .ok (.if_icmp .gt 23, 3) := by decide +kernel
theorem dX6_heard_44 : decode cX6_heard 44 = .ok (.aload_n 0, 1) := by decide +kernel
theorem dX6_heard_45 : decode cX6_heard 45 = .ok (.iload 4, 2) := by decide +kernel
theorem dX6_heard_47 : decode cX6_heard 47 = .ok (.invokevirtual 183, 3) := by decide +kernel
theorem dX6_heard_50 : decode cX6_heard 50 = .ok (.aload_n 0, 1) := by decide +kernel
theorem dX6_heard_51 : decode cX6_heard 51 = .ok (.iload_n 2, 1) := by decide +kernel
theorem dX6_heard_52 : decode cX6_heard 52 = .ok (.invokevirtual 183, 3) := by decide +kernel
theorem dX6_heard_55 : decode cX6_heard 55 = .ok (.if_icmp .ne 13, 3) := by decide +kernel
theorem dX6_heard_58 : decode cX6_heard 58 = .ok (.iload 4, 2) := by decide +kernel
theorem dX6_heard_60 : decode cX6_heard 60 = .ok (.iload_n 2, 1) := by decide +kernel
theorem dX6_heard_61 : decode cX6_heard 61 = .ok (.if_icmp .ge 7, 3) := by decide +kernel
theorem dX6_heard_64 : decode cX6_heard 64 = .ok (.iconst 1, 1) := by decide +kernel
theorem dX6_heard_65 : decode cX6_heard 65 = .ok (.goto 4, 3) := by decide +kernel
theorem dX6_heard_68 : decode cX6_heard 68 = .ok (.iconst 0, 1) := by decide +kernel
theorem dX6_heard_69 : decode cX6_heard 69 = .ok (.istore 5, 2) := by decide +kernel
theorem dX6_heard_71 : decode cX6_heard 71 = .ok (.iload_n 3, 1) := by decide +kernel
theorem dX6_heard_72 : decode cX6_heard 72 = .ok (.aload_n 0, 1) := by decide +kernel
theorem dX6_heard_73 : decode cX6_heard 73 = .ok (.iload 4, 2) := by decide +kernel
theorem dX6_heard_75 : decode cX6_heard 75 = .ok (.iconst 5, 1) := by decide +kernel
theorem dX6_heard_76 : decode cX6_heard 76 = .ok (.invokevirtual 168, 3) := by decide +kernel
theorem dX6_heard_79 : decode cX6_heard 79 = .ok (.iconst 1, 1) := by decide +kernel
theorem dX6_heard_80 : decode cX6_heard 80 = .ok (.if_icmp .ne 12, 3) := by decide +kernel
theorem dX6_heard_83 : decode cX6_heard 83 = .ok (.iload 5, 2) := by decide +kernel
theorem dX6_heard_85 : decode cX6_heard 85 = .ok (.ifCond .eq 7, 3) := by decide +kernel
theorem dX6_heard_88 : decode cX6_heard 88 = .ok (.iconst 1, 1) := by decide +kernel
theorem dX6_heard_89 : decode cX6_heard 89 = .ok (.goto 4, 3) := by decide +kernel
theorem dX6_heard_92 : decode cX6_heard 92 = .ok (.iconst 0, 1) := by decide +kernel
theorem dX6_heard_93 : decode cX6_heard 93 = .ok (.iadd, 1) := by decide +kernel
theorem dX6_heard_94 : decode cX6_heard 94 = .ok (.istore_n 3, 1) := by decide +kernel
theorem dX6_heard_95 : decode cX6_heard 95 = .ok (.iinc 4 1, 3) := by decide +kernel
theorem dX6_heard_98 : decode cX6_heard 98 = .ok (.goto (-80), 3) := by decide +kernel
theorem dX6_heard_101 : decode cX6_heard 101 = .ok (.aload_n 0, 1) := by decide +kernel
theorem dX6_heard_102 : decode cX6_heard 102 = .ok (.iload_n 2, 1) := by decide +kernel
theorem dX6_heard_103 : decode cX6_heard 103 = .ok (.iconst 5, 1) := by decide +kernel
theorem dX6_heard_104 : decode cX6_heard 104 = .ok (.invokevirtual 168, 3) := by decide +kernel
theorem dX6_heard_107 : decode cX6_heard 107 = .ok (.iconst 1, 1) := by decide +kernel
theorem dX6_heard_108 : decode cX6_heard 108 = .ok (.if_icmp .ne 10, 3) := by decide +kernel
theorem dX6_heard_111 : decode cX6_heard 111 = .ok (.iload_n 3, 1) := by decide +kernel
theorem dX6_heard_112 : decode cX6_heard 112 = .ok (.iload_n 1, 1) := by decide +kernel
theorem dX6_heard_113 : decode cX6_heard 113 = .ok (.if_icmp .ne 5, 3) := by decide +kernel
theorem dX6_heard_116 : decode cX6_heard 116 = .ok (.iload_n 2, 1) := by decide +kernel
theorem dX6_heard_117 : decode cX6_heard 117 = .ok (.ireturn, 1) := by decide +kernel
theorem dX6_heard_118 : decode cX6_heard 118 = .ok (.iinc 2 1, 3) := by decide +kernel
theorem dX6_heard_121 : decode cX6_heard 121 = .ok (.goto (-119), 3) := by decide +kernel
theorem dX6_heard_124 : decode cX6_heard 124 = .ok (.ldc 85, 2) := by decide +kernel
theorem dX6_heard_126 : decode cX6_heard 126 = .ok (.ireturn, 1) := by decide +kernel
abbrev rmX6_heard : Room := { frames := 2, cells := 0, slots := 0, locals := 43 }
set_option maxRecDepth 20000 in
theorem in_X6_heard_X6 : ∀ w ∈ wsX60, w ∈ wsX6_heard := by decide +kernel

set_option maxRecDepth 100000 in
set_option maxHeartbeats 4000000 in
theorem c_X6_heard {l : Launch} {g : Geo} {M : Nat → Nat → Int32} {P : Nat → Nat} {N K B : Nat} (hI : InvX eM (M 159) N K B) {ix : Int32} : Met l yX6_heard wsX6_heard rmX6_heard (cPre g [.ref (g.1 158), .int ix] M P) (cQi g (fun r M' P' => (P = P' ∧ M = M') ∧ r = (match hd1 (M 159) K ix with | some i => nI i | none => -1000004))) 0 0 (gA g) := by
  refine met_i (cc := cX6_heard) (maxL := 6) (by decide) rfl ⟨rfl, rfl⟩ (Nat.le_of_ble_eq_true rfl) (fun x hx h hret => ?_)
  replace h : Cxk x g cX6_heard 6 wsX6_heard RX6 rmX6_heard := h
  show X x 0 [(0, .ref (g.1 158)), (1, .int ix)] [] M P
  have hN := hI.1.1
  have hN6 := hI.1.2.1
  have hK := hI.1.2.2.1
  have hK12 := hI.1.2.2.2.1
  refine x_iconst h (nI 0) dX6_heard_0 (by decide) ?_
  refine x_istore_n h [(2, .int (nI 0)), (0, .ref (g.1 158)), (1, .int ix)] dX6_heard_1 rfl (by decide) rfl ?_
  have L2 : ∀ (fu : Nat) (c : Nat), (K - c) < fu → (c ≤ K) → (∀ j, j < c → decide (M 159 (223 + 13 * j + 5) = nI 1 ∧ nI (ahead (M 159) K j) = ix) = false) → X x 2 [(0, .ref (g.1 158)), (1, .int ix), (2, .int (nI c))] [] M P := by
    intro fu
    induction fu with
    | zero => intro c hmu2; exact absurd hmu2 (Nat.not_lt_zero _)
    | succ fu ih2 =>
      intro c hmu2 hc hno
      refine x_iload_n h 2 dX6_heard_2 rfl rfl ?_
      refine x_aload_n h 0 dX6_heard_3 rfl rfl ?_
      refine xg_X6_0 h in_X6_heard_X6 (by decide +kernel) dX6_heard_4 ?_
      refine x_bipush h (nI 6) dX6_heard_7 (by decide) ?_
      refine xl_159 h dX6_heard_9 (by decide) ?_
      refine x_top (nI K) (hK) ?_
      refine x_icmp_ge_n h 124 dX6_heard_10 (by decide) (by omega) (by omega) (fun c_10 => ?_) (fun c_10 => ?_)
      · -- 10 true
        refine x_ldc h ((-1000004)) (by decide +kernel) dX6_heard_124 ?_
        exact hret _ _ _ _ _ dX6_heard_126 (by obtain rfl : c = K := (by omega); unfold hd1; rw [fnd_none hno]; exact ⟨⟨rfl, rfl⟩, rfl⟩)
      · -- 10 false
        refine x_iconst h (nI 0) dX6_heard_13 (by decide) ?_
        refine x_istore_n h [(3, .int (nI 0)), (0, .ref (g.1 158)), (1, .int ix), (2, .int (nI c))] dX6_heard_14 rfl (by decide) rfl ?_
        refine x_iconst h (nI 0) dX6_heard_15 (by decide) ?_
        refine x_istore h [(4, .int (nI 0)), (3, .int (nI 0)), (0, .ref (g.1 158)), (1, .int ix), (2, .int (nI c))] dX6_heard_16 (by decide) rfl ?_
        have L18 : ∀ (fu : Nat) (d : Nat) (q : Nat), (K - d) < fu → (d ≤ K) → (q = cnt (fun d => decide (M 159 (223 + 13 * d + 5) = nI 1 ∧ (lossX (M 159) c < lossX (M 159) d ∨ (lossX (M 159) d = lossX (M 159) c ∧ d < c)))) d) → X x 18 [(0, .ref (g.1 158)), (1, .int ix), (2, .int (nI c)), (3, .int (nI q)), (4, .int (nI d))] [] M P := by
          intro fu
          induction fu with
          | zero => intro d q hmu18; exact absurd hmu18 (Nat.not_lt_zero _)
          | succ fu ih18 =>
            intro d q hmu18 hd hq
            refine x_iload h 4 dX6_heard_18 rfl ?_
            refine x_aload_n h 0 dX6_heard_20 rfl rfl ?_
            refine xg_X6_0 h in_X6_heard_X6 (by decide +kernel) dX6_heard_21 ?_
            refine x_bipush h (nI 6) dX6_heard_24 (by decide) ?_
            refine xl_159 h dX6_heard_26 (by decide) ?_
            refine x_top (nI K) (hK) ?_
            refine x_icmp_ge_n h 101 dX6_heard_27 (by decide) (by omega) (by omega) (fun c_27 => ?_) (fun c_27 => ?_)
            · -- 27 true
              obtain rfl : d = K := by omega
              refine x_aload_n h 0 dX6_heard_101 rfl rfl ?_
              refine x_iload_n h 2 dX6_heard_102 rfl rfl ?_
              refine x_iconst h (nI 5) dX6_heard_103 (by decide) ?_
              refine x_callV h (As := [.int (nI c), .int (nI 5)]) 2 hx (c_X6_claimAt (by omega) (by decide)) gX6_heard_X6_claimAt rfl ⟨rfl, rfl⟩ (by decide +kernel) rfl (by decide) (by decide) E_158 rfl rfl (Nat.le_of_ble_eq_true rfl) dX6_heard_104 (fun rv M' P' hp => ?_)
              obtain ⟨⟨rfl, rfl⟩, rfl⟩ := hp
              refine x_iconst h (nI 1) dX6_heard_107 (by decide) ?_
              refine x_icmp_ne h 118 dX6_heard_108 (by decide) (fun c_108 => ?_) (fun c_108 => ?_)
              · -- 108 true
                refine x_iinc_n h 2 (n := 1) [(2, .int (nI (c + 1))), (0, .ref (g.1 158)), (1, .int ix), (3, .int (nI q)), (4, .int (nI d))] dX6_heard_118 rfl (by decide) rfl ?_
                refine x_goto h 2 dX6_heard_121 (by decide) ?_
                exact x_lv (ih2 (c + 1) (by omega) (by omega) (by (intro j hj; rcases Nat.lt_succ_iff_lt_or_eq.mp hj with e | rfl; exact hno j e; simp only [decide_eq_false_iff_not]; rintro ⟨e1, e2⟩; first | exact c_108 e1 | exact c_113 (by rw [hq]; exact e2)))) [1, 2, 0] rfl
              · -- 108 false
                refine x_iload_n h 3 dX6_heard_111 rfl rfl ?_
                refine x_iload_n h 1 dX6_heard_112 rfl rfl ?_
                refine x_icmp_ne h 118 dX6_heard_113 (by decide) (fun c_113 => ?_) (fun c_113 => ?_)
                · -- 113 true
                  refine x_iinc_n h 2 (n := 1) [(2, .int (nI (c + 1))), (0, .ref (g.1 158)), (1, .int ix), (3, .int (nI q)), (4, .int (nI d))] dX6_heard_118 rfl (by decide) rfl ?_
                  refine x_goto h 2 dX6_heard_121 (by decide) ?_
                  exact x_lv (ih2 (c + 1) (by omega) (by omega) (by (intro j hj; rcases Nat.lt_succ_iff_lt_or_eq.mp hj with e | rfl; exact hno j e; simp only [decide_eq_false_iff_not]; rintro ⟨e1, e2⟩; first | exact c_108 e1 | exact c_113 (by rw [hq]; exact e2)))) [1, 2, 0] rfl
                · -- 113 false
                  refine x_iload_n h 2 dX6_heard_116 rfl rfl ?_
                  exact hret _ _ _ _ _ dX6_heard_117 (by unfold hd1; rw [fnd_some (i := c) (by omega) (by simp only [decide_eq_true_eq]; exact ⟨c_108, by rw [hq] at c_113; exact c_113⟩) hno]; exact ⟨⟨rfl, rfl⟩, rfl⟩)
            · -- 27 false
              refine x_aload_n h 0 dX6_heard_30 rfl rfl ?_
              refine x_iload h 4 dX6_heard_31 rfl ?_
              refine x_callV h (As := [.int (nI d)]) 1 hx (c_X6_loss (by omega)) gX6_heard_X6_loss rfl ⟨rfl, rfl⟩ (by decide +kernel) rfl (by decide) (by decide) E_158 rfl rfl (Nat.le_of_ble_eq_true rfl) dX6_heard_33 (fun rv M' P' hp => ?_)
              obtain ⟨⟨rfl, rfl⟩, rfl⟩ := hp
              refine x_aload_n h 0 dX6_heard_36 rfl rfl ?_
              refine x_iload_n h 2 dX6_heard_37 rfl rfl ?_
              refine x_callV h (As := [.int (nI c)]) 1 hx (c_X6_loss (by omega)) gX6_heard_X6_loss rfl ⟨rfl, rfl⟩ (by decide +kernel) rfl (by decide) (by decide) E_158 rfl rfl (Nat.le_of_ble_eq_true rfl) dX6_heard_38 (fun rv M' P' hp => ?_)
              obtain ⟨⟨rfl, rfl⟩, rfl⟩ := hp
              refine x_icmp_gt h 64 dX6_heard_41 (by decide) (fun c_41 => ?_) (fun c_41 => ?_)
              · -- 41 true
                refine x_iconst h (nI 1) dX6_heard_64 (by decide) ?_
                refine x_goto h 69 dX6_heard_65 (by decide) ?_
                refine x_istore h [(5, .int (nI 1)), (0, .ref (g.1 158)), (1, .int ix), (2, .int (nI c)), (3, .int (nI q)), (4, .int (nI d))] dX6_heard_69 (by decide) rfl ?_
                refine x_iload_n h 4 dX6_heard_71 rfl rfl ?_
                refine x_aload_n h 1 dX6_heard_72 rfl rfl ?_
                refine x_iload h 5 dX6_heard_73 rfl ?_
                refine x_iconst h (nI 5) dX6_heard_75 (by decide) ?_
                refine x_callV h (As := [.int (nI d), .int (nI 5)]) 2 hx (c_X6_claimAt (by omega) (by decide)) gX6_heard_X6_claimAt rfl ⟨rfl, rfl⟩ (by decide +kernel) rfl (by decide) (by decide) E_158 rfl rfl (Nat.le_of_ble_eq_true rfl) dX6_heard_76 (fun rv M' P' hp => ?_)
                obtain ⟨⟨rfl, rfl⟩, rfl⟩ := hp
                refine x_iconst h (nI 1) dX6_heard_79 (by decide) ?_
                refine x_icmp_ne h 92 dX6_heard_80 (by decide) (fun c_80 => ?_) (fun c_80 => ?_)
                · -- 80 true
                  refine x_iconst h (nI 0) dX6_heard_92 (by decide) ?_
                  refine x_iadd_n h dX6_heard_93 ?_
                  refine x_istore_n h [(3, .int (nI (q + 0))), (5, .int (nI 1)), (0, .ref (g.1 158)), (1, .int ix), (2, .int (nI c)), (4, .int (nI d))] dX6_heard_94 rfl (by decide) rfl ?_
                  refine x_iinc_n h 5 (n := 1) [(4, .int (nI (d + 1))), (3, .int (nI (q + 0))), (5, .int (nI 1)), (0, .ref (g.1 158)), (1, .int ix), (2, .int (nI c))] dX6_heard_95 rfl (by decide) rfl ?_
                  refine x_goto h 18 dX6_heard_98 (by decide) ?_
                  exact x_lv (ih18 (d + 1) (q + 0) (by omega) (by omega) (by first | (rw [hq]; exact (cnt_s (p := fun d => decide (M 159 (223 + 13 * d + 5) = nI 1 ∧ (lossX (M 159) c < lossX (M 159) d ∨ (lossX (M 159) d = lossX (M 159) c ∧ d < c)))) (decide_eq_true ⟨c_80, (by first | exact Or.inl c_41 | exact Or.inr ⟨c_55, c_61⟩)⟩)).symm) | (rw [hq]; exact (cnt_n (p := fun d => decide (M 159 (223 + 13 * d + 5) = nI 1 ∧ (lossX (M 159) c < lossX (M 159) d ∨ (lossX (M 159) d = lossX (M 159) c ∧ d < c)))) (decide_eq_false (by rintro ⟨q1, q2⟩; first | exact c_80 q1 | (rcases q2 with q2 | ⟨q3, q4⟩; exact c_41 q2; first | exact c_55 q3 | omega)))).symm))) [3, 4, 5, 1, 0] rfl
                · -- 80 false
                  refine x_iload h 0 dX6_heard_83 rfl ?_
                  refine x_if_eq h 92 dX6_heard_85 (by decide) (fun c => absurd c (by decide)) (fun _ => ?_)
                  refine x_iconst h (nI 1) dX6_heard_88 (by decide) ?_
                  refine x_goto h 93 dX6_heard_89 (by decide) ?_
                  refine x_iadd_n h dX6_heard_93 ?_
                  refine x_istore_n h [(3, .int (nI (q + 1))), (5, .int (nI 1)), (0, .ref (g.1 158)), (1, .int ix), (2, .int (nI c)), (4, .int (nI d))] dX6_heard_94 rfl (by decide) rfl ?_
                  refine x_iinc_n h 5 (n := 1) [(4, .int (nI (d + 1))), (3, .int (nI (q + 1))), (5, .int (nI 1)), (0, .ref (g.1 158)), (1, .int ix), (2, .int (nI c))] dX6_heard_95 rfl (by decide) rfl ?_
                  refine x_goto h 18 dX6_heard_98 (by decide) ?_
                  exact x_lv (ih18 (d + 1) (q + 1) (by omega) (by omega) (by first | (rw [hq]; exact (cnt_s (p := fun d => decide (M 159 (223 + 13 * d + 5) = nI 1 ∧ (lossX (M 159) c < lossX (M 159) d ∨ (lossX (M 159) d = lossX (M 159) c ∧ d < c)))) (decide_eq_true ⟨c_80, (by first | exact Or.inl c_41 | exact Or.inr ⟨c_55, c_61⟩)⟩)).symm) | (rw [hq]; exact (cnt_n (p := fun d => decide (M 159 (223 + 13 * d + 5) = nI 1 ∧ (lossX (M 159) c < lossX (M 159) d ∨ (lossX (M 159) d = lossX (M 159) c ∧ d < c)))) (decide_eq_false (by rintro ⟨q1, q2⟩; first | exact c_80 q1 | (rcases q2 with q2 | ⟨q3, q4⟩; exact c_41 q2; first | exact c_55 q3 | omega)))).symm))) [3, 4, 5, 1, 0] rfl
              · -- 41 false
                refine x_aload_n h 0 dX6_heard_44 rfl rfl ?_
                refine x_iload h 4 dX6_heard_45 rfl ?_
                refine x_callV h (As := [.int (nI d)]) 1 hx (c_X6_loss (by omega)) gX6_heard_X6_loss rfl ⟨rfl, rfl⟩ (by decide +kernel) rfl (by decide) (by decide) E_158 rfl rfl (Nat.le_of_ble_eq_true rfl) dX6_heard_47 (fun rv M' P' hp => ?_)
                obtain ⟨⟨rfl, rfl⟩, rfl⟩ := hp
                refine x_aload_n h 0 dX6_heard_50 rfl rfl ?_
                refine x_iload_n h 2 dX6_heard_51 rfl rfl ?_
                refine x_callV h (As := [.int (nI c)]) 1 hx (c_X6_loss (by omega)) gX6_heard_X6_loss rfl ⟨rfl, rfl⟩ (by decide +kernel) rfl (by decide) (by decide) E_158 rfl rfl (Nat.le_of_ble_eq_true rfl) dX6_heard_52 (fun rv M' P' hp => ?_)
                obtain ⟨⟨rfl, rfl⟩, rfl⟩ := hp
                refine x_icmp_ne h 68 dX6_heard_55 (by decide) (fun c_55 => ?_) (fun c_55 => ?_)
                · -- 55 true
                  refine x_iconst h (nI 0) dX6_heard_68 (by decide) ?_
                  refine x_istore h [(5, .int (nI 0)), (0, .ref (g.1 158)), (1, .int ix), (2, .int (nI c)), (3, .int (nI q)), (4, .int (nI d))] dX6_heard_69 (by decide) rfl ?_
                  refine x_iload_n h 4 dX6_heard_71 rfl rfl ?_
                  refine x_aload_n h 1 dX6_heard_72 rfl rfl ?_
                  refine x_iload h 5 dX6_heard_73 rfl ?_
                  refine x_iconst h (nI 5) dX6_heard_75 (by decide) ?_
                  refine x_callV h (As := [.int (nI d), .int (nI 5)]) 2 hx (c_X6_claimAt (by omega) (by decide)) gX6_heard_X6_claimAt rfl ⟨rfl, rfl⟩ (by decide +kernel) rfl (by decide) (by decide) E_158 rfl rfl (Nat.le_of_ble_eq_true rfl) dX6_heard_76 (fun rv M' P' hp => ?_)
                  obtain ⟨⟨rfl, rfl⟩, rfl⟩ := hp
                  refine x_iconst h (nI 1) dX6_heard_79 (by decide) ?_
                  refine x_icmp_ne h 92 dX6_heard_80 (by decide) (fun c_80 => ?_) (fun c_80 => ?_)
                  · -- 80 true
                    refine x_iconst h (nI 0) dX6_heard_92 (by decide) ?_
                    refine x_iadd_n h dX6_heard_93 ?_
                    refine x_istore_n h [(3, .int (nI (q + 0))), (5, .int (nI 0)), (0, .ref (g.1 158)), (1, .int ix), (2, .int (nI c)), (4, .int (nI d))] dX6_heard_94 rfl (by decide) rfl ?_
                    refine x_iinc_n h 5 (n := 1) [(4, .int (nI (d + 1))), (3, .int (nI (q + 0))), (5, .int (nI 0)), (0, .ref (g.1 158)), (1, .int ix), (2, .int (nI c))] dX6_heard_95 rfl (by decide) rfl ?_
                    refine x_goto h 18 dX6_heard_98 (by decide) ?_
                    exact x_lv (ih18 (d + 1) (q + 0) (by omega) (by omega) (by first | (rw [hq]; exact (cnt_s (p := fun d => decide (M 159 (223 + 13 * d + 5) = nI 1 ∧ (lossX (M 159) c < lossX (M 159) d ∨ (lossX (M 159) d = lossX (M 159) c ∧ d < c)))) (decide_eq_true ⟨c_80, (by first | exact Or.inl c_41 | exact Or.inr ⟨c_55, c_61⟩)⟩)).symm) | (rw [hq]; exact (cnt_n (p := fun d => decide (M 159 (223 + 13 * d + 5) = nI 1 ∧ (lossX (M 159) c < lossX (M 159) d ∨ (lossX (M 159) d = lossX (M 159) c ∧ d < c)))) (decide_eq_false (by rintro ⟨q1, q2⟩; first | exact c_80 q1 | (rcases q2 with q2 | ⟨q3, q4⟩; exact c_41 q2; first | exact c_55 q3 | omega)))).symm))) [3, 4, 5, 1, 0] rfl
                  · -- 80 false
                    refine x_iload h 0 dX6_heard_83 rfl ?_
                    refine x_if_eq h 92 dX6_heard_85 (by decide) (fun _ => ?_) (fun c => absurd (by decide) c)
                    refine x_iconst h (nI 0) dX6_heard_92 (by decide) ?_
                    refine x_iadd_n h dX6_heard_93 ?_
                    refine x_istore_n h [(3, .int (nI (q + 0))), (5, .int (nI 0)), (0, .ref (g.1 158)), (1, .int ix), (2, .int (nI c)), (4, .int (nI d))] dX6_heard_94 rfl (by decide) rfl ?_
                    refine x_iinc_n h 5 (n := 1) [(4, .int (nI (d + 1))), (3, .int (nI (q + 0))), (5, .int (nI 0)), (0, .ref (g.1 158)), (1, .int ix), (2, .int (nI c))] dX6_heard_95 rfl (by decide) rfl ?_
                    refine x_goto h 18 dX6_heard_98 (by decide) ?_
                    exact x_lv (ih18 (d + 1) (q + 0) (by omega) (by omega) (by first | (rw [hq]; exact (cnt_s (p := fun d => decide (M 159 (223 + 13 * d + 5) = nI 1 ∧ (lossX (M 159) c < lossX (M 159) d ∨ (lossX (M 159) d = lossX (M 159) c ∧ d < c)))) (decide_eq_true ⟨c_80, (by first | exact Or.inl c_41 | exact Or.inr ⟨c_55, c_61⟩)⟩)).symm) | (rw [hq]; exact (cnt_n (p := fun d => decide (M 159 (223 + 13 * d + 5) = nI 1 ∧ (lossX (M 159) c < lossX (M 159) d ∨ (lossX (M 159) d = lossX (M 159) c ∧ d < c)))) (decide_eq_false (by rintro ⟨q1, q2⟩; first | exact c_80 q1 | (rcases q2 with q2 | ⟨q3, q4⟩; exact c_41 q2; first | exact c_55 q3 | omega)))).symm))) [3, 4, 5, 1, 0] rfl
                · -- 55 false
                  refine x_iload h 4 dX6_heard_58 rfl ?_
                  refine x_iload_n h 2 dX6_heard_60 rfl rfl ?_
                  refine x_icmp_ge_n h 68 dX6_heard_61 (by decide) (by omega) (by omega) (fun c_61 => ?_) (fun c_61 => ?_)
                  · -- 61 true
                    refine x_iconst h (nI 0) dX6_heard_68 (by decide) ?_
                    refine x_istore h [(5, .int (nI 0)), (0, .ref (g.1 158)), (1, .int ix), (2, .int (nI c)), (3, .int (nI q)), (4, .int (nI d))] dX6_heard_69 (by decide) rfl ?_
                    refine x_iload_n h 4 dX6_heard_71 rfl rfl ?_
                    refine x_aload_n h 1 dX6_heard_72 rfl rfl ?_
                    refine x_iload h 5 dX6_heard_73 rfl ?_
                    refine x_iconst h (nI 5) dX6_heard_75 (by decide) ?_
                    refine x_callV h (As := [.int (nI d), .int (nI 5)]) 2 hx (c_X6_claimAt (by omega) (by decide)) gX6_heard_X6_claimAt rfl ⟨rfl, rfl⟩ (by decide +kernel) rfl (by decide) (by decide) E_158 rfl rfl (Nat.le_of_ble_eq_true rfl) dX6_heard_76 (fun rv M' P' hp => ?_)
                    obtain ⟨⟨rfl, rfl⟩, rfl⟩ := hp
                    refine x_iconst h (nI 1) dX6_heard_79 (by decide) ?_
                    refine x_icmp_ne h 92 dX6_heard_80 (by decide) (fun c_80 => ?_) (fun c_80 => ?_)
                    · -- 80 true
                      refine x_iconst h (nI 0) dX6_heard_92 (by decide) ?_
                      refine x_iadd_n h dX6_heard_93 ?_
                      refine x_istore_n h [(3, .int (nI (q + 0))), (5, .int (nI 0)), (0, .ref (g.1 158)), (1, .int ix), (2, .int (nI c)), (4, .int (nI d))] dX6_heard_94 rfl (by decide) rfl ?_
                      refine x_iinc_n h 5 (n := 1) [(4, .int (nI (d + 1))), (3, .int (nI (q + 0))), (5, .int (nI 0)), (0, .ref (g.1 158)), (1, .int ix), (2, .int (nI c))] dX6_heard_95 rfl (by decide) rfl ?_
                      refine x_goto h 18 dX6_heard_98 (by decide) ?_
                      exact x_lv (ih18 (d + 1) (q + 0) (by omega) (by omega) (by first | (rw [hq]; exact (cnt_s (p := fun d => decide (M 159 (223 + 13 * d + 5) = nI 1 ∧ (lossX (M 159) c < lossX (M 159) d ∨ (lossX (M 159) d = lossX (M 159) c ∧ d < c)))) (decide_eq_true ⟨c_80, (by first | exact Or.inl c_41 | exact Or.inr ⟨c_55, c_61⟩)⟩)).symm) | (rw [hq]; exact (cnt_n (p := fun d => decide (M 159 (223 + 13 * d + 5) = nI 1 ∧ (lossX (M 159) c < lossX (M 159) d ∨ (lossX (M 159) d = lossX (M 159) c ∧ d < c)))) (decide_eq_false (by rintro ⟨q1, q2⟩; first | exact c_80 q1 | (rcases q2 with q2 | ⟨q3, q4⟩; exact c_41 q2; first | exact c_55 q3 | omega)))).symm))) [3, 4, 5, 1, 0] rfl
                    · -- 80 false
                      refine x_iload h 0 dX6_heard_83 rfl ?_
                      refine x_if_eq h 92 dX6_heard_85 (by decide) (fun _ => ?_) (fun c => absurd (by decide) c)
                      refine x_iconst h (nI 0) dX6_heard_92 (by decide) ?_
                      refine x_iadd_n h dX6_heard_93 ?_
                      refine x_istore_n h [(3, .int (nI (q + 0))), (5, .int (nI 0)), (0, .ref (g.1 158)), (1, .int ix), (2, .int (nI c)), (4, .int (nI d))] dX6_heard_94 rfl (by decide) rfl ?_
                      refine x_iinc_n h 5 (n := 1) [(4, .int (nI (d + 1))), (3, .int (nI (q + 0))), (5, .int (nI 0)), (0, .ref (g.1 158)), (1, .int ix), (2, .int (nI c))] dX6_heard_95 rfl (by decide) rfl ?_
                      refine x_goto h 18 dX6_heard_98 (by decide) ?_
                      exact x_lv (ih18 (d + 1) (q + 0) (by omega) (by omega) (by first | (rw [hq]; exact (cnt_s (p := fun d => decide (M 159 (223 + 13 * d + 5) = nI 1 ∧ (lossX (M 159) c < lossX (M 159) d ∨ (lossX (M 159) d = lossX (M 159) c ∧ d < c)))) (decide_eq_true ⟨c_80, (by first | exact Or.inl c_41 | exact Or.inr ⟨c_55, c_61⟩)⟩)).symm) | (rw [hq]; exact (cnt_n (p := fun d => decide (M 159 (223 + 13 * d + 5) = nI 1 ∧ (lossX (M 159) c < lossX (M 159) d ∨ (lossX (M 159) d = lossX (M 159) c ∧ d < c)))) (decide_eq_false (by rintro ⟨q1, q2⟩; first | exact c_80 q1 | (rcases q2 with q2 | ⟨q3, q4⟩; exact c_41 q2; first | exact c_55 q3 | omega)))).symm))) [3, 4, 5, 1, 0] rfl
                  · -- 61 false
                    refine x_iconst h (nI 1) dX6_heard_64 (by decide) ?_
                    refine x_goto h 69 dX6_heard_65 (by decide) ?_
                    refine x_istore h [(5, .int (nI 1)), (0, .ref (g.1 158)), (1, .int ix), (2, .int (nI c)), (3, .int (nI q)), (4, .int (nI d))] dX6_heard_69 (by decide) rfl ?_
                    refine x_iload_n h 4 dX6_heard_71 rfl rfl ?_
                    refine x_aload_n h 1 dX6_heard_72 rfl rfl ?_
                    refine x_iload h 5 dX6_heard_73 rfl ?_
                    refine x_iconst h (nI 5) dX6_heard_75 (by decide) ?_
                    refine x_callV h (As := [.int (nI d), .int (nI 5)]) 2 hx (c_X6_claimAt (by omega) (by decide)) gX6_heard_X6_claimAt rfl ⟨rfl, rfl⟩ (by decide +kernel) rfl (by decide) (by decide) E_158 rfl rfl (Nat.le_of_ble_eq_true rfl) dX6_heard_76 (fun rv M' P' hp => ?_)
                    obtain ⟨⟨rfl, rfl⟩, rfl⟩ := hp
                    refine x_iconst h (nI 1) dX6_heard_79 (by decide) ?_
                    refine x_icmp_ne h 92 dX6_heard_80 (by decide) (fun c_80 => ?_) (fun c_80 => ?_)
                    · -- 80 true
                      refine x_iconst h (nI 0) dX6_heard_92 (by decide) ?_
                      refine x_iadd_n h dX6_heard_93 ?_
                      refine x_istore_n h [(3, .int (nI (q + 0))), (5, .int (nI 1)), (0, .ref (g.1 158)), (1, .int ix), (2, .int (nI c)), (4, .int (nI d))] dX6_heard_94 rfl (by decide) rfl ?_
                      refine x_iinc_n h 5 (n := 1) [(4, .int (nI (d + 1))), (3, .int (nI (q + 0))), (5, .int (nI 1)), (0, .ref (g.1 158)), (1, .int ix), (2, .int (nI c))] dX6_heard_95 rfl (by decide) rfl ?_
                      refine x_goto h 18 dX6_heard_98 (by decide) ?_
                      exact x_lv (ih18 (d + 1) (q + 0) (by omega) (by omega) (by first | (rw [hq]; exact (cnt_s (p := fun d => decide (M 159 (223 + 13 * d + 5) = nI 1 ∧ (lossX (M 159) c < lossX (M 159) d ∨ (lossX (M 159) d = lossX (M 159) c ∧ d < c)))) (decide_eq_true ⟨c_80, (by first | exact Or.inl c_41 | exact Or.inr ⟨c_55, c_61⟩)⟩)).symm) | (rw [hq]; exact (cnt_n (p := fun d => decide (M 159 (223 + 13 * d + 5) = nI 1 ∧ (lossX (M 159) c < lossX (M 159) d ∨ (lossX (M 159) d = lossX (M 159) c ∧ d < c)))) (decide_eq_false (by rintro ⟨q1, q2⟩; first | exact c_80 q1 | (rcases q2 with q2 | ⟨q3, q4⟩; exact c_41 q2; first | exact c_55 q3 | omega)))).symm))) [3, 4, 5, 1, 0] rfl
                    · -- 80 false
                      refine x_iload h 0 dX6_heard_83 rfl ?_
                      refine x_if_eq h 92 dX6_heard_85 (by decide) (fun c => absurd c (by decide)) (fun _ => ?_)
                      refine x_iconst h (nI 1) dX6_heard_88 (by decide) ?_
                      refine x_goto h 93 dX6_heard_89 (by decide) ?_
                      refine x_iadd_n h dX6_heard_93 ?_
                      refine x_istore_n h [(3, .int (nI (q + 1))), (5, .int (nI 1)), (0, .ref (g.1 158)), (1, .int ix), (2, .int (nI c)), (4, .int (nI d))] dX6_heard_94 rfl (by decide) rfl ?_
                      refine x_iinc_n h 5 (n := 1) [(4, .int (nI (d + 1))), (3, .int (nI (q + 1))), (5, .int (nI 1)), (0, .ref (g.1 158)), (1, .int ix), (2, .int (nI c))] dX6_heard_95 rfl (by decide) rfl ?_
                      refine x_goto h 18 dX6_heard_98 (by decide) ?_
                      exact x_lv (ih18 (d + 1) (q + 1) (by omega) (by omega) (by first | (rw [hq]; exact (cnt_s (p := fun d => decide (M 159 (223 + 13 * d + 5) = nI 1 ∧ (lossX (M 159) c < lossX (M 159) d ∨ (lossX (M 159) d = lossX (M 159) c ∧ d < c)))) (decide_eq_true ⟨c_80, (by first | exact Or.inl c_41 | exact Or.inr ⟨c_55, c_61⟩)⟩)).symm) | (rw [hq]; exact (cnt_n (p := fun d => decide (M 159 (223 + 13 * d + 5) = nI 1 ∧ (lossX (M 159) c < lossX (M 159) d ∨ (lossX (M 159) d = lossX (M 159) c ∧ d < c)))) (decide_eq_false (by rintro ⟨q1, q2⟩; first | exact c_80 q1 | (rcases q2 with q2 | ⟨q3, q4⟩; exact c_41 q2; first | exact c_55 q3 | omega)))).symm))) [3, 4, 5, 1, 0] rfl
        exact x_lv (L18 _ 0 0 (Nat.lt_succ_self _) (by omega) (by rfl)) [2, 3, 4, 1, 0] rfl
  exact x_lv (L2 _ 0 (Nat.lt_succ_self _) (by omega) (by exact fun j hj => absurd hj (Nat.not_lt_zero j))) [1, 2, 0] rfl
