/-! orders of what waits -/
def wlN (X : Nat → Int32) : Nat → List Nat
  | 0 => []
  | n + 1 => if X (169 + 9 * n + 5) = 0 ∧ (wlN X n).length < 3 then wlN X n ++ [n] else wlN X n
theorem wlN_lt {X : Nat → Int32} : ∀ {n a : Nat}, a ∈ wlN X n → a < n
  | n + 1, a, h => by
    unfold wlN at h
    split at h
    · rcases List.mem_append.mp h with h | h
      · have := wlN_lt h; omega
      · have := List.mem_singleton.mp h; omega
    · have := wlN_lt h; omega
theorem wlN_3 {X : Nat → Int32} : ∀ {n : Nat}, (wlN X n).length ≤ 3
  | 0 => Nat.zero_le _
  | n + 1 => by
    have := wlN_3 (X := X) (n := n)
    unfold wlN
    split
    · rename_i h; rw [List.length_append]; show (wlN X n).length + 1 ≤ 3; omega
    · exact this
theorem wlN_end {X : Nat → Int32} {i : Nat} (h : 3 ≤ (wlN X i).length) : ∀ {n : Nat}, i ≤ n → wlN X n = wlN X i
  | 0, hn => by rw [Nat.le_zero.mp hn]
  | n + 1, hn => by
    by_cases e : i = n + 1
    · rw [e]
    · have ih := wlN_end h (n := n) (by omega)
      have hs : wlN X (n + 1) = if X (169 + 9 * n + 5) = 0 ∧ (wlN X n).length < 3 then wlN X n ++ [n] else wlN X n := rfl
      rw [hs, if_neg (by rw [ih]; omega), ih]
/-- lays, one behind the other: how many -/
def LayT (e : Enc) (N : Nat) (f : Nat → Nat) (X0 : Nat → Int32) : Nat → Nat → (Nat → Int32) → Prop
  | 0, c, X => c = 0 ∧ X = X0
  | i + 1, c', X' => ∃ c X r, LayT e N f X0 i c X ∧ layQ e X N (nI (f i)) r X' ∧ c' = c + (if r < 0 then 0 else 1)
theorem LayT_le {e : Enc} {N : Nat} {f : Nat → Nat} {X0 : Nat → Int32} : ∀ {i c : Nat} {X : Nat → Int32}, LayT e N f X0 i c X → c ≤ i
  | 0, c, X, h => by rw [h.1]; exact Nat.le_refl 0
  | i + 1, c', X', h => by
    obtain ⟨c, X, r, h1, -, rfl⟩ := h
    have := LayT_le h1
    split <;> omega
def ordC (j : Nat) : Nat := ([0, 1, 2, 0, 2, 1, 1, 0, 2, 1, 2, 0, 2, 0, 1, 2, 1, 0] : List Nat).getD j 0
theorem ordC_v : ∀ j : Fin 18, f_ORDERS j.val = .int (nI (ordC j.val)) := by
  intro j
  unfold f_ORDERS
  congr 1
  revert j
  decide +kernel
def f_ORDERSi (j : Nat) : Int32 := nI (ordC j)
theorem ordC_lt (j : Nat) : ordC j < 3 := by
  unfold ordC
  by_cases h : j < 18
  · exact (by decide +kernel : ∀ j : Fin 18, ([0, 1, 2, 0, 2, 1, 1, 0, 2, 1, 2, 0, 2, 0, 1, 2, 1, 0] : List Nat).getD j.val 0 < 3) ⟨j, h⟩
  · rw [List.getD_eq_getElem?_getD, List.getElem?_eq_none (by show 18 ≤ j; omega)]; decide
/-- what a row of orders comes to -/
def JRQ (X : Nat → Int32) (N K : Nat) (L : List Nat) (row : Nat) (r : Int32) : Prop := ((∃ i, i < L.length ∧ L.length ≤ ordC (3 * row + i)) ∧ r = -1) ∨ ((∀ i, i < L.length → ordC (3 * row + i) < L.length) ∧ ∃ c Y X', LvX X Y N K ∧ LayT eC N (fun i => L.getD (ordC (3 * row + i)) 0) Y L.length c X' ∧ r = nI c)
theorem Inv_layC {X X' : Nat → Int32} {N K B : Nat} {n r : Int32} (h : InvC X N K B) (hq : layQ eC X N n r X') : InvC X' N K B := by
  refine ⟨Inv_lay eC_g h.1 hq, ?_⟩
  have hN := h.1.1.2.1
  rcases hq with ⟨-, -, rfl⟩ | ⟨k, hk, -, ⟨-, -, rfl⟩ | ⟨-, z, l1, l2, -, -, rfl⟩⟩
  · exact h.2
  · exact h.2
  · exact ZbX_cg (fun b hb => by rw [pk_un (by omega), takeE_n (by omega) (by omega)]) h.2
def FrB (P : Nat → Nat) (M M' : Nat → Nat → Int32) : Prop := ∀ k, k ≠ P 1 → k ≠ 146 → (k < 149 ∨ k = 150 ∨ 157 < k) → M' k = M k
theorem bb_1 : ∀ c : Nat, c < 2 ^ 31 → ¬ (nI c ≤ -1) := by
  intro c hc h
  have h := Int32.le_iff_toInt_le.mp h
  rw [nI_toInt hc] at h
  have : (-1 : Int32).toInt = -1 := rfl
  omega
/-- the best of so many rows: the first of the greatest -/
def bst (f : Nat → Int32) : Nat → Int32 × Nat
  | 0 => (-1, 0)
  | i + 1 => if f i ≤ (bst f i).1 then bst f i else (f i, i)
theorem bst_lt (f : Nat → Int32) : ∀ n, (bst f n).2 < n ∨ (bst f n).2 = 0
  | 0 => Or.inr rfl
  | n + 1 => by
    unfold bst
    split
    · have := bst_lt f n; omega
    · exact Or.inl (Nat.lt_succ_self n)

theorem wl_s {W : Nat → Nat → Int32} {L : List Nat} {n : Nat} (h : ∀ i, i < L.length → W 146 i = nI (L.getD i 0)) : ∀ i, i < (L ++ [n]).length → st2 W 146 L.length (nI n) 146 i = nI ((L ++ [n]).getD i 0) := by
  intro i hi
  rw [List.length_append] at hi
  have hi : i < L.length + 1 := hi
  rw [st2_k]
  by_cases e : i = L.length
  · subst e; rw [pk_us]; simp
  · rw [pk_un e, h i (by omega)]
    congr 1
    simp only [List.getD_eq_getElem?_getD]
    rw [List.getElem?_append_left (by omega)]

theorem bst_cg {f g : Nat → Int32} : ∀ {n : Nat}, (∀ q, q < n → f q = g q) → bst f n = bst g n
  | 0, _ => rfl
  | n + 1, h => by
    unfold bst
    rw [bst_cg (n := n) (fun q hq => h q (by omega)), h n (by omega)]
/-- what bestOrder tells -/
def BOQ (X : Nat → Int32) (N K : Nat) (a r : Int32) : Prop := (a < -1 ∧ r = -1000001) ∨ (¬ a < -1 ∧ ∃ f : Nat → Int32, (∀ q, q < 6 → JRQ X N K (wlN X N) q (f q)) ∧ ((a = -1 ∧ r = (bst f 6).1) ∨ (¬ a = -1 ∧ ((nI (wlN X N).length ≤ a ∧ r = -1000004) ∨ ∃ j, j < (wlN X N).length ∧ a = nI j ∧ (ordC (3 * (bst f 6).2 + j) < (wlN X N).length → r = nI ((wlN X N).getD (ordC (3 * (bst f 6).2 + j)) 0))))))

theorem dX5_gatherWaiting_0 : decode cX5_gatherWaiting 0 = .ok (.iconst 0, 1) := by decide +kernel
theorem dX5_gatherWaiting_1 : decode cX5_gatherWaiting 1 = .ok (.istore_n 1, 1) := by decide +kernel
theorem dX5_gatherWaiting_2 : decode cX5_gatherWaiting 2 = .ok (.iconst 0, 1) := by decide +kernel
theorem dX5_gatherWaiting_3 : decode cX5_gatherWaiting 3 = .ok (.istore_n 2, 1) := by decide +kernel
theorem dX5_gatherWaiting_4 : decode cX5_gatherWaiting 4 = .ok (.iload_n 2, 1) := by decide +kernel
theorem dX5_gatherWaiting_5 : decode cX5_gatherWaiting 5 = .ok (.aload_n 0, 1) := by decide +kernel
theorem dX5_gatherWaiting_6 : decode cX5_gatherWaiting 6 = .ok (.getfield 34, 3) := by decide +kernel
theorem dX5_gatherWaiting_9 : decode cX5_gatherWaiting 9 = .ok (.getfield 181, 3) := by decide +kernel
theorem dX5_gatherWaiting_12 : decode cX5_gatherWaiting 12 = .ok (.if_icmp .ge 45, 3) := by decide +kernel
theorem dX5_gatherWaiting_15 : decode cX5_gatherWaiting 15 = .ok (.iload_n 2, 1) := by decide +kernel
theorem dX5_gatherWaiting_16 : decode cX5_gatherWaiting 16 = .ok (.bipush 6, 2) := by decide +kernel
theorem dX5_gatherWaiting_18 : decode cX5_gatherWaiting 18 = .ok (.if_icmp .ge 39, 3) := by decide +kernel
theorem dX5_gatherWaiting_21 : decode cX5_gatherWaiting 21 = .ok (.iload_n 1, 1) := by decide +kernel
theorem dX5_gatherWaiting_22 : decode cX5_gatherWaiting 22 = .ok (.iconst 3, 1) := by decide +kernel
theorem dX5_gatherWaiting_23 : decode cX5_gatherWaiting 23 = .ok (.if_icmp .ge 34, 3) := by decide +kernel
theorem dX5_gatherWaiting_26 : decode cX5_gatherWaiting 26 = .ok (.aload_n 0, 1) := by decide +kernel
theorem dX5_gatherWaiting_27 : decode cX5_gatherWaiting 27 = .ok (.getfield 34, 3) := by decide +kernel
theorem dX5_gatherWaiting_30 : decode cX5_gatherWaiting 30 = .ok (.getfield 167, 3) := by decide +kernel
theorem dX5_gatherWaiting_33 : decode cX5_gatherWaiting 33 = .ok (.iload_n 2, 1) := by decide +kernel
theorem dX5_gatherWaiting_34 : decode cX5_gatherWaiting 34 = .ok (.aaload, 1) := by decide +kernel
theorem dX5_gatherWaiting_35 : decode cX5_gatherWaiting 35 = .ok (.getfield 171, 3) := by decide +kernel
theorem dX5_gatherWaiting_38 : decode cX5_gatherWaiting 38 = .ok (.ifCond .ne 13, 3) := by decide +kernel
theorem dX5_gatherWaiting_41 : decode cX5_gatherWaiting 41 = .ok (.aload_n 0, 1) := by decide +kernel
theorem dX5_gatherWaiting_42 : decode cX5_gatherWaiting 42 = .ok (.getfield 30, 3) := by decide +kernel
theorem dX5_gatherWaiting_45 : decode cX5_gatherWaiting 45 = .ok (.iload_n 1, 1) := by decide +kernel
theorem dX5_gatherWaiting_46 : decode cX5_gatherWaiting 46 = .ok (.iload_n 2, 1) := by decide +kernel
theorem dX5_gatherWaiting_47 : decode cX5_gatherWaiting 47 = .ok (.iastore, 1) := by decide +kernel
theorem dX5_gatherWaiting_48 : decode cX5_gatherWaiting 48 = .ok (.iinc 1 1, 3) := by decide +kernel
theorem dX5_gatherWaiting_51 : decode cX5_gatherWaiting 51 = .ok (.iinc 2 1, 3) := by decide +kernel
theorem dX5_gatherWaiting_54 : decode cX5_gatherWaiting 54 = .ok (.goto (-50), 3) := by decide +kernel
theorem dX5_gatherWaiting_57 : decode cX5_gatherWaiting 57 = .ok (.iload_n 1, 1) := by decide +kernel
theorem dX5_gatherWaiting_58 : decode cX5_gatherWaiting 58 = .ok (.ireturn, 1) := by decide +kernel
abbrev rmX5_gatherWaiting : Room := { frames := 0, cells := 0, slots := 0, locals := 0 }
set_option maxRecDepth 20000 in
theorem in_X5_gatherWaiting_X0 : ∀ w ∈ wsX00, w ∈ wsX5_gatherWaiting := by decide +kernel
set_option maxRecDepth 20000 in
theorem in_X5_gatherWaiting_X2 : ∀ w ∈ wsX20, w ∈ wsX5_gatherWaiting := by decide +kernel
set_option maxRecDepth 20000 in
theorem in_X5_gatherWaiting_X5 : ∀ w ∈ wsX50, w ∈ wsX5_gatherWaiting := by decide +kernel

set_option maxRecDepth 100000 in
set_option maxHeartbeats 4000000 in
theorem c_X5_gatherWaiting {l : Launch} {g : Geo} {M : Nat → Nat → Int32} {P : Nat → Nat} (hP : StP P) {N K B : Nat} (hI : InvC (M (P 0)) N K B) : Met l yX5_gatherWaiting wsX5_gatherWaiting rmX5_gatherWaiting (cPre g [.ref (g.1 144)] M P) (cQi g (fun r M' P' => P = P' ∧ (∀ k, k ≠ 146 → M' k = M k) ∧ r = nI (wlN (M (P 0)) N).length ∧ ∀ i, i < (wlN (M (P 0)) N).length → M' 146 i = nI ((wlN (M (P 0)) N).getD i 0))) 0 0 (gA g) := by
  refine met_i (cc := cX5_gatherWaiting) (maxL := 3) (by decide) rfl ⟨rfl, rfl⟩ (Nat.le_of_ble_eq_true rfl) (fun x hx h hret => ?_)
  replace h : Cxk x g cX5_gatherWaiting 3 wsX5_gatherWaiting RX5 rmX5_gatherWaiting := h
  show X x 0 [(0, .ref (g.1 144))] [] M P
  have hN6 := hI.1.1.2.1
  have hp0 := hP.1 0 (by decide)
  refine x_iconst h (nI 0) dX5_gatherWaiting_0 (by decide) ?_
  refine x_istore_n h [(1, .int (nI 0)), (0, .ref (g.1 144))] dX5_gatherWaiting_1 rfl (by decide) rfl ?_
  refine x_iconst h (nI 0) dX5_gatherWaiting_2 (by decide) ?_
  refine x_istore_n h [(2, .int (nI 0)), (1, .int (nI 0)), (0, .ref (g.1 144))] dX5_gatherWaiting_3 rfl (by decide) rfl ?_
  have L4 : ∀ (fu : Nat) (n : Nat) (W : Nat → Nat → Int32), (N - n) < fu → (n ≤ N) → (∀ k, k ≠ 146 → W k = M k) → (∀ i, i < (wlN (M (P 0)) n).length → W 146 i = nI ((wlN (M (P 0)) n).getD i 0)) → X x 4 [(0, .ref (g.1 144)), (1, .int (nI ((wlN (M (P 0)) n).length))), (2, .int (nI n))] [] W P := by
    intro fu
    induction fu with
    | zero => intro n W hmu4; exact absurd hmu4 (Nat.not_lt_zero _)
    | succ fu ih4 =>
      intro n W hmu4 hn hFr hWl
      refine x_iload_n h 2 dX5_gatherWaiting_4 rfl rfl ?_
      refine x_aload_n h 0 dX5_gatherWaiting_5 rfl rfl ?_
      refine xg_X5_4 h in_X5_gatherWaiting_X5 (by decide +kernel) dX5_gatherWaiting_6 ?_
      refine xg_X0_5 h (hP.1 0 (by decide)) in_X5_gatherWaiting_X0 (by decide +kernel) dX5_gatherWaiting_9 ?_
      refine x_top (nI N) (by rw [hFr (P 0) (by omega)]; exact hI.1.1.1) ?_
      refine x_icmp_ge_n h 57 dX5_gatherWaiting_12 (by decide) (by first | omega | (have := wlN_3 (X := M (P 0)) (n := n); omega)) (by first | omega | (have := wlN_3 (X := M (P 0)) (n := n); omega)) (fun c_12 => ?_) (fun c_12 => ?_)
      · -- 12 true
        refine x_iload_n h 1 dX5_gatherWaiting_57 rfl rfl ?_
        exact hret _ _ _ _ _ dX5_gatherWaiting_58 (by 
                      have hwe : wlN (M (P 0)) N = wlN (M (P 0)) n := by
                        rcases Nat.lt_or_ge n N with hlt | hge
                        · exact wlN_end (by omega) hn
                        · rw [show N = n by omega]
                      rw [hwe]
                      exact ⟨rfl, hFr, rfl, hWl⟩)
      · -- 12 false
        refine x_iload_n h 2 dX5_gatherWaiting_15 rfl rfl ?_
        refine x_bipush h (nI 6) dX5_gatherWaiting_16 (by decide) ?_
        refine x_icmp_ge_n h 57 dX5_gatherWaiting_18 (by decide) (by first | omega | (have := wlN_3 (X := M (P 0)) (n := n); omega)) (by decide) (fun c_18 => ?_) (fun c_18 => ?_)
        · -- 18 true
          refine x_iload_n h 1 dX5_gatherWaiting_57 rfl rfl ?_
          exact hret _ _ _ _ _ dX5_gatherWaiting_58 (by 
                          have hwe : wlN (M (P 0)) N = wlN (M (P 0)) n := by
                            rcases Nat.lt_or_ge n N with hlt | hge
                            · exact wlN_end (by omega) hn
                            · rw [show N = n by omega]
                          rw [hwe]
                          exact ⟨rfl, hFr, rfl, hWl⟩)
        · -- 18 false
          refine x_iload_n h 1 dX5_gatherWaiting_21 rfl rfl ?_
          refine x_iconst h (nI 3) dX5_gatherWaiting_22 (by decide) ?_
          refine x_icmp_ge_n h 57 dX5_gatherWaiting_23 (by decide) (by first | omega | (have := wlN_3 (X := M (P 0)) (n := n); omega)) (by decide) (fun c_23 => ?_) (fun c_23 => ?_)
          · -- 23 true
            refine x_iload_n h 1 dX5_gatherWaiting_57 rfl rfl ?_
            exact hret _ _ _ _ _ dX5_gatherWaiting_58 (by 
                              have hwe : wlN (M (P 0)) N = wlN (M (P 0)) n := by
                                rcases Nat.lt_or_ge n N with hlt | hge
                                · exact wlN_end (by omega) hn
                                · rw [show N = n by omega]
                              rw [hwe]
                              exact ⟨rfl, hFr, rfl, hWl⟩)
          · -- 23 false
            refine x_aload_n h 0 dX5_gatherWaiting_26 rfl rfl ?_
            refine xg_X5_4 h in_X5_gatherWaiting_X5 (by decide +kernel) dX5_gatherWaiting_27 ?_
            refine xg_X0_3 h (hP.1 0 (by decide)) in_X5_gatherWaiting_X0 (by decide +kernel) dX5_gatherWaiting_30 ?_
            refine x_iload_n h 2 dX5_gatherWaiting_33 rfl rfl ?_
            refine xa_nets h (hP.1 0 (by decide)) dX5_gatherWaiting_34 (by omega) ?_
            refine xg_X2_5 h (hP.1 0 (by decide)) (by omega) in_X5_gatherWaiting_X2 (by decide +kernel) dX5_gatherWaiting_35 ?_
            refine x_top ((M (P 0) (169 + 9 * n + 5))) (by rw [hFr (P 0) (by omega)]) ?_
            refine x_if_ne h 51 dX5_gatherWaiting_38 (by decide) (fun c_38 => ?_) (fun c_38 => ?_)
            · -- 38 true
              have hno : ¬ (M (P 0) (169 + 9 * n + 5) = 0 ∧ (wlN (M (P 0)) n).length < 3) := fun q => c_38 q.1
              have hlen : (wlN (M (P 0)) n).length = (wlN (M (P 0)) (n + 1)).length := by rw [wlN, if_neg hno]
              rw [hlen]
              refine x_lv (lv' := [(0, .ref (g.1 144)), (1, .int (nI ((wlN (M (P 0)) (n + 1)).length))), (2, .int (nI n))]) ?_ [0, 1, 2] rfl
              refine x_iinc_n h 2 (n := 1) [(2, .int (nI (n + 1))), (0, .ref (g.1 144)), (1, .int (nI ((wlN (M (P 0)) (n + 1)).length)))] dX5_gatherWaiting_51 rfl (by decide) rfl ?_
              refine x_goto h 4 dX5_gatherWaiting_54 (by decide) ?_
              exact x_lv (ih4 (n + 1) W (by omega) (by omega) (by first | exact hFr | exact fun k hk => (st2_n _ _ _ hk).trans (hFr k hk)) (by first | (rw [wlN, if_neg hno]; exact hWl) | (rw [wlN, if_pos hyes]; exact wl_s hWl))) [1, 2, 0] rfl
            · -- 38 false
              have hyes : M (P 0) (169 + 9 * n + 5) = 0 ∧ (wlN (M (P 0)) n).length < 3 := ⟨c_38, by omega⟩
              refine x_aload_n h 0 dX5_gatherWaiting_41 rfl rfl ?_
              refine xg_X5_3 h in_X5_gatherWaiting_X5 (by decide +kernel) dX5_gatherWaiting_42 ?_
              refine x_iload_n h 1 dX5_gatherWaiting_45 rfl rfl ?_
              refine x_iload_n h 2 dX5_gatherWaiting_46 rfl rfl ?_
              refine xs_146 h dX5_gatherWaiting_47 (by omega) ?_
              refine x_iinc_n h 1 (n := 1) [(1, .int (nI (((wlN (M (P 0)) n).length) + 1))), (0, .ref (g.1 144)), (2, .int (nI n))] dX5_gatherWaiting_48 rfl (by decide) rfl ?_
              have hlen : ((wlN (M (P 0)) n).length) + 1 = (wlN (M (P 0)) (n + 1)).length := by rw [wlN, if_pos hyes, List.length_append]; rfl
              rw [hlen]
              refine x_lv (lv' := [(1, .int (nI ((wlN (M (P 0)) (n + 1)).length))), (0, .ref (g.1 144)), (2, .int (nI n))]) ?_ [0, 1, 2] rfl
              refine x_iinc_n h 2 (n := 1) [(2, .int (nI (n + 1))), (1, .int (nI ((wlN (M (P 0)) (n + 1)).length))), (0, .ref (g.1 144))] dX5_gatherWaiting_51 rfl (by decide) rfl ?_
              refine x_goto h 4 dX5_gatherWaiting_54 (by decide) ?_
              exact x_lv (ih4 (n + 1) (st2 W 146 ((wlN (M (P 0)) n).length) (nI n)) (by omega) (by omega) (by first | exact hFr | exact fun k hk => (st2_n _ _ _ hk).trans (hFr k hk)) (by first | (rw [wlN, if_neg hno]; exact hWl) | (rw [wlN, if_pos hyes]; exact wl_s hWl))) [2, 1, 0] rfl
  exact x_lv (L4 _ 0 M (Nat.lt_succ_self _) (by omega) (by exact fun k _ => rfl) (by exact fun i hi => absurd hi (Nat.not_lt_zero i))) [2, 1, 0] rfl

set_option maxRecDepth 20000 in
theorem ggX5_joinedByRow_X5_freshTrial : GoodIn wsX5_joinedByRow wsX5_freshTrial := goodIn_r _ [8, 9, 10, 11, 12, 13, 14, 15, 16, 17, 18, 19, 20, 21, 22, 23, 24, 25, 26, 27, 28, 29, 30, 31, 32, 33, 34, 35, 36, 37, 38, 39, 40, 41, 42, 43, 44, 45, 46, 47, 48, 49, 50, 51, 52, 53, 145, 146, 147, 148, 149, 150, 151, 152, 153, 154, 155, 156, 157, 158, 159, 160, 161, 162, 163, 164, 165, 166, 167, 168, 169, 170, 171, 172, 173, 174, 175] (by decide +kernel) (by decide +kernel)
set_option maxRecDepth 20000 in
theorem gX5_joinedByRow_X5_freshTrial : GoodIn wsX5_joinedByRow (wsV RX5 45 RX5 yX5_freshTrial wsX5_freshTrial) := goodIn_app (goodIn_of _ (by decide +kernel)) ggX5_joinedByRow_X5_freshTrial
set_option maxRecDepth 20000 in
theorem ggX5_joinedByRow_X0_layNet : GoodIn wsX5_joinedByRow wsX0_layNet := goodIn_r _ [57, 58, 24, 59, 60, 27, 61, 62, 63, 64, 14, 65, 23, 66, 67, 68, 69, 70, 71, 72, 73, 74, 75, 76, 77, 78, 79, 80, 81, 82, 83, 84, 85, 86, 87, 88, 21, 16, 89, 90, 91, 92, 93, 94, 95, 96, 97, 98, 99, 100, 101, 102, 103, 104, 105, 106, 107, 108, 109, 110, 111, 112, 113, 114, 115, 116, 117, 118, 119, 120, 121, 122, 123, 124, 125, 126, 127, 128, 129, 130, 131, 132, 133, 134, 135, 136, 137, 138, 139, 140, 141, 142, 143, 144, 152, 153, 154, 155, 156, 157, 158, 159, 160, 161, 162, 163, 164, 165, 166, 167, 168, 176, 177, 178, 179, 180, 181, 182, 183, 184, 185, 186, 187, 188, 189, 190] (by decide +kernel) (by decide +kernel)
set_option maxRecDepth 20000 in
theorem gX5_joinedByRow_X0_layNet : GoodIn wsX5_joinedByRow (wsV RX5 82 RX0 yX0_layNet wsX0_layNet) := goodIn_app (goodIn_of _ (by decide +kernel)) ggX5_joinedByRow_X0_layNet
theorem dX5_joinedByRow_0 : decode cX5_joinedByRow 0 = .ok (.aload_n 0, 1) := by decide +kernel
theorem dX5_joinedByRow_1 : decode cX5_joinedByRow 1 = .ok (.invokevirtual 45, 3) := by decide +kernel
theorem dX5_joinedByRow_4 : decode cX5_joinedByRow 4 = .ok (.astore_n 3, 1) := by decide +kernel
theorem dX5_joinedByRow_5 : decode cX5_joinedByRow 5 = .ok (.iconst 0, 1) := by decide +kernel
theorem dX5_joinedByRow_6 : decode cX5_joinedByRow 6 = .ok (.istore 4, 2) := by decide +kernel
theorem dX5_joinedByRow_8 : decode cX5_joinedByRow 8 = .ok (.iconst 0, 1) := by decide +kernel
theorem dX5_joinedByRow_9 : decode cX5_joinedByRow 9 = .ok (.istore 5, 2) := by decide +kernel
theorem dX5_joinedByRow_11 : decode cX5_joinedByRow 11 = .ok (.iload 5, 2) := by decide +kernel
theorem dX5_joinedByRow_13 : decode cX5_joinedByRow 13 = .ok (.iload_n 2, 1) := by decide +kernel
theorem dX5_joinedByRow_14 : decode cX5_joinedByRow 14 = .ok (.if_icmp .ge 50, 3) := by decide +kernel
theorem dX5_joinedByRow_17 : decode cX5_joinedByRow 17 = .ok (.getstatic 123, 3) := by decide +kernel
theorem dX5_joinedByRow_20 : decode cX5_joinedByRow 20 = .ok (.iconst 3, 1) := by decide +kernel
theorem dX5_joinedByRow_21 : decode cX5_joinedByRow 21 = .ok (.iload_n 1, 1) := by decide +kernel
theorem dX5_joinedByRow_22 : decode cX5_joinedByRow 22 = .ok (.imul, 1) := by decide +kernel
theorem dX5_joinedByRow_23 : decode cX5_joinedByRow 23 = .ok (.iload 5, 2) := by decide +kernel
theorem dX5_joinedByRow_25 : decode cX5_joinedByRow 25 = .ok (.iadd, 1) := by decide +kernel
theorem dX5_joinedByRow_26 : decode cX5_joinedByRow 26 = .ok (.iaload, 1) := by decide +kernel
theorem dX5_joinedByRow_27 : decode cX5_joinedByRow 27 = .ok (.istore 6, 2) := by decide +kernel
theorem dX5_joinedByRow_29 : decode cX5_joinedByRow 29 = .ok (.iload 6, 2) := by decide +kernel
theorem dX5_joinedByRow_31 : decode cX5_joinedByRow 31 = .ok (.iload_n 2, 1) := by decide +kernel
theorem dX5_joinedByRow_32 : decode cX5_joinedByRow 32 = .ok (.if_icmp .lt 5, 3) := by decide +kernel
theorem dX5_joinedByRow_35 : decode cX5_joinedByRow 35 = .ok (.iconst (-1), 1) := by decide +kernel
theorem dX5_joinedByRow_36 : decode cX5_joinedByRow 36 = .ok (.ireturn, 1) := by decide +kernel
theorem dX5_joinedByRow_37 : decode cX5_joinedByRow 37 = .ok (.aload_n 3, 1) := by decide +kernel
theorem dX5_joinedByRow_38 : decode cX5_joinedByRow 38 = .ok (.aload_n 0, 1) := by decide +kernel
theorem dX5_joinedByRow_39 : decode cX5_joinedByRow 39 = .ok (.getfield 10, 3) := by decide +kernel
theorem dX5_joinedByRow_42 : decode cX5_joinedByRow 42 = .ok (.aload_n 0, 1) := by decide +kernel
theorem dX5_joinedByRow_43 : decode cX5_joinedByRow 43 = .ok (.getfield 30, 3) := by decide +kernel
theorem dX5_joinedByRow_46 : decode cX5_joinedByRow 46 = .ok (.iload 6, 2) := by decide +kernel
theorem dX5_joinedByRow_48 : decode cX5_joinedByRow 48 = .ok (.iaload, 1) := by decide +kernel
theorem dX5_joinedByRow_49 : decode cX5_joinedByRow 49 = .ok (.invokevirtual 82, 3) := by decide +kernel
theorem dX5_joinedByRow_52 : decode cX5_joinedByRow 52 = .ok (.ifCond .lt 6, 3) := by decide +kernel
theorem dX5_joinedByRow_55 : decode cX5_joinedByRow 55 = .ok (.iinc 4 1, 3) := by decide +kernel
theorem dX5_joinedByRow_58 : decode cX5_joinedByRow 58 = .ok (.iinc 5 1, 3) := by decide +kernel
theorem dX5_joinedByRow_61 : decode cX5_joinedByRow 61 = .ok (.goto (-50), 3) := by decide +kernel
theorem dX5_joinedByRow_64 : decode cX5_joinedByRow 64 = .ok (.iload 4, 2) := by decide +kernel
theorem dX5_joinedByRow_66 : decode cX5_joinedByRow 66 = .ok (.ireturn, 1) := by decide +kernel
abbrev rmX5_joinedByRow : Room := { frames := 5, cells := 0, slots := 0, locals := 119 }
set_option maxRecDepth 20000 in
theorem in_X5_joinedByRow_X5 : ∀ w ∈ wsX50, w ∈ wsX5_joinedByRow := by decide +kernel

set_option maxRecDepth 100000 in
set_option maxHeartbeats 4000000 in
theorem c_X5_joinedByRow {l : Launch} {g : Geo} {M : Nat → Nat → Int32} {P : Nat → Nat} (hP : StP P) {N K B : Nat} (hI : InvC (M (P 0)) N K B) (hNb : Nbr M) {L : List Nat} (hL3 : L.length ≤ 3) (hLm : ∀ a, a ∈ L → a < N) (hL : ∀ i, i < L.length → M 146 i = nI (L.getD i 0)) {row : Nat} (hrow : row < 6) : Met l yX5_joinedByRow wsX5_joinedByRow rmX5_joinedByRow (cPre g [.ref (g.1 144), .int (nI row), .int (nI L.length)] M P) (cQi g (fun r M' P' => P = P' ∧ FrB P M M' ∧ M' 146 = M 146 ∧ JRQ (M (P 0)) N K L row r)) 0 0 (gA g) := by
  refine met_i (cc := cX5_joinedByRow) (maxL := 7) (by decide) rfl ⟨rfl, rfl⟩ (Nat.le_of_ble_eq_true rfl) (fun x hx h hret => ?_)
  replace h : Cxk x g cX5_joinedByRow 7 wsX5_joinedByRow RX5 rmX5_joinedByRow := h
  show X x 0 [(0, .ref (g.1 144)), (1, .int (nI row)), (2, .int (nI L.length))] [] M P
  have hp1 := hP.1 1 (by decide)
  have hN6 := hI.1.1.2.1
  refine x_aload_n h 0 dX5_joinedByRow_0 rfl rfl ?_
  refine x_callVr h (As := []) 0 hx (c_X5_freshTrial hP hI) gX5_joinedByRow_X5_freshTrial rfl ⟨rfl, rfl⟩ (by decide +kernel) rfl (by decide) (by decide) E_144 rfl rfl (Nat.le_of_ble_eq_true rfl) dX5_joinedByRow_1 (fun q M1 P' hp => ?_)
  obtain ⟨rfl, rfl, ha1, hl1⟩ := hp
  have hI1 := InvC_lv hI hl1
  refine x_astore_n h [(3, .ref (g.1 (24 * (P 1)))), (0, .ref (g.1 144)), (1, .int (nI row)), (2, .int (nI L.length))] dX5_joinedByRow_4 rfl (by decide) rfl ?_
  refine x_iconst h (nI 0) dX5_joinedByRow_5 (by decide) ?_
  refine x_istore h [(4, .int (nI 0)), (3, .ref (g.1 (24 * (P 1)))), (0, .ref (g.1 144)), (1, .int (nI row)), (2, .int (nI L.length))] dX5_joinedByRow_6 (by decide) rfl ?_
  refine x_iconst h (nI 0) dX5_joinedByRow_8 (by decide) ?_
  refine x_istore h [(5, .int (nI 0)), (4, .int (nI 0)), (3, .ref (g.1 (24 * (P 1)))), (0, .ref (g.1 144)), (1, .int (nI row)), (2, .int (nI L.length))] dX5_joinedByRow_9 (by decide) rfl ?_
  have L11 : ∀ (fu : Nat) (i : Nat) (k : Nat) (W : Nat → Nat → Int32), (L.length - i) < fu → (i ≤ L.length) → (FrC (P 1) M1 W) → (InvC (W (P 1)) N K B) → (LayT eC N (fun i => L.getD (ordC (3 * row + i)) 0) (M1 (P 1)) i k (W (P 1))) → (∀ q, q < i → ordC (3 * row + q) < L.length) → X x 11 [(0, .ref (g.1 144)), (1, .int (nI row)), (2, .int (nI L.length)), (3, .ref (g.1 (24 * (P 1)))), (4, .int (nI k)), (5, .int (nI i))] [] W P := by
    intro fu
    induction fu with
    | zero => intro i k W hmu11; exact absurd hmu11 (Nat.not_lt_zero _)
    | succ fu ih11 =>
      intro i k W hmu11 hi hF hIW hT hgo
      refine x_iload h 5 dX5_joinedByRow_11 rfl ?_
      refine x_iload_n h 2 dX5_joinedByRow_13 rfl rfl ?_
      refine x_icmp_ge_n h 64 dX5_joinedByRow_14 (by decide) (by first | omega | (have := LayT_le hT; omega)) (by first | omega | (have := LayT_le hT; omega)) (fun c_14 => ?_) (fun c_14 => ?_)
      · -- 14 true
        refine x_iload h 4 dX5_joinedByRow_64 rfl ?_
        exact hret _ _ _ _ _ dX5_joinedByRow_66 (by obtain rfl : i = L.length := (by omega); exact ⟨rfl, fun k a b d => (hF k a d).trans (ha1 k a), (hF 146 (by omega) (by omega)).trans (ha1 146 (by omega)), Or.inr ⟨hgo, k, _, _, hl1, hT, rfl⟩⟩)
      · -- 14 false
        refine x_gets h (t := 2) h.2.1.2.1.2.2 (by decide +kernel) dX5_joinedByRow_17 ?_
        refine x_iconst h (nI 3) dX5_joinedByRow_20 (by decide) ?_
        refine x_iload_n h 1 dX5_joinedByRow_21 rfl rfl ?_
        refine x_imul_n h dX5_joinedByRow_22 ?_
        refine x_iload h 5 dX5_joinedByRow_23 rfl ?_
        refine x_iadd_n h dX5_joinedByRow_25 ?_
        refine x_ti h (j := (3 * row) + i) (nI (ordC ((3 * row) + i))) h.2.1.2.1.2.2.2 dX5_joinedByRow_26 (by omega) (by decide) (ordC_v ⟨3 * row + i, by omega⟩) ?_
        have hol := ordC_lt (3 * row + i)
        refine x_istore h [(6, .int (nI (ordC (3 * row + i)))), (0, .ref (g.1 144)), (1, .int (nI row)), (2, .int (nI L.length)), (3, .ref (g.1 (24 * (P 1)))), (4, .int (nI k)), (5, .int (nI i))] dX5_joinedByRow_27 (by decide) rfl ?_
        refine x_iload h 0 dX5_joinedByRow_29 rfl ?_
        refine x_iload_n h 3 dX5_joinedByRow_31 rfl rfl ?_
        refine x_icmp_lt_n h 37 dX5_joinedByRow_32 (by decide) (by first | omega | (have := LayT_le hT; omega)) (by first | omega | (have := LayT_le hT; omega)) (fun c_32 => ?_) (fun c_32 => ?_)
        · -- 32 true
          have hwl : ordC (3 * row + i) < L.length := by omega
          refine x_aload_n h 4 dX5_joinedByRow_37 rfl rfl ?_
          refine x_aload_n h 1 dX5_joinedByRow_38 rfl rfl ?_
          refine xg_X5_0 h in_X5_joinedByRow_X5 (by decide +kernel) dX5_joinedByRow_39 ?_
          refine x_aload_n h 1 dX5_joinedByRow_42 rfl rfl ?_
          refine xg_X5_3 h in_X5_joinedByRow_X5 (by decide +kernel) dX5_joinedByRow_43 ?_
          refine x_iload h 0 dX5_joinedByRow_46 rfl ?_
          refine xl_146 h dX5_joinedByRow_48 (by omega) ?_
          refine x_top (nI (L.getD (ordC (3 * row + i)) 0)) (by rw [hF 146 (by omega) (by omega), ha1 146 (by omega)]; exact hL _ hwl) ?_
          refine x_callV h (As := [.ref (g.1 149), .int (nI (L.getD (ordC (3 * row + i)) 0))]) 2 hx (c_X0_layNet (hP.1 1 (by decide)) hIW.1.1 (Nbr_cg (by rw [hF 150 (by omega) (by omega), ha1 150 (by omega)]) hNb)) gX5_joinedByRow_X0_layNet rfl ⟨rfl, rfl⟩ (by decide +kernel) rfl (by decide) (hk_chip (hP.1 1 (by decide))) (E_chip (hP.1 1 (by decide))) rfl rfl (Nat.le_of_ble_eq_true rfl) dX5_joinedByRow_49 (fun a49 M49 P' hp => ?_)
          obtain ⟨rfl, hF49, hQ49⟩ := hp
          refine x_if_lt h 58 dX5_joinedByRow_52 (by decide) (fun c_52 => ?_) (fun c_52 => ?_)
          · -- 52 true
            have hk58 : k = k + (if a49 < 0 then 0 else 1) := by rw [if_pos c_52]; rfl
            rw [hk58]
            refine x_lv (lv' := [(6, .int (nI (ordC (3 * row + i)))), (0, .ref (g.1 144)), (1, .int (nI row)), (2, .int (nI L.length)), (3, .ref (g.1 (24 * (P 1)))), (4, .int (nI (k + (if a49 < 0 then 0 else 1)))), (5, .int (nI i))]) ?_ [0, 1, 2, 3, 4, 5, 6] rfl
            refine x_iinc_n h 6 (n := 1) [(5, .int (nI (i + 1))), (6, .int (nI (ordC (3 * row + i)))), (0, .ref (g.1 144)), (1, .int (nI row)), (2, .int (nI L.length)), (3, .ref (g.1 (24 * (P 1)))), (4, .int (nI (k + (if a49 < 0 then 0 else 1))))] dX5_joinedByRow_58 rfl (by decide) rfl ?_
            refine x_goto h 11 dX5_joinedByRow_61 (by decide) ?_
            exact x_lv (ih11 (i + 1) (k + (if a49 < 0 then 0 else 1)) M49 (by omega) (by omega) (by exact fun k a b => (hF49 k a b).trans (hF k a b)) (by exact Inv_layC hIW hQ49) (by exact ⟨k, _, a49, hT, hQ49, rfl⟩) (by intro q hq; rcases Nat.lt_succ_iff_lt_or_eq.mp hq with e | e; exact hgo q e; rw [e]; exact hwl)) [2, 3, 4, 5, 6, 0] rfl
          · -- 52 false
            refine x_iinc_n h 5 (n := 1) [(4, .int (nI (k + 1))), (6, .int (nI (ordC (3 * row + i)))), (0, .ref (g.1 144)), (1, .int (nI row)), (2, .int (nI L.length)), (3, .ref (g.1 (24 * (P 1)))), (5, .int (nI i))] dX5_joinedByRow_55 rfl (by decide) rfl ?_
            have hk58 : k + 1 = k + (if a49 < 0 then 0 else 1) := by rw [if_neg c_52]
            rw [hk58]
            refine x_lv (lv' := [(4, .int (nI (k + (if a49 < 0 then 0 else 1)))), (6, .int (nI (ordC (3 * row + i)))), (0, .ref (g.1 144)), (1, .int (nI row)), (2, .int (nI L.length)), (3, .ref (g.1 (24 * (P 1)))), (5, .int (nI i))]) ?_ [0, 1, 2, 3, 4, 5, 6] rfl
            refine x_iinc_n h 6 (n := 1) [(5, .int (nI (i + 1))), (4, .int (nI (k + (if a49 < 0 then 0 else 1)))), (6, .int (nI (ordC (3 * row + i)))), (0, .ref (g.1 144)), (1, .int (nI row)), (2, .int (nI L.length)), (3, .ref (g.1 (24 * (P 1))))] dX5_joinedByRow_58 rfl (by decide) rfl ?_
            refine x_goto h 11 dX5_joinedByRow_61 (by decide) ?_
            exact x_lv (ih11 (i + 1) (k + (if a49 < 0 then 0 else 1)) M49 (by omega) (by omega) (by exact fun k a b => (hF49 k a b).trans (hF k a b)) (by exact Inv_layC hIW hQ49) (by exact ⟨k, _, a49, hT, hQ49, rfl⟩) (by intro q hq; rcases Nat.lt_succ_iff_lt_or_eq.mp hq with e | e; exact hgo q e; rw [e]; exact hwl)) [3, 4, 5, 6, 1, 0] rfl
        · -- 32 false
          refine x_iconst h ((-1)) dX5_joinedByRow_35 (by decide) ?_
          exact hret _ _ _ _ _ dX5_joinedByRow_36 (by exact ⟨rfl, fun k a b d => (hF k a d).trans (ha1 k a), (hF 146 (by omega) (by omega)).trans (ha1 146 (by omega)), Or.inl ⟨⟨i, by omega, by omega⟩, rfl⟩⟩)
  exact x_lv (L11 _ 0 0 M1 (Nat.lt_succ_self _) (by omega) (by exact FrC_r M1 _) (by exact hI1) (by exact ⟨rfl, rfl⟩) (by exact fun q hq => absurd hq (Nat.not_lt_zero q))) [3, 4, 5, 2, 1, 0] rfl

set_option maxRecDepth 20000 in
theorem ggX5_bestOrder_X5_gatherWaiting : GoodIn wsX5_bestOrder wsX5_gatherWaiting := goodIn_r _ [9, 10, 11, 12, 13, 2, 158, 159, 160, 161, 162, 163, 164, 165, 166, 167, 168, 169, 170, 171, 172, 173, 174, 175, 176, 177, 178, 179, 180, 181] (by decide +kernel) (by decide +kernel)
set_option maxRecDepth 20000 in
theorem gX5_bestOrder_X5_gatherWaiting : GoodIn wsX5_bestOrder (wsV RX5 117 RX5 yX5_gatherWaiting wsX5_gatherWaiting) := goodIn_app (goodIn_of _ (by decide +kernel)) ggX5_bestOrder_X5_gatherWaiting
set_option maxRecDepth 20000 in
theorem ggX5_bestOrder_X5_joinedByRow : GoodIn wsX5_bestOrder wsX5_joinedByRow := goodIn_r _ [17, 3, 18, 2, 19, 20, 21, 8, 22, 23, 10, 24, 25, 26, 27, 28, 29, 30, 31, 32, 33, 34, 35, 36, 37, 38, 39, 40, 41, 42, 43, 44, 45, 46, 47, 48, 49, 50, 51, 52, 53, 54, 55, 56, 57, 58, 59, 60, 61, 62, 63, 64, 65, 66, 67, 68, 69, 70, 71, 72, 73, 74, 75, 76, 77, 78, 79, 80, 81, 82, 83, 84, 85, 86, 87, 88, 89, 90, 91, 92, 93, 94, 95, 96, 97, 98, 99, 100, 101, 102, 103, 104, 105, 106, 107, 108, 109, 110, 111, 112, 113, 114, 115, 116, 117, 118, 119, 120, 121, 122, 123, 124, 125, 126, 127, 128, 129, 130, 131, 132, 133, 134, 135, 136, 137, 138, 139, 140, 141, 142, 143, 144, 145, 146, 147, 148, 149, 150, 151, 152, 153, 154, 155, 156, 157, 158, 159, 160, 161, 162, 163, 164, 165, 166, 167, 168, 169, 170, 171, 172, 173, 174, 175, 176, 177, 178, 179, 180, 181, 182, 183, 184, 185, 186, 187, 188, 189, 190, 191, 192, 193, 194, 195, 196, 197, 198, 199, 200, 201, 202, 203] (by decide +kernel) (by decide +kernel)
set_option maxRecDepth 20000 in
theorem gX5_bestOrder_X5_joinedByRow : GoodIn wsX5_bestOrder (wsV RX5 120 RX5 yX5_joinedByRow wsX5_joinedByRow) := goodIn_app (goodIn_of _ (by decide +kernel)) ggX5_bestOrder_X5_joinedByRow
theorem dX5_bestOrder_0 : decode cX5_bestOrder 0 = .ok (.iload_n 1, 1) := by decide +kernel
theorem dX5_bestOrder_1 : decode cX5_bestOrder 1 = .ok (.iconst (-1), 1) := by decide +kernel
theorem dX5_bestOrder_2 : decode cX5_bestOrder 2 = .ok (.if_icmp .ge 6, 3) := by decide +kernel
theorem dX5_bestOrder_5 : decode cX5_bestOrder 5 = .ok (.ldc 70, 2) := by decide +kernel
theorem dX5_bestOrder_7 : decode cX5_bestOrder 7 = .ok (.ireturn, 1) := by decide +kernel
theorem dX5_bestOrder_8 : decode cX5_bestOrder 8 = .ok (.aload_n 0, 1) := by decide +kernel
theorem dX5_bestOrder_9 : decode cX5_bestOrder 9 = .ok (.invokevirtual 117, 3) := by decide +kernel
theorem dX5_bestOrder_12 : decode cX5_bestOrder 12 = .ok (.istore_n 2, 1) := by decide +kernel
theorem dX5_bestOrder_13 : decode cX5_bestOrder 13 = .ok (.iconst (-1), 1) := by decide +kernel
theorem dX5_bestOrder_14 : decode cX5_bestOrder 14 = .ok (.istore_n 3, 1) := by decide +kernel
theorem dX5_bestOrder_15 : decode cX5_bestOrder 15 = .ok (.iconst 0, 1) := by decide +kernel
theorem dX5_bestOrder_16 : decode cX5_bestOrder 16 = .ok (.istore 4, 2) := by decide +kernel
theorem dX5_bestOrder_18 : decode cX5_bestOrder 18 = .ok (.iconst 0, 1) := by decide +kernel
theorem dX5_bestOrder_19 : decode cX5_bestOrder 19 = .ok (.istore 5, 2) := by decide +kernel
theorem dX5_bestOrder_21 : decode cX5_bestOrder 21 = .ok (.iload 5, 2) := by decide +kernel
theorem dX5_bestOrder_23 : decode cX5_bestOrder 23 = .ok (.bipush 6, 2) := by decide +kernel
theorem dX5_bestOrder_25 : decode cX5_bestOrder 25 = .ok (.if_icmp .ge 31, 3) := by decide +kernel
theorem dX5_bestOrder_28 : decode cX5_bestOrder 28 = .ok (.aload_n 0, 1) := by decide +kernel
theorem dX5_bestOrder_29 : decode cX5_bestOrder 29 = .ok (.iload 5, 2) := by decide +kernel
theorem dX5_bestOrder_31 : decode cX5_bestOrder 31 = .ok (.iload_n 2, 1) := by decide +kernel
theorem dX5_bestOrder_32 : decode cX5_bestOrder 32 = .ok (.invokevirtual 120, 3) := by decide +kernel
theorem dX5_bestOrder_35 : decode cX5_bestOrder 35 = .ok (.istore 6, 2) := by decide +kernel
theorem dX5_bestOrder_37 : decode cX5_bestOrder 37 = .ok (.iload 6, 2) := by decide +kernel
theorem dX5_bestOrder_39 : decode cX5_bestOrder 39 = .ok (.iload_n 3, 1) := by decide +kernel
theorem dX5_bestOrder_40 : decode cX5_bestOrder 40 = .ok (.if_icmp .le 10, 3) := by decide +kernel
theorem dX5_bestOrder_43 : decode cX5_bestOrder 43 = .ok (.iload 6, 2) := by decide +kernel
theorem dX5_bestOrder_45 : decode cX5_bestOrder 45 = .ok (.istore_n 3, 1) := by decide +kernel
theorem dX5_bestOrder_46 : decode cX5_bestOrder 46 = .ok (.iload 5, 2) := by decide +kernel
theorem dX5_bestOrder_48 : decode cX5_bestOrder 48 = .ok (.istore 4, 2) := by decide +kernel
theorem dX5_bestOrder_50 : decode cX5_bestOrder 50 = .ok (.iinc 5 1, 3) := by decide +kernel
theorem dX5_bestOrder_53 : decode cX5_bestOrder 53 = .ok (.goto (-32), 3) := by decide +kernel
theorem dX5_bestOrder_56 : decode cX5_bestOrder 56 = .ok (.iload_n 1, 1) := by decide +kernel
theorem dX5_bestOrder_57 : decode cX5_bestOrder 57 = .ok (.iconst (-1), 1) := by decide +kernel
theorem dX5_bestOrder_58 : decode cX5_bestOrder 58 = .ok (.if_icmp .ne 5, 3) := by decide +kernel
theorem dX5_bestOrder_61 : decode cX5_bestOrder 61 = .ok (.iload_n 3, 1) := by decide +kernel
theorem dX5_bestOrder_62 : decode cX5_bestOrder 62 = .ok (.ireturn, 1) := by decide +kernel
theorem dX5_bestOrder_63 : decode cX5_bestOrder 63 = .ok (.iload_n 1, 1) := by decide +kernel
theorem dX5_bestOrder_64 : decode cX5_bestOrder 64 = .ok (.iload_n 2, 1) := by decide +kernel
theorem dX5_bestOrder_65 : decode cX5_bestOrder 65 = .ok (.if_icmp .ge 21, 3) := by decide +kernel
theorem dX5_bestOrder_68 : decode cX5_bestOrder 68 = .ok (.aload_n 0, 1) := by decide +kernel
theorem dX5_bestOrder_69 : decode cX5_bestOrder 69 = .ok (.getfield 30, 3) := by decide +kernel
theorem dX5_bestOrder_72 : decode cX5_bestOrder 72 = .ok (.getstatic 123, 3) := by decide +kernel
theorem dX5_bestOrder_75 : decode cX5_bestOrder 75 = .ok (.iconst 3, 1) := by decide +kernel
theorem dX5_bestOrder_76 : decode cX5_bestOrder 76 = .ok (.iload 4, 2) := by decide +kernel
theorem dX5_bestOrder_78 : decode cX5_bestOrder 78 = .ok (.imul, 1) := by decide +kernel
theorem dX5_bestOrder_79 : decode cX5_bestOrder 79 = .ok (.iload_n 1, 1) := by decide +kernel
theorem dX5_bestOrder_80 : decode cX5_bestOrder 80 = .ok (.iadd, 1) := by decide +kernel
theorem dX5_bestOrder_81 : decode cX5_bestOrder 81 = .ok (.iaload, 1) := by decide +kernel
theorem dX5_bestOrder_82 : decode cX5_bestOrder 82 = .ok (.iaload, 1) := by decide +kernel
theorem dX5_bestOrder_83 : decode cX5_bestOrder 83 = .ok (.goto 5, 3) := by decide +kernel
theorem dX5_bestOrder_86 : decode cX5_bestOrder 86 = .ok (.ldc 74, 2) := by decide +kernel
theorem dX5_bestOrder_88 : decode cX5_bestOrder 88 = .ok (.ireturn, 1) := by decide +kernel
abbrev rmX5_bestOrder : Room := { frames := 6, cells := 0, slots := 0, locals := 145 }
set_option maxRecDepth 20000 in
theorem in_X5_bestOrder_X5 : ∀ w ∈ wsX50, w ∈ wsX5_bestOrder := by decide +kernel

set_option maxRecDepth 100000 in
set_option maxHeartbeats 8000000 in
theorem c_X5_bestOrder {l : Launch} {g : Geo} {M : Nat → Nat → Int32} {P : Nat → Nat} (hP : StP P) {N K B : Nat} (hI : InvC (M (P 0)) N K B) (hNb : Nbr M) {a : Int32} : Met l yX5_bestOrder wsX5_bestOrder rmX5_bestOrder (cPre g [.ref (g.1 144), .int a] M P) (cQi g (fun r M' P' => P = P' ∧ FrB P M M' ∧ BOQ (M (P 0)) N K a r)) 0 0 (gA g) := by
  refine met_i (cc := cX5_bestOrder) (maxL := 7) (by decide) rfl ⟨rfl, rfl⟩ (Nat.le_of_ble_eq_true rfl) (fun x hx h hret => ?_)
  replace h : Cxk x g cX5_bestOrder 7 wsX5_bestOrder RX5 rmX5_bestOrder := h
  show X x 0 [(0, .ref (g.1 144)), (1, .int a)] [] M P
  have hp0 := hP.1 0 (by decide)
  have hp1 := hP.1 1 (by decide)
  have hN6 := hI.1.1.2.1
  refine x_iload_n h 1 dX5_bestOrder_0 rfl rfl ?_
  refine x_iconst h ((-1)) dX5_bestOrder_1 (by decide) ?_
  refine x_icmp_ge h 8 dX5_bestOrder_2 (by decide) (fun c_2 => ?_) (fun c_2 => ?_)
  · -- 2 true
    refine x_aload_n h 0 dX5_bestOrder_8 rfl rfl ?_
    refine x_callV h (As := []) 0 hx (c_X5_gatherWaiting hP hI) gX5_bestOrder_X5_gatherWaiting rfl ⟨rfl, rfl⟩ (by decide +kernel) rfl (by decide) (by decide) E_144 rfl rfl (Nat.le_of_ble_eq_true rfl) dX5_bestOrder_9 (fun rv M9 P' hp => ?_)
    obtain ⟨rfl, hg1, rfl, hg3⟩ := hp
    have hI9 : InvC (M9 (P 0)) N K B := by rw [hg1 (P 0) (by omega)]; exact hI
    have hW3 := wlN_3 (X := M (P 0)) (n := N)
    refine x_istore_n h [(2, .int (nI ((wlN (M (P 0)) N).length))), (0, .ref (g.1 144)), (1, .int a)] dX5_bestOrder_12 rfl (by decide) rfl ?_
    refine x_iconst h ((-1)) dX5_bestOrder_13 (by decide) ?_
    refine x_istore_n h [(3, .int (-1)), (2, .int (nI ((wlN (M (P 0)) N).length))), (0, .ref (g.1 144)), (1, .int a)] dX5_bestOrder_14 rfl (by decide) rfl ?_
    refine x_iconst h (nI 0) dX5_bestOrder_15 (by decide) ?_
    refine x_istore h [(4, .int (nI 0)), (3, .int (-1)), (2, .int (nI ((wlN (M (P 0)) N).length))), (0, .ref (g.1 144)), (1, .int a)] dX5_bestOrder_16 (by decide) rfl ?_
    refine x_iconst h (nI 0) dX5_bestOrder_18 (by decide) ?_
    refine x_istore h [(5, .int (nI 0)), (4, .int (nI 0)), (3, .int (-1)), (2, .int (nI ((wlN (M (P 0)) N).length))), (0, .ref (g.1 144)), (1, .int a)] dX5_bestOrder_19 (by decide) rfl ?_
    have L21 : ∀ (fu : Nat) (i : Nat) (f : Nat → Int32) (W : Nat → Nat → Int32), (6 - i) < fu → (i ≤ 6) → (FrB P M W) → (W 146 = M9 146) → (∀ q, q < i → JRQ (M (P 0)) N K (wlN (M (P 0)) N) q (f q)) → X x 21 [(0, .ref (g.1 144)), (1, .int a), (2, .int (nI ((wlN (M (P 0)) N).length))), (3, .int ((bst f i).1)), (4, .int (nI ((bst f i).2))), (5, .int (nI i))] [] W P := by
      intro fu
      induction fu with
      | zero => intro i f W hmu21; exact absurd hmu21 (Nat.not_lt_zero _)
      | succ fu ih21 =>
        intro i f W hmu21 hi hF hW6 hJs
        refine x_iload h 5 dX5_bestOrder_21 rfl ?_
        refine x_bipush h (nI 6) dX5_bestOrder_23 (by decide) ?_
        refine x_icmp_ge_n h 56 dX5_bestOrder_25 (by decide) (by first | omega | (have := bst_lt f i; omega)) (by decide) (fun c_25 => ?_) (fun c_25 => ?_)
        · -- 25 true
          refine x_iload_n h 1 dX5_bestOrder_56 rfl rfl ?_
          refine x_iconst h ((-1)) dX5_bestOrder_57 (by decide) ?_
          refine x_icmp_ne h 63 dX5_bestOrder_58 (by decide) (fun c_58 => ?_) (fun c_58 => ?_)
          · -- 58 true
            refine x_iload_n h 1 dX5_bestOrder_63 rfl rfl ?_
            refine x_iload_n h 2 dX5_bestOrder_64 rfl rfl ?_
            refine x_icmp_ge h 86 dX5_bestOrder_65 (by decide) (fun c_65 => ?_) (fun c_65 => ?_)
            · -- 65 true
              refine x_ldc h ((-1000004)) (by decide +kernel) dX5_bestOrder_86 ?_
              exact hret _ _ _ _ _ dX5_bestOrder_88 (by 
                                  obtain rfl : i = 6 := (by omega); refine ⟨rfl, hF, Or.inr ⟨by first | exact c_2 | exact Int32.not_lt.mpr c_2, f, hJs, ?_⟩⟩
                                  exact Or.inr ⟨c_58, Or.inl ⟨by first | exact c_65 | exact Int32.not_lt.mp c_65, rfl⟩⟩)
            · -- 65 false
              have ha0 : ¬ a < 0 := fun q => by have h1 := Int32.lt_iff_toInt_lt.mp q; have h2 : ¬ a.toInt < (-1 : Int32).toInt := fun z => (by first | exact c_2 (Int32.lt_iff_toInt_lt.mpr z) | exact absurd (Int32.lt_iff_toInt_lt.mpr z) (Int32.not_lt.mpr c_2)); have e1 : (-1 : Int32).toInt = -1 := rfl; have e0 : (0 : Int32).toInt = 0 := rfl; have h3 : a.toInt ≠ -1 := fun z => c_58 (Int32.toInt_inj.mp (by rw [z, e1])); omega
              obtain ⟨j, hj, rfl⟩ := nI_of ha0
              have hjl : j < (wlN (M (P 0)) N).length := by by_cases q : j < (wlN (M (P 0)) N).length; exact q; exact absurd (nI_le (a := (wlN (M (P 0)) N).length) (b := j) (by omega) hj) (by first | exact c_65 | exact Int32.not_le.mpr c_65)
              have hbl : (bst f i).2 < 6 := by have := bst_lt f i; omega
              have hol := ordC_lt (3 * (bst f i).2 + j)
              refine x_aload_n h 0 dX5_bestOrder_68 rfl rfl ?_
              refine xg_X5_3 h in_X5_bestOrder_X5 (by decide +kernel) dX5_bestOrder_69 ?_
              refine x_gets h (t := 2) h.2.1.2.1.2.2 (by decide +kernel) dX5_bestOrder_72 ?_
              refine x_iconst h (nI 3) dX5_bestOrder_75 (by decide) ?_
              refine x_iload h 4 dX5_bestOrder_76 rfl ?_
              refine x_imul_n h dX5_bestOrder_78 ?_
              refine x_iload_n h 1 dX5_bestOrder_79 rfl rfl ?_
              refine x_iadd_n h dX5_bestOrder_80 ?_
              refine x_ti h (j := (3 * ((bst f i).2)) + j) (nI (ordC ((3 * ((bst f i).2)) + j))) h.2.1.2.1.2.2.2 dX5_bestOrder_81 (by omega) (by decide) (ordC_v ⟨3 * (bst f i).2 + j, by omega⟩) ?_
              refine xl_146 h dX5_bestOrder_82 (by omega) ?_
              refine x_goto h 88 dX5_bestOrder_83 (by decide) ?_
              exact hret _ _ _ _ _ dX5_bestOrder_88 (by 
                                  obtain rfl : i = 6 := (by omega); refine ⟨rfl, hF, Or.inr ⟨by first | exact c_2 | exact Int32.not_lt.mpr c_2, f, hJs, ?_⟩⟩
                                  exact Or.inr ⟨c_58, Or.inr ⟨j, hjl, rfl, fun q => by rw [hW6]; exact hg3 _ q⟩⟩)
          · -- 58 false
            refine x_iload_n h 3 dX5_bestOrder_61 rfl rfl ?_
            exact hret _ _ _ _ _ dX5_bestOrder_62 (by 
                              obtain rfl : i = 6 := (by omega); refine ⟨rfl, hF, Or.inr ⟨by first | exact c_2 | exact Int32.not_lt.mpr c_2, f, hJs, ?_⟩⟩
                              exact Or.inl ⟨c_58, rfl⟩)
        · -- 25 false
          have hWn : W (P 0) = M (P 0) := hF (P 0) (fun e => absurd (hP.2 0 1 (by decide) (by decide) e) (by decide)) (by omega) (by omega)
          have hIW : InvC (W (P 0)) N K B := by rw [hWn]; exact hI
          refine x_aload_n h 0 dX5_bestOrder_28 rfl rfl ?_
          refine x_iload h 5 dX5_bestOrder_29 rfl ?_
          refine x_iload_n h 2 dX5_bestOrder_31 rfl rfl ?_
          refine x_callV h (As := [.int (nI i), .int (nI ((wlN (M (P 0)) N).length))]) 2 hx (c_X5_joinedByRow hP hIW (Nbr_cg ((hF 150 (by omega) (by decide) (by decide))) hNb) (L := (wlN (M (P 0)) N)) hW3 (fun a ha => wlN_lt ha) (fun q hq => by rw [hW6]; exact hg3 q hq) (by omega)) gX5_bestOrder_X5_joinedByRow rfl ⟨rfl, rfl⟩ (by decide +kernel) rfl (by decide) (by decide) E_144 rfl rfl (Nat.le_of_ble_eq_true rfl) dX5_bestOrder_32 (fun rv M32 P' hp => ?_)
          obtain ⟨rfl, hb1, hb2, hJ⟩ := hp
          rw [hWn] at hJ
          refine x_istore h [(6, .int rv), (0, .ref (g.1 144)), (1, .int a), (2, .int (nI ((wlN (M (P 0)) N).length))), (3, .int ((bst f i).1)), (4, .int (nI ((bst f i).2))), (5, .int (nI i))] dX5_bestOrder_35 (by decide) rfl ?_
          refine x_iload h 0 dX5_bestOrder_37 rfl ?_
          refine x_iload_n h 4 dX5_bestOrder_39 rfl rfl ?_
          refine x_icmp_le h 50 dX5_bestOrder_40 (by decide) (fun c_40 => ?_) (fun c_40 => ?_)
          · -- 40 true
            have hcg := bst_cg (f := f) (g := va_up f i rv) (n := i) (fun q hq => (va_up_n _ _ (by omega)).symm)
            have hb : bst f i = bst (va_up f i rv) (i + 1) := by rw [bst, ← hcg, va_up_k, if_pos (by first | exact c_40 | exact Int32.not_lt.mp c_40)]
            rw [hb]
            refine x_lv (lv' := [(6, .int rv), (0, .ref (g.1 144)), (1, .int a), (2, .int (nI ((wlN (M (P 0)) N).length))), (3, .int ((bst (va_up f i rv) (i + 1)).1)), (4, .int (nI ((bst (va_up f i rv) (i + 1)).2))), (5, .int (nI i))]) ?_ [0, 1, 2, 3, 4, 5, 6] rfl
            refine x_iinc_n h 6 (n := 1) [(5, .int (nI (i + 1))), (6, .int rv), (0, .ref (g.1 144)), (1, .int a), (2, .int (nI ((wlN (M (P 0)) N).length))), (3, .int ((bst (va_up f i rv) (i + 1)).1)), (4, .int (nI ((bst (va_up f i rv) (i + 1)).2)))] dX5_bestOrder_50 rfl (by decide) rfl ?_
            refine x_goto h 21 dX5_bestOrder_53 (by decide) ?_
            exact x_lv (ih21 (i + 1) (va_up f i rv) M32 (by omega) (by omega) (by exact fun k a b d => (hb1 k a b d).trans (hF k a b d)) (by exact hb2.trans hW6) (by intro q hq; by_cases e : q = i; subst e; rw [va_up_k]; exact hJ; rw [va_up_n _ _ e]; exact hJs q (by omega))) [2, 3, 4, 5, 6, 0] rfl
          · -- 40 false
            refine x_iload h 0 dX5_bestOrder_43 rfl ?_
            refine x_istore_n h [(3, .int rv), (6, .int rv), (0, .ref (g.1 144)), (1, .int a), (2, .int (nI ((wlN (M (P 0)) N).length))), (4, .int (nI ((bst f i).2))), (5, .int (nI i))] dX5_bestOrder_45 rfl (by decide) rfl ?_
            refine x_iload h 6 dX5_bestOrder_46 rfl ?_
            refine x_istore h [(4, .int (nI i)), (3, .int rv), (6, .int rv), (0, .ref (g.1 144)), (1, .int a), (2, .int (nI ((wlN (M (P 0)) N).length))), (5, .int (nI i))] dX5_bestOrder_48 (by decide) rfl ?_
            have hcg := bst_cg (f := f) (g := va_up f i rv) (n := i) (fun q hq => (va_up_n _ _ (by omega)).symm)
            have hb : (rv, i) = bst (va_up f i rv) (i + 1) := by rw [bst, ← hcg, va_up_k, if_neg (by first | exact c_40 | exact Int32.not_le.mpr c_40)]
            have hbA : rv = (bst (va_up f i rv) (i + 1)).1 := congrArg Prod.fst hb
            have hbB : i = (bst (va_up f i rv) (i + 1)).2 := congrArg Prod.snd hb
            refine x_lv (lv' := [(4, .int (nI ((rv, i) : Int32 × Nat).2)), (3, .int ((rv, i) : Int32 × Nat).1), (6, .int rv), (0, .ref (g.1 144)), (1, .int a), (2, .int (nI ((wlN (M (P 0)) N).length))), (5, .int (nI i))]) ?_ [0, 1, 2, 3, 4, 5, 6] rfl
            rw [hb]
            refine x_lv (lv' := [(4, .int (nI ((bst (va_up f i rv) (i + 1)).2))), (3, .int ((bst (va_up f i rv) (i + 1)).1)), (6, .int rv), (0, .ref (g.1 144)), (1, .int a), (2, .int (nI ((wlN (M (P 0)) N).length))), (5, .int (nI i))]) ?_ [0, 1, 2, 3, 4, 5, 6] rfl
            refine x_iinc_n h 6 (n := 1) [(5, .int (nI (i + 1))), (4, .int (nI ((bst (va_up f i rv) (i + 1)).2))), (3, .int ((bst (va_up f i rv) (i + 1)).1)), (6, .int rv), (0, .ref (g.1 144)), (1, .int a), (2, .int (nI ((wlN (M (P 0)) N).length)))] dX5_bestOrder_50 rfl (by decide) rfl ?_
            refine x_goto h 21 dX5_bestOrder_53 (by decide) ?_
            exact x_lv (ih21 (i + 1) (va_up f i rv) M32 (by omega) (by omega) (by exact fun k a b d => (hb1 k a b d).trans (hF k a b d)) (by exact hb2.trans hW6) (by intro q hq; by_cases e : q = i; subst e; rw [va_up_k]; exact hJ; rw [va_up_n _ _ e]; exact hJs q (by omega))) [4, 5, 6, 2, 1, 0] rfl
    exact x_lv (L21 _ 0 (fun _ => 0) M9 (Nat.lt_succ_self _) (by decide) (by exact fun k a b d => hg1 k b) (by rfl) (by exact fun q hq => absurd hq (Nat.not_lt_zero q))) [4, 5, 3, 2, 1, 0] rfl
  · -- 2 false
    refine x_ldc h ((-1000001)) (by decide +kernel) dX5_bestOrder_5 ?_
    exact hret _ _ _ _ _ dX5_bestOrder_7 (by exact ⟨rfl, fun k _ _ _ => rfl, Or.inl ⟨by first | exact c_2 | exact Int32.not_le.mp c_2, rfl⟩⟩)
