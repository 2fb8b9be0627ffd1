/-! the model: the best order -/
def rowM (mn od : Nat) : Nat := if mn = 3 then od else if mn = 2 then 2 * od else 0
def pmM (mn od k : Nat) : Nat := ordC (3 * rowM mn od + k)
def omx (n : Nat) : Nat := if n = 3 then 6 else if n = 2 then 2 else 1
abbrev OdR (mn od : Nat) : Prop := (mn = 3 ∧ od < 6) ∨ (mn = 2 ∧ od < 2) ∨ (mn = 1 ∧ od < 1)
theorem OdR_of {mn od : Nat} (h1 : 0 < mn) (h3 : mn ≤ 3) (h : od < omx mn) : OdR mn od := by
  unfold omx at h
  rcases (show mn = 1 ∨ mn = 2 ∨ mn = 3 by omega) with rfl | rfl | rfl
  · exact Or.inr (Or.inr ⟨rfl, h⟩)
  · exact Or.inr (Or.inl ⟨rfl, h⟩)
  · exact Or.inl ⟨rfl, h⟩
theorem pmM_all : ∀ mn : Fin 4, ∀ od : Fin 6, ∀ k : Fin 3, OdR mn.val od.val → k.val < mn.val → pmM mn.val od.val k.val < mn.val := by decide +kernel
theorem pmM_lt {mn od k : Nat} (h : OdR mn od) (hk : k < mn) : pmM mn od k < mn := pmM_all ⟨mn, by omega⟩ ⟨od, by omega⟩ ⟨k, by omega⟩ h hk
def bstM (f : Nat → Nat) : Nat → Nat × Nat
  | 0 => (0, 0)
  | i + 1 => if f i ≤ (bstM f i).1 then bstM f i else (f i, i)
theorem bstM_lt (f : Nat → Nat) : ∀ n, (bstM f n).2 < n ∨ (bstM f n).2 = 0
  | 0 => Or.inr rfl
  | n + 1 => by
    unfold bstM
    split
    · have := bstM_lt f n; omega
    · exact Or.inl (Nat.lt_succ_self n)
theorem bstM_cg {f g : Nat → Nat} : ∀ {n : Nat}, (∀ q, q < n → f q = g q) → bstM f n = bstM g n
  | 0, _ => rfl
  | n + 1, h => by
    unfold bstM
    rw [bstM_cg (n := n) (fun q hq => h q (by omega)), h n (by omega)]
theorem bstM_s {f : Nat → Nat} {o j most best : Nat} (h : bstM f o = (most, best)) (most2 best2 : Nat) (h2 : (j ≤ most ∧ most2 = most ∧ best2 = best) ∨ (most < j ∧ most2 = j ∧ best2 = o)) : bstM (fun q => if q = o then j else f q) (o + 1) = (most2, best2) := by
  have e : bstM (fun q => if q = o then j else f q) o = (most, best) := by
    rw [← h]; exact bstM_cg (fun q hq => if_neg (by omega))
  show (if (if o = o then j else f o) ≤ (bstM (fun q => if q = o then j else f q) o).1 then bstM (fun q => if q = o then j else f q) o else ((if o = o then j else f o), o)) = _
  rw [e, if_pos rfl]
  rcases h2 with ⟨g1, rfl, rfl⟩ | ⟨g1, rfl, rfl⟩
  · exact if_pos g1
  · exact if_neg (by show ¬ most2 ≤ most; omega)
def JMQ (S : Nat → Int32) (N : Nat) (L : List Nat) (o c : Nat) : Prop := ∃ Y X', (∀ j, j < 379 → Y j = S j) ∧ LayT eM N (fun i => L.getD (pmM L.length o i) 0) Y L.length c X'
def BOM (S : Nat → Int32) (N : Nat) (L : List Nat) (a r : Int32) : Prop := (a < -1 ∧ r = -1000001) ∨ (¬ a < -1 ∧ ((¬ a < nI L.length ∧ r = -1000004) ∨ (a < nI L.length ∧ ∃ f : Nat → Nat, (∀ o, o < omx L.length → JMQ S N L o (f o)) ∧ ((a < 0 ∧ r = nI (bstM f (omx L.length)).1) ∨ ∃ j, j < L.length ∧ a = nI j ∧ r = nI (L.getD (pmM L.length (bstM f (omx L.length)).2 j) 0)))))
theorem InvX_cg {e : Enc} {X Y : Nat → Int32} {N K B : Nat} (hE : EncG e) (hI : InvX e X N K B) (h : ∀ j, j < 379 → Y j = X j) : InvX e Y N K B := by
  have hN := hI.1.2.1
  have hK := hI.1.2.2.2.1
  exact InvX_u hE hI (fun j hj => h j (by omega)) (fun k hk t ht => h _ (by omega)) (fun i hi => ⟨h _ (by omega), h _ (by omega)⟩)
theorem wl_sM {W : Nat → Nat → Int32} {L : List Nat} {n : Nat} (h : ∀ i, i < L.length → W 167 i = nI (L.getD i 0)) : ∀ i, i < (L ++ [n]).length → st2 W 167 L.length (nI n) 167 i = nI ((L ++ [n]).getD i 0) := by
  intro i hi
  rw [List.length_append] at hi
  have hi : i < L.length + 1 := hi
  rw [st2_k]
  by_cases e : i = L.length
  · subst e; rw [pk_us]; simp
  · rw [pk_un e, h i (by omega)]
    congr 1
    simp only [List.getD_eq_getElem?_getD]
    rw [List.getElem?_append_left (by omega)]
def FrZ (M M' : Nat → Nat → Int32) : Prop := (∀ k, (k < 158 ∨ k = 160 ∨ k = 162 ∨ k = 163) → M' k = M k) ∧ ∀ j, j ≠ 11 → j ≠ 12 → j ≠ 13 → M' 158 j = M 158 j
theorem FrZ_tr {M M1 M2 : Nat → Nat → Int32} (h : FrZ M M1) (h2 : FrZ M1 M2) : FrZ M M2 := ⟨fun k hk => (h2.1 k hk).trans (h.1 k hk), fun j a b c => (h2.2 j a b c).trans (h.2 j a b c)⟩
theorem FrZ_L {M M1 : Nat → Nat → Int32} (h : FrL M M1) : FrZ M M1 := ⟨fun k hk => h.1 k (by omega), h.2⟩
theorem FrZ_v {M M1 : Nat → Nat → Int32} {q : Nat} (Y : Nat → Int32) (hq : q = 159 ∨ q = 161 ∨ q = 167) (h : FrZ M M1) : FrZ M (va_up M1 q Y) := ⟨fun k hk => (va_up_n _ _ (by omega)).trans (h.1 k hk), fun j a b c => by rw [va_up_n _ _ (by omega)]; exact h.2 j a b c⟩
theorem FrZ_1 {M M1 : Nat → Nat → Int32} (h : ∀ k, k ≠ 167 → M1 k = M k) : FrZ M M1 := ⟨fun k hk => h k (by omega), fun j _ _ _ => by rw [h 158 (by decide)]⟩

theorem wlN_fin {X : Nat → Int32} {n N : Nat} (hn : n ≤ N) (h : N ≤ n ∨ 3 ≤ (wlN X n).length) : wlN X N = wlN X n := by
  rcases h with h | h
  · rw [show N = n by omega]
  · exact wlN_end h hn
theorem FrZ_s {M M1 : Nat → Nat → Int32} {q : Nat} (j : Nat) (v : Int32) (hq : q = 159 ∨ q = 161 ∨ q = 167) (h : FrZ M M1) : FrZ M (st2 M1 q j v) := by rw [st2_va]; exact FrZ_v _ hq h

theorem omx_6 (n : Nat) : omx n ≤ 6 := by unfold omx; split <;> (try split) <;> omega
theorem JMQ_3 {S : Nat → Int32} {N : Nat} {L : List Nat} {o c : Nat} (hL : L.length ≤ 3) (h : JMQ S N L o c) : c ≤ 3 := by
  obtain ⟨Y, X', -, h⟩ := h
  have := LayT_le h
  omega
theorem bstM_3 {f : Nat → Nat} : ∀ {n : Nat}, (∀ q, q < n → f q ≤ 3) → (bstM f n).1 ≤ 3
  | 0, _ => Nat.zero_le _
  | n + 1, h => by
    unfold bstM
    split
    · exact bstM_3 (fun q hq => h q (by omega))
    · exact h n (Nat.lt_succ_self n)

theorem FrZ_rf (M : Nat → Nat → Int32) : FrZ M M := ⟨fun _ _ => rfl, fun _ _ _ _ => rfl⟩

theorem dX6_ordered_0 : decode cX6_ordered 0 = .ok (.iconst 0, 1) := by decide +kernel
theorem dX6_ordered_1 : decode cX6_ordered 1 = .ok (.istore 4, 2) := by decide +kernel
theorem dX6_ordered_3 : decode cX6_ordered 3 = .ok (.iload_n 1, 1) := by decide +kernel
theorem dX6_ordered_4 : decode cX6_ordered 4 = .ok (.istore 5, 2) := by decide +kernel
theorem dX6_ordered_6 : decode cX6_ordered 6 = .ok (.iconst 0, 1) := by decide +kernel
theorem dX6_ordered_7 : decode cX6_ordered 7 = .ok (.istore 6, 2) := by decide +kernel
theorem dX6_ordered_9 : decode cX6_ordered 9 = .ok (.iconst 0, 1) := by decide +kernel
theorem dX6_ordered_10 : decode cX6_ordered 10 = .ok (.istore 7, 2) := by decide +kernel
theorem dX6_ordered_12 : decode cX6_ordered 12 = .ok (.iload 7, 2) := by decide +kernel
theorem dX6_ordered_14 : decode cX6_ordered 14 = .ok (.iload_n 3, 1) := by decide +kernel
theorem dX6_ordered_15 : decode cX6_ordered 15 = .ok (.if_icmp .gt 95, 3) := by decide +kernel
theorem dX6_ordered_18 : decode cX6_ordered 18 = .ok (.iload_n 2, 1) := by decide +kernel
theorem dX6_ordered_19 : decode cX6_ordered 19 = .ok (.iconst 1, 1) := by decide +kernel
theorem dX6_ordered_20 : decode cX6_ordered 20 = .ok (.isub, 1) := by decide +kernel
theorem dX6_ordered_21 : decode cX6_ordered 21 = .ok (.iload 7, 2) := by decide +kernel
theorem dX6_ordered_23 : decode cX6_ordered 23 = .ok (.isub, 1) := by decide +kernel
theorem dX6_ordered_24 : decode cX6_ordered 24 = .ok (.iconst 2, 1) := by decide +kernel
theorem dX6_ordered_25 : decode cX6_ordered 25 = .ok (.if_icmp .ne 7, 3) := by decide +kernel
theorem dX6_ordered_28 : decode cX6_ordered 28 = .ok (.iconst 2, 1) := by decide +kernel
theorem dX6_ordered_29 : decode cX6_ordered 29 = .ok (.goto 4, 3) := by decide +kernel
theorem dX6_ordered_32 : decode cX6_ordered 32 = .ok (.iconst 1, 1) := by decide +kernel
theorem dX6_ordered_33 : decode cX6_ordered 33 = .ok (.istore 8, 2) := by decide +kernel
theorem dX6_ordered_35 : decode cX6_ordered 35 = .ok (.iload 5, 2) := by decide +kernel
theorem dX6_ordered_37 : decode cX6_ordered 37 = .ok (.iload 8, 2) := by decide +kernel
theorem dX6_ordered_39 : decode cX6_ordered 39 = .ok (.idiv, 1) := by decide +kernel
theorem dX6_ordered_40 : decode cX6_ordered 40 = .ok (.istore 9, 2) := by decide +kernel
theorem dX6_ordered_42 : decode cX6_ordered 42 = .ok (.iload 5, 2) := by decide +kernel
theorem dX6_ordered_44 : decode cX6_ordered 44 = .ok (.iload 8, 2) := by decide +kernel
theorem dX6_ordered_46 : decode cX6_ordered 46 = .ok (.irem, 1) := by decide +kernel
theorem dX6_ordered_47 : decode cX6_ordered 47 = .ok (.istore 5, 2) := by decide +kernel
theorem dX6_ordered_49 : decode cX6_ordered 49 = .ok (.iconst 0, 1) := by decide +kernel
theorem dX6_ordered_50 : decode cX6_ordered 50 = .ok (.istore 6, 2) := by decide +kernel
theorem dX6_ordered_52 : decode cX6_ordered 52 = .ok (.iload 4, 2) := by decide +kernel
theorem dX6_ordered_54 : decode cX6_ordered 54 = .ok (.iload 6, 2) := by decide +kernel
theorem dX6_ordered_56 : decode cX6_ordered 56 = .ok (.ishr, 1) := by decide +kernel
theorem dX6_ordered_57 : decode cX6_ordered 57 = .ok (.iconst 1, 1) := by decide +kernel
theorem dX6_ordered_58 : decode cX6_ordered 58 = .ok (.iand, 1) := by decide +kernel
theorem dX6_ordered_59 : decode cX6_ordered 59 = .ok (.iconst 1, 1) := by decide +kernel
theorem dX6_ordered_60 : decode cX6_ordered 60 = .ok (.if_icmp .eq 8, 3) := by decide +kernel
theorem dX6_ordered_63 : decode cX6_ordered 63 = .ok (.iload 9, 2) := by decide +kernel
theorem dX6_ordered_65 : decode cX6_ordered 65 = .ok (.ifCond .le 30, 3) := by decide +kernel
theorem dX6_ordered_68 : decode cX6_ordered 68 = .ok (.iload 9, 2) := by decide +kernel
theorem dX6_ordered_70 : decode cX6_ordered 70 = .ok (.iload 4, 2) := by decide +kernel
theorem dX6_ordered_72 : decode cX6_ordered 72 = .ok (.iload 6, 2) := by decide +kernel
theorem dX6_ordered_74 : decode cX6_ordered 74 = .ok (.ishr, 1) := by decide +kernel
theorem dX6_ordered_75 : decode cX6_ordered 75 = .ok (.iconst 1, 1) := by decide +kernel
theorem dX6_ordered_76 : decode cX6_ordered 76 = .ok (.iand, 1) := by decide +kernel
theorem dX6_ordered_77 : decode cX6_ordered 77 = .ok (.iconst 1, 1) := by decide +kernel
theorem dX6_ordered_78 : decode cX6_ordered 78 = .ok (.if_icmp .ne 7, 3) := by decide +kernel
theorem dX6_ordered_81 : decode cX6_ordered 81 = .ok (.iconst 0, 1) := by decide +kernel
theorem dX6_ordered_82 : decode cX6_ordered 82 = .ok (.goto 4, 3) := by decide +kernel
theorem dX6_ordered_85 : decode cX6_ordered 85 = .ok (.iconst 1, 1) := by decide +kernel
theorem dX6_ordered_86 : decode cX6_ordered 86 = .ok (.isub, 1) := by decide +kernel
theorem dX6_ordered_87 : decode cX6_ordered 87 = .ok (.istore 9, 2) := by decide +kernel
theorem dX6_ordered_89 : decode cX6_ordered 89 = .ok (.iinc 6 1, 3) := by decide +kernel
theorem dX6_ordered_92 : decode cX6_ordered 92 = .ok (.goto (-40), 3) := by decide +kernel
theorem dX6_ordered_95 : decode cX6_ordered 95 = .ok (.iload 4, 2) := by decide +kernel
theorem dX6_ordered_97 : decode cX6_ordered 97 = .ok (.iconst 1, 1) := by decide +kernel
theorem dX6_ordered_98 : decode cX6_ordered 98 = .ok (.iload 6, 2) := by decide +kernel
theorem dX6_ordered_100 : decode cX6_ordered 100 = .ok (.ishl, 1) := by decide +kernel
theorem dX6_ordered_101 : decode cX6_ordered 101 = .ok (.ior, 1) := by decide +kernel
theorem dX6_ordered_102 : decode cX6_ordered 102 = .ok (.istore 4, 2) := by decide +kernel
theorem dX6_ordered_104 : decode cX6_ordered 104 = .ok (.iinc 7 1, 3) := by decide +kernel
theorem dX6_ordered_107 : decode cX6_ordered 107 = .ok (.goto (-95), 3) := by decide +kernel
theorem dX6_ordered_110 : decode cX6_ordered 110 = .ok (.aload_n 0, 1) := by decide +kernel
theorem dX6_ordered_111 : decode cX6_ordered 111 = .ok (.getfield 35, 3) := by decide +kernel
theorem dX6_ordered_114 : decode cX6_ordered 114 = .ok (.iload 6, 2) := by decide +kernel
theorem dX6_ordered_116 : decode cX6_ordered 116 = .ok (.iaload, 1) := by decide +kernel
theorem dX6_ordered_117 : decode cX6_ordered 117 = .ok (.ireturn, 1) := by decide +kernel
abbrev rmX6_ordered : Room := { frames := 0, cells := 0, slots := 0, locals := 0 }
set_option maxRecDepth 20000 in
theorem in_X6_ordered_X6 : ∀ w ∈ wsX60, w ∈ wsX6_ordered := by decide +kernel

set_option maxRecDepth 100000 in
set_option maxHeartbeats 4000000 in
theorem c_X6_ordered_100 {l : Launch} {g : Geo} {M : Nat → Nat → Int32} {P : Nat → Nat}  : Met l yX6_ordered wsX6_ordered rmX6_ordered (cPre g [.ref (g.1 158), .int (nI 0), .int (nI 1), .int (nI 0)] M P) (cQi g (fun r M' P' => (P = P' ∧ M = M') ∧ r = M 167 (pmM 1 0 0))) 0 0 (gA g) := by
  refine met_i (cc := cX6_ordered) (maxL := 10) (by decide) rfl ⟨rfl, rfl⟩ (Nat.le_of_ble_eq_true rfl) (fun x hx h hret => ?_)
  replace h : Cxk x g cX6_ordered 10 wsX6_ordered RX6 rmX6_ordered := h
  show X x 0 [(0, .ref (g.1 158)), (1, .int (nI 0)), (2, .int (nI 1)), (3, .int (nI 0))] [] M P
  refine x_iconst h (nI 0) dX6_ordered_0 (by decide) ?_
  refine x_istore h [(4, .int (nI 0)), (0, .ref (g.1 158)), (1, .int (nI 0)), (2, .int (nI 1)), (3, .int (nI 0))] dX6_ordered_1 (by decide) rfl ?_
  refine x_iload_n h 2 dX6_ordered_3 rfl rfl ?_
  refine x_istore h [(5, .int (nI 0)), (4, .int (nI 0)), (0, .ref (g.1 158)), (1, .int (nI 0)), (2, .int (nI 1)), (3, .int (nI 0))] dX6_ordered_4 (by decide) rfl ?_
  refine x_iconst h (nI 0) dX6_ordered_6 (by decide) ?_
  refine x_istore h [(6, .int (nI 0)), (5, .int (nI 0)), (4, .int (nI 0)), (0, .ref (g.1 158)), (1, .int (nI 0)), (2, .int (nI 1)), (3, .int (nI 0))] dX6_ordered_7 (by decide) rfl ?_
  refine x_iconst h (nI 0) dX6_ordered_9 (by decide) ?_
  refine x_istore h [(7, .int (nI 0)), (6, .int (nI 0)), (5, .int (nI 0)), (4, .int (nI 0)), (0, .ref (g.1 158)), (1, .int (nI 0)), (2, .int (nI 1)), (3, .int (nI 0))] dX6_ordered_10 (by decide) rfl ?_
  refine x_iload h 0 dX6_ordered_12 rfl ?_
  refine x_iload_n h 7 dX6_ordered_14 rfl rfl ?_
  refine x_icmp_gt h 110 dX6_ordered_15 (by decide) (fun c => absurd c (by decide)) (fun _ => ?_)
  refine x_iload_n h 6 dX6_ordered_18 rfl rfl ?_
  refine x_iconst h (nI 1) dX6_ordered_19 (by decide) ?_
  refine x_isub h dX6_ordered_20 ?_
  refine x_top (nI 0) (by decide) ?_
  refine x_iload h 0 dX6_ordered_21 rfl ?_
  refine x_isub h dX6_ordered_23 ?_
  refine x_top (nI 0) (by decide) ?_
  refine x_iconst h (nI 2) dX6_ordered_24 (by decide) ?_
  refine x_icmp_ne h 32 dX6_ordered_25 (by decide) (fun _ => ?_) (fun c => absurd c (by decide))
  refine x_iconst h (nI 1) dX6_ordered_32 (by decide) ?_
  refine x_istore h [(8, .int (nI 1)), (7, .int (nI 0)), (6, .int (nI 0)), (5, .int (nI 0)), (4, .int (nI 0)), (0, .ref (g.1 158)), (1, .int (nI 0)), (2, .int (nI 1)), (3, .int (nI 0))] dX6_ordered_33 (by decide) rfl ?_
  refine x_iload h 3 dX6_ordered_35 rfl ?_
  refine x_iload h 0 dX6_ordered_37 rfl ?_
  refine x_idiv h dX6_ordered_39 (by decide) ?_
  refine x_top (nI 0) (by decide) ?_
  refine x_istore h [(9, .int (nI 0)), (8, .int (nI 1)), (7, .int (nI 0)), (6, .int (nI 0)), (5, .int (nI 0)), (4, .int (nI 0)), (0, .ref (g.1 158)), (1, .int (nI 0)), (2, .int (nI 1)), (3, .int (nI 0))] dX6_ordered_40 (by decide) rfl ?_
  refine x_iload h 4 dX6_ordered_42 rfl ?_
  refine x_iload h 1 dX6_ordered_44 rfl ?_
  refine x_irem h dX6_ordered_46 (by decide) ?_
  refine x_top (nI 0) (by decide) ?_
  refine x_istore h [(5, .int (nI 0)), (9, .int (nI 0)), (8, .int (nI 1)), (7, .int (nI 0)), (6, .int (nI 0)), (4, .int (nI 0)), (0, .ref (g.1 158)), (1, .int (nI 0)), (2, .int (nI 1)), (3, .int (nI 0))] dX6_ordered_47 (by decide) rfl ?_
  refine x_iconst h (nI 0) dX6_ordered_49 (by decide) ?_
  refine x_istore h [(6, .int (nI 0)), (5, .int (nI 0)), (9, .int (nI 0)), (8, .int (nI 1)), (7, .int (nI 0)), (4, .int (nI 0)), (0, .ref (g.1 158)), (1, .int (nI 0)), (2, .int (nI 1)), (3, .int (nI 0))] dX6_ordered_50 (by decide) rfl ?_
  refine x_iload h 5 dX6_ordered_52 rfl ?_
  refine x_iload h 0 dX6_ordered_54 rfl ?_
  refine x_ishr h dX6_ordered_56 ?_
  refine x_top (nI 0) (by decide) ?_
  refine x_iconst h (nI 1) dX6_ordered_57 (by decide) ?_
  refine x_iand h dX6_ordered_58 ?_
  refine x_top (nI 0) (by decide) ?_
  refine x_iconst h (nI 1) dX6_ordered_59 (by decide) ?_
  refine x_icmp_eq h 68 dX6_ordered_60 (by decide) (fun c => absurd c (by decide)) (fun _ => ?_)
  refine x_iload h 2 dX6_ordered_63 rfl ?_
  refine x_if_le h 95 dX6_ordered_65 (by decide) (fun _ => ?_) (fun c => absurd (by decide) c)
  refine x_iload h 5 dX6_ordered_95 rfl ?_
  refine x_iconst h (nI 1) dX6_ordered_97 (by decide) ?_
  refine x_iload h 0 dX6_ordered_98 rfl ?_
  refine x_ishl h dX6_ordered_100 ?_
  refine x_top (nI 1) (by decide) ?_
  refine x_ior h dX6_ordered_101 ?_
  refine x_top (nI 1) (by decide) ?_
  refine x_istore h [(4, .int (nI 1)), (6, .int (nI 0)), (5, .int (nI 0)), (9, .int (nI 0)), (8, .int (nI 1)), (7, .int (nI 0)), (0, .ref (g.1 158)), (1, .int (nI 0)), (2, .int (nI 1)), (3, .int (nI 0))] dX6_ordered_102 (by decide) rfl ?_
  refine x_iinc_n h 5 (n := 1) [(7, .int (nI 1)), (4, .int (nI 1)), (6, .int (nI 0)), (5, .int (nI 0)), (9, .int (nI 0)), (8, .int (nI 1)), (0, .ref (g.1 158)), (1, .int (nI 0)), (2, .int (nI 1)), (3, .int (nI 0))] dX6_ordered_104 rfl (by decide) rfl ?_
  refine x_goto h 12 dX6_ordered_107 (by decide) ?_
  refine x_iload h 0 dX6_ordered_12 rfl ?_
  refine x_iload_n h 9 dX6_ordered_14 rfl rfl ?_
  refine x_icmp_gt h 110 dX6_ordered_15 (by decide) (fun _ => ?_) (fun c => absurd (by decide) c)
  refine x_aload_n h 6 dX6_ordered_110 rfl rfl ?_
  refine xg_X6_14 h in_X6_ordered_X6 (by decide +kernel) dX6_ordered_111 ?_
  refine x_iload h 2 dX6_ordered_114 rfl ?_
  refine xl_167 h dX6_ordered_116 (by decide) ?_
  exact hret _ _ _ _ _ dX6_ordered_117 (by exact ⟨⟨rfl, rfl⟩, congrArg (M 167) (by decide)⟩)

set_option maxRecDepth 100000 in
set_option maxHeartbeats 4000000 in
theorem c_X6_ordered_200 {l : Launch} {g : Geo} {M : Nat → Nat → Int32} {P : Nat → Nat}  : Met l yX6_ordered wsX6_ordered rmX6_ordered (cPre g [.ref (g.1 158), .int (nI 0), .int (nI 2), .int (nI 0)] M P) (cQi g (fun r M' P' => (P = P' ∧ M = M') ∧ r = M 167 (pmM 2 0 0))) 0 0 (gA g) := by
  refine met_i (cc := cX6_ordered) (maxL := 10) (by decide) rfl ⟨rfl, rfl⟩ (Nat.le_of_ble_eq_true rfl) (fun x hx h hret => ?_)
  replace h : Cxk x g cX6_ordered 10 wsX6_ordered RX6 rmX6_ordered := h
  show X x 0 [(0, .ref (g.1 158)), (1, .int (nI 0)), (2, .int (nI 2)), (3, .int (nI 0))] [] M P
  refine x_iconst h (nI 0) dX6_ordered_0 (by decide) ?_
  refine x_istore h [(4, .int (nI 0)), (0, .ref (g.1 158)), (1, .int (nI 0)), (2, .int (nI 2)), (3, .int (nI 0))] dX6_ordered_1 (by decide) rfl ?_
  refine x_iload_n h 2 dX6_ordered_3 rfl rfl ?_
  refine x_istore h [(5, .int (nI 0)), (4, .int (nI 0)), (0, .ref (g.1 158)), (1, .int (nI 0)), (2, .int (nI 2)), (3, .int (nI 0))] dX6_ordered_4 (by decide) rfl ?_
  refine x_iconst h (nI 0) dX6_ordered_6 (by decide) ?_
  refine x_istore h [(6, .int (nI 0)), (5, .int (nI 0)), (4, .int (nI 0)), (0, .ref (g.1 158)), (1, .int (nI 0)), (2, .int (nI 2)), (3, .int (nI 0))] dX6_ordered_7 (by decide) rfl ?_
  refine x_iconst h (nI 0) dX6_ordered_9 (by decide) ?_
  refine x_istore h [(7, .int (nI 0)), (6, .int (nI 0)), (5, .int (nI 0)), (4, .int (nI 0)), (0, .ref (g.1 158)), (1, .int (nI 0)), (2, .int (nI 2)), (3, .int (nI 0))] dX6_ordered_10 (by decide) rfl ?_
  refine x_iload h 0 dX6_ordered_12 rfl ?_
  refine x_iload_n h 7 dX6_ordered_14 rfl rfl ?_
  refine x_icmp_gt h 110 dX6_ordered_15 (by decide) (fun c => absurd c (by decide)) (fun _ => ?_)
  refine x_iload_n h 6 dX6_ordered_18 rfl rfl ?_
  refine x_iconst h (nI 1) dX6_ordered_19 (by decide) ?_
  refine x_isub h dX6_ordered_20 ?_
  refine x_top (nI 1) (by decide) ?_
  refine x_iload h 0 dX6_ordered_21 rfl ?_
  refine x_isub h dX6_ordered_23 ?_
  refine x_top (nI 1) (by decide) ?_
  refine x_iconst h (nI 2) dX6_ordered_24 (by decide) ?_
  refine x_icmp_ne h 32 dX6_ordered_25 (by decide) (fun _ => ?_) (fun c => absurd c (by decide))
  refine x_iconst h (nI 1) dX6_ordered_32 (by decide) ?_
  refine x_istore h [(8, .int (nI 1)), (7, .int (nI 0)), (6, .int (nI 0)), (5, .int (nI 0)), (4, .int (nI 0)), (0, .ref (g.1 158)), (1, .int (nI 0)), (2, .int (nI 2)), (3, .int (nI 0))] dX6_ordered_33 (by decide) rfl ?_
  refine x_iload h 3 dX6_ordered_35 rfl ?_
  refine x_iload h 0 dX6_ordered_37 rfl ?_
  refine x_idiv h dX6_ordered_39 (by decide) ?_
  refine x_top (nI 0) (by decide) ?_
  refine x_istore h [(9, .int (nI 0)), (8, .int (nI 1)), (7, .int (nI 0)), (6, .int (nI 0)), (5, .int (nI 0)), (4, .int (nI 0)), (0, .ref (g.1 158)), (1, .int (nI 0)), (2, .int (nI 2)), (3, .int (nI 0))] dX6_ordered_40 (by decide) rfl ?_
  refine x_iload h 4 dX6_ordered_42 rfl ?_
  refine x_iload h 1 dX6_ordered_44 rfl ?_
  refine x_irem h dX6_ordered_46 (by decide) ?_
  refine x_top (nI 0) (by decide) ?_
  refine x_istore h [(5, .int (nI 0)), (9, .int (nI 0)), (8, .int (nI 1)), (7, .int (nI 0)), (6, .int (nI 0)), (4, .int (nI 0)), (0, .ref (g.1 158)), (1, .int (nI 0)), (2, .int (nI 2)), (3, .int (nI 0))] dX6_ordered_47 (by decide) rfl ?_
  refine x_iconst h (nI 0) dX6_ordered_49 (by decide) ?_
  refine x_istore h [(6, .int (nI 0)), (5, .int (nI 0)), (9, .int (nI 0)), (8, .int (nI 1)), (7, .int (nI 0)), (4, .int (nI 0)), (0, .ref (g.1 158)), (1, .int (nI 0)), (2, .int (nI 2)), (3, .int (nI 0))] dX6_ordered_50 (by decide) rfl ?_
  refine x_iload h 5 dX6_ordered_52 rfl ?_
  refine x_iload h 0 dX6_ordered_54 rfl ?_
  refine x_ishr h dX6_ordered_56 ?_
  refine x_top (nI 0) (by decide) ?_
  refine x_iconst h (nI 1) dX6_ordered_57 (by decide) ?_
  refine x_iand h dX6_ordered_58 ?_
  refine x_top (nI 0) (by decide) ?_
  refine x_iconst h (nI 1) dX6_ordered_59 (by decide) ?_
  refine x_icmp_eq h 68 dX6_ordered_60 (by decide) (fun c => absurd c (by decide)) (fun _ => ?_)
  refine x_iload h 2 dX6_ordered_63 rfl ?_
  refine x_if_le h 95 dX6_ordered_65 (by decide) (fun _ => ?_) (fun c => absurd (by decide) c)
  refine x_iload h 5 dX6_ordered_95 rfl ?_
  refine x_iconst h (nI 1) dX6_ordered_97 (by decide) ?_
  refine x_iload h 0 dX6_ordered_98 rfl ?_
  refine x_ishl h dX6_ordered_100 ?_
  refine x_top (nI 1) (by decide) ?_
  refine x_ior h dX6_ordered_101 ?_
  refine x_top (nI 1) (by decide) ?_
  refine x_istore h [(4, .int (nI 1)), (6, .int (nI 0)), (5, .int (nI 0)), (9, .int (nI 0)), (8, .int (nI 1)), (7, .int (nI 0)), (0, .ref (g.1 158)), (1, .int (nI 0)), (2, .int (nI 2)), (3, .int (nI 0))] dX6_ordered_102 (by decide) rfl ?_
  refine x_iinc_n h 5 (n := 1) [(7, .int (nI 1)), (4, .int (nI 1)), (6, .int (nI 0)), (5, .int (nI 0)), (9, .int (nI 0)), (8, .int (nI 1)), (0, .ref (g.1 158)), (1, .int (nI 0)), (2, .int (nI 2)), (3, .int (nI 0))] dX6_ordered_104 rfl (by decide) rfl ?_
  refine x_goto h 12 dX6_ordered_107 (by decide) ?_
  refine x_iload h 0 dX6_ordered_12 rfl ?_
  refine x_iload_n h 9 dX6_ordered_14 rfl rfl ?_
  refine x_icmp_gt h 110 dX6_ordered_15 (by decide) (fun _ => ?_) (fun c => absurd (by decide) c)
  refine x_aload_n h 6 dX6_ordered_110 rfl rfl ?_
  refine xg_X6_14 h in_X6_ordered_X6 (by decide +kernel) dX6_ordered_111 ?_
  refine x_iload h 2 dX6_ordered_114 rfl ?_
  refine xl_167 h dX6_ordered_116 (by decide) ?_
  exact hret _ _ _ _ _ dX6_ordered_117 (by exact ⟨⟨rfl, rfl⟩, congrArg (M 167) (by decide)⟩)

set_option maxRecDepth 100000 in
set_option maxHeartbeats 4000000 in
theorem c_X6_ordered_201 {l : Launch} {g : Geo} {M : Nat → Nat → Int32} {P : Nat → Nat}  : Met l yX6_ordered wsX6_ordered rmX6_ordered (cPre g [.ref (g.1 158), .int (nI 0), .int (nI 2), .int (nI 1)] M P) (cQi g (fun r M' P' => (P = P' ∧ M = M') ∧ r = M 167 (pmM 2 0 1))) 0 0 (gA g) := by
  refine met_i (cc := cX6_ordered) (maxL := 10) (by decide) rfl ⟨rfl, rfl⟩ (Nat.le_of_ble_eq_true rfl) (fun x hx h hret => ?_)
  replace h : Cxk x g cX6_ordered 10 wsX6_ordered RX6 rmX6_ordered := h
  show X x 0 [(0, .ref (g.1 158)), (1, .int (nI 0)), (2, .int (nI 2)), (3, .int (nI 1))] [] M P
  refine x_iconst h (nI 0) dX6_ordered_0 (by decide) ?_
  refine x_istore h [(4, .int (nI 0)), (0, .ref (g.1 158)), (1, .int (nI 0)), (2, .int (nI 2)), (3, .int (nI 1))] dX6_ordered_1 (by decide) rfl ?_
  refine x_iload_n h 2 dX6_ordered_3 rfl rfl ?_
  refine x_istore h [(5, .int (nI 0)), (4, .int (nI 0)), (0, .ref (g.1 158)), (1, .int (nI 0)), (2, .int (nI 2)), (3, .int (nI 1))] dX6_ordered_4 (by decide) rfl ?_
  refine x_iconst h (nI 0) dX6_ordered_6 (by decide) ?_
  refine x_istore h [(6, .int (nI 0)), (5, .int (nI 0)), (4, .int (nI 0)), (0, .ref (g.1 158)), (1, .int (nI 0)), (2, .int (nI 2)), (3, .int (nI 1))] dX6_ordered_7 (by decide) rfl ?_
  refine x_iconst h (nI 0) dX6_ordered_9 (by decide) ?_
  refine x_istore h [(7, .int (nI 0)), (6, .int (nI 0)), (5, .int (nI 0)), (4, .int (nI 0)), (0, .ref (g.1 158)), (1, .int (nI 0)), (2, .int (nI 2)), (3, .int (nI 1))] dX6_ordered_10 (by decide) rfl ?_
  refine x_iload h 0 dX6_ordered_12 rfl ?_
  refine x_iload_n h 7 dX6_ordered_14 rfl rfl ?_
  refine x_icmp_gt h 110 dX6_ordered_15 (by decide) (fun c => absurd c (by decide)) (fun _ => ?_)
  refine x_iload_n h 6 dX6_ordered_18 rfl rfl ?_
  refine x_iconst h (nI 1) dX6_ordered_19 (by decide) ?_
  refine x_isub h dX6_ordered_20 ?_
  refine x_top (nI 1) (by decide) ?_
  refine x_iload h 0 dX6_ordered_21 rfl ?_
  refine x_isub h dX6_ordered_23 ?_
  refine x_top (nI 1) (by decide) ?_
  refine x_iconst h (nI 2) dX6_ordered_24 (by decide) ?_
  refine x_icmp_ne h 32 dX6_ordered_25 (by decide) (fun _ => ?_) (fun c => absurd c (by decide))
  refine x_iconst h (nI 1) dX6_ordered_32 (by decide) ?_
  refine x_istore h [(8, .int (nI 1)), (7, .int (nI 0)), (6, .int (nI 0)), (5, .int (nI 0)), (4, .int (nI 0)), (0, .ref (g.1 158)), (1, .int (nI 0)), (2, .int (nI 2)), (3, .int (nI 1))] dX6_ordered_33 (by decide) rfl ?_
  refine x_iload h 3 dX6_ordered_35 rfl ?_
  refine x_iload h 0 dX6_ordered_37 rfl ?_
  refine x_idiv h dX6_ordered_39 (by decide) ?_
  refine x_top (nI 0) (by decide) ?_
  refine x_istore h [(9, .int (nI 0)), (8, .int (nI 1)), (7, .int (nI 0)), (6, .int (nI 0)), (5, .int (nI 0)), (4, .int (nI 0)), (0, .ref (g.1 158)), (1, .int (nI 0)), (2, .int (nI 2)), (3, .int (nI 1))] dX6_ordered_40 (by decide) rfl ?_
  refine x_iload h 4 dX6_ordered_42 rfl ?_
  refine x_iload h 1 dX6_ordered_44 rfl ?_
  refine x_irem h dX6_ordered_46 (by decide) ?_
  refine x_top (nI 0) (by decide) ?_
  refine x_istore h [(5, .int (nI 0)), (9, .int (nI 0)), (8, .int (nI 1)), (7, .int (nI 0)), (6, .int (nI 0)), (4, .int (nI 0)), (0, .ref (g.1 158)), (1, .int (nI 0)), (2, .int (nI 2)), (3, .int (nI 1))] dX6_ordered_47 (by decide) rfl ?_
  refine x_iconst h (nI 0) dX6_ordered_49 (by decide) ?_
  refine x_istore h [(6, .int (nI 0)), (5, .int (nI 0)), (9, .int (nI 0)), (8, .int (nI 1)), (7, .int (nI 0)), (4, .int (nI 0)), (0, .ref (g.1 158)), (1, .int (nI 0)), (2, .int (nI 2)), (3, .int (nI 1))] dX6_ordered_50 (by decide) rfl ?_
  refine x_iload h 5 dX6_ordered_52 rfl ?_
  refine x_iload h 0 dX6_ordered_54 rfl ?_
  refine x_ishr h dX6_ordered_56 ?_
  refine x_top (nI 0) (by decide) ?_
  refine x_iconst h (nI 1) dX6_ordered_57 (by decide) ?_
  refine x_iand h dX6_ordered_58 ?_
  refine x_top (nI 0) (by decide) ?_
  refine x_iconst h (nI 1) dX6_ordered_59 (by decide) ?_
  refine x_icmp_eq h 68 dX6_ordered_60 (by decide) (fun c => absurd c (by decide)) (fun _ => ?_)
  refine x_iload h 2 dX6_ordered_63 rfl ?_
  refine x_if_le h 95 dX6_ordered_65 (by decide) (fun _ => ?_) (fun c => absurd (by decide) c)
  refine x_iload h 5 dX6_ordered_95 rfl ?_
  refine x_iconst h (nI 1) dX6_ordered_97 (by decide) ?_
  refine x_iload h 0 dX6_ordered_98 rfl ?_
  refine x_ishl h dX6_ordered_100 ?_
  refine x_top (nI 1) (by decide) ?_
  refine x_ior h dX6_ordered_101 ?_
  refine x_top (nI 1) (by decide) ?_
  refine x_istore h [(4, .int (nI 1)), (6, .int (nI 0)), (5, .int (nI 0)), (9, .int (nI 0)), (8, .int (nI 1)), (7, .int (nI 0)), (0, .ref (g.1 158)), (1, .int (nI 0)), (2, .int (nI 2)), (3, .int (nI 1))] dX6_ordered_102 (by decide) rfl ?_
  refine x_iinc_n h 5 (n := 1) [(7, .int (nI 1)), (4, .int (nI 1)), (6, .int (nI 0)), (5, .int (nI 0)), (9, .int (nI 0)), (8, .int (nI 1)), (0, .ref (g.1 158)), (1, .int (nI 0)), (2, .int (nI 2)), (3, .int (nI 1))] dX6_ordered_104 rfl (by decide) rfl ?_
  refine x_goto h 12 dX6_ordered_107 (by decide) ?_
  refine x_iload h 0 dX6_ordered_12 rfl ?_
  refine x_iload_n h 9 dX6_ordered_14 rfl rfl ?_
  refine x_icmp_gt h 110 dX6_ordered_15 (by decide) (fun c => absurd c (by decide)) (fun _ => ?_)
  refine x_iload_n h 8 dX6_ordered_18 rfl rfl ?_
  refine x_iconst h (nI 1) dX6_ordered_19 (by decide) ?_
  refine x_isub h dX6_ordered_20 ?_
  refine x_top (nI 1) (by decide) ?_
  refine x_iload h 0 dX6_ordered_21 rfl ?_
  refine x_isub h dX6_ordered_23 ?_
  refine x_top (nI 0) (by decide) ?_
  refine x_iconst h (nI 2) dX6_ordered_24 (by decide) ?_
  refine x_icmp_ne h 32 dX6_ordered_25 (by decide) (fun _ => ?_) (fun c => absurd c (by decide))
  refine x_iconst h (nI 1) dX6_ordered_32 (by decide) ?_
  refine x_istore h [(8, .int (nI 1)), (7, .int (nI 1)), (4, .int (nI 1)), (6, .int (nI 0)), (5, .int (nI 0)), (9, .int (nI 0)), (0, .ref (g.1 158)), (1, .int (nI 0)), (2, .int (nI 2)), (3, .int (nI 1))] dX6_ordered_33 (by decide) rfl ?_
  refine x_iload h 4 dX6_ordered_35 rfl ?_
  refine x_iload h 0 dX6_ordered_37 rfl ?_
  refine x_idiv h dX6_ordered_39 (by decide) ?_
  refine x_top (nI 0) (by decide) ?_
  refine x_istore h [(9, .int (nI 0)), (8, .int (nI 1)), (7, .int (nI 1)), (4, .int (nI 1)), (6, .int (nI 0)), (5, .int (nI 0)), (0, .ref (g.1 158)), (1, .int (nI 0)), (2, .int (nI 2)), (3, .int (nI 1))] dX6_ordered_40 (by decide) rfl ?_
  refine x_iload h 5 dX6_ordered_42 rfl ?_
  refine x_iload h 1 dX6_ordered_44 rfl ?_
  refine x_irem h dX6_ordered_46 (by decide) ?_
  refine x_top (nI 0) (by decide) ?_
  refine x_istore h [(5, .int (nI 0)), (9, .int (nI 0)), (8, .int (nI 1)), (7, .int (nI 1)), (4, .int (nI 1)), (6, .int (nI 0)), (0, .ref (g.1 158)), (1, .int (nI 0)), (2, .int (nI 2)), (3, .int (nI 1))] dX6_ordered_47 (by decide) rfl ?_
  refine x_iconst h (nI 0) dX6_ordered_49 (by decide) ?_
  refine x_istore h [(6, .int (nI 0)), (5, .int (nI 0)), (9, .int (nI 0)), (8, .int (nI 1)), (7, .int (nI 1)), (4, .int (nI 1)), (0, .ref (g.1 158)), (1, .int (nI 0)), (2, .int (nI 2)), (3, .int (nI 1))] dX6_ordered_50 (by decide) rfl ?_
  refine x_iload h 5 dX6_ordered_52 rfl ?_
  refine x_iload h 0 dX6_ordered_54 rfl ?_
  refine x_ishr h dX6_ordered_56 ?_
  refine x_top (nI 1) (by decide) ?_
  refine x_iconst h (nI 1) dX6_ordered_57 (by decide) ?_
  refine x_iand h dX6_ordered_58 ?_
  refine x_top (nI 1) (by decide) ?_
  refine x_iconst h (nI 1) dX6_ordered_59 (by decide) ?_
  refine x_icmp_eq h 68 dX6_ordered_60 (by decide) (fun _ => ?_) (fun c => absurd (by decide) c)
  refine x_iload h 2 dX6_ordered_68 rfl ?_
  refine x_iload h 5 dX6_ordered_70 rfl ?_
  refine x_iload h 0 dX6_ordered_72 rfl ?_
  refine x_ishr h dX6_ordered_74 ?_
  refine x_top (nI 1) (by decide) ?_
  refine x_iconst h (nI 1) dX6_ordered_75 (by decide) ?_
  refine x_iand h dX6_ordered_76 ?_
  refine x_top (nI 1) (by decide) ?_
  refine x_iconst h (nI 1) dX6_ordered_77 (by decide) ?_
  refine x_icmp_ne h 85 dX6_ordered_78 (by decide) (fun c => absurd c (by decide)) (fun _ => ?_)
  refine x_iconst h (nI 0) dX6_ordered_81 (by decide) ?_
  refine x_goto h 86 dX6_ordered_82 (by decide) ?_
  refine x_isub h dX6_ordered_86 ?_
  refine x_top (nI 0) (by decide) ?_
  refine x_istore h [(9, .int (nI 0)), (6, .int (nI 0)), (5, .int (nI 0)), (8, .int (nI 1)), (7, .int (nI 1)), (4, .int (nI 1)), (0, .ref (g.1 158)), (1, .int (nI 0)), (2, .int (nI 2)), (3, .int (nI 1))] dX6_ordered_87 (by decide) rfl ?_
  refine x_iinc_n h 1 (n := 1) [(6, .int (nI 1)), (9, .int (nI 0)), (5, .int (nI 0)), (8, .int (nI 1)), (7, .int (nI 1)), (4, .int (nI 1)), (0, .ref (g.1 158)), (1, .int (nI 0)), (2, .int (nI 2)), (3, .int (nI 1))] dX6_ordered_89 rfl (by decide) rfl ?_
  refine x_goto h 52 dX6_ordered_92 (by decide) ?_
  refine x_iload h 5 dX6_ordered_52 rfl ?_
  refine x_iload h 0 dX6_ordered_54 rfl ?_
  refine x_ishr h dX6_ordered_56 ?_
  refine x_top (nI 0) (by decide) ?_
  refine x_iconst h (nI 1) dX6_ordered_57 (by decide) ?_
  refine x_iand h dX6_ordered_58 ?_
  refine x_top (nI 0) (by decide) ?_
  refine x_iconst h (nI 1) dX6_ordered_59 (by decide) ?_
  refine x_icmp_eq h 68 dX6_ordered_60 (by decide) (fun c => absurd c (by decide)) (fun _ => ?_)
  refine x_iload h 1 dX6_ordered_63 rfl ?_
  refine x_if_le h 95 dX6_ordered_65 (by decide) (fun _ => ?_) (fun c => absurd (by decide) c)
  refine x_iload h 5 dX6_ordered_95 rfl ?_
  refine x_iconst h (nI 1) dX6_ordered_97 (by decide) ?_
  refine x_iload h 0 dX6_ordered_98 rfl ?_
  refine x_ishl h dX6_ordered_100 ?_
  refine x_top (nI 2) (by decide) ?_
  refine x_ior h dX6_ordered_101 ?_
  refine x_top (nI 3) (by decide) ?_
  refine x_istore h [(4, .int (nI 3)), (6, .int (nI 1)), (9, .int (nI 0)), (5, .int (nI 0)), (8, .int (nI 1)), (7, .int (nI 1)), (0, .ref (g.1 158)), (1, .int (nI 0)), (2, .int (nI 2)), (3, .int (nI 1))] dX6_ordered_102 (by decide) rfl ?_
  refine x_iinc_n h 5 (n := 1) [(7, .int (nI 2)), (4, .int (nI 3)), (6, .int (nI 1)), (9, .int (nI 0)), (5, .int (nI 0)), (8, .int (nI 1)), (0, .ref (g.1 158)), (1, .int (nI 0)), (2, .int (nI 2)), (3, .int (nI 1))] dX6_ordered_104 rfl (by decide) rfl ?_
  refine x_goto h 12 dX6_ordered_107 (by decide) ?_
  refine x_iload h 0 dX6_ordered_12 rfl ?_
  refine x_iload_n h 9 dX6_ordered_14 rfl rfl ?_
  refine x_icmp_gt h 110 dX6_ordered_15 (by decide) (fun _ => ?_) (fun c => absurd (by decide) c)
  refine x_aload_n h 6 dX6_ordered_110 rfl rfl ?_
  refine xg_X6_14 h in_X6_ordered_X6 (by decide +kernel) dX6_ordered_111 ?_
  refine x_iload h 2 dX6_ordered_114 rfl ?_
  refine xl_167 h dX6_ordered_116 (by decide) ?_
  exact hret _ _ _ _ _ dX6_ordered_117 (by exact ⟨⟨rfl, rfl⟩, congrArg (M 167) (by decide)⟩)

set_option maxRecDepth 100000 in
set_option maxHeartbeats 4000000 in
theorem c_X6_ordered_210 {l : Launch} {g : Geo} {M : Nat → Nat → Int32} {P : Nat → Nat}  : Met l yX6_ordered wsX6_ordered rmX6_ordered (cPre g [.ref (g.1 158), .int (nI 1), .int (nI 2), .int (nI 0)] M P) (cQi g (fun r M' P' => (P = P' ∧ M = M') ∧ r = M 167 (pmM 2 1 0))) 0 0 (gA g) := by
  refine met_i (cc := cX6_ordered) (maxL := 10) (by decide) rfl ⟨rfl, rfl⟩ (Nat.le_of_ble_eq_true rfl) (fun x hx h hret => ?_)
  replace h : Cxk x g cX6_ordered 10 wsX6_ordered RX6 rmX6_ordered := h
  show X x 0 [(0, .ref (g.1 158)), (1, .int (nI 1)), (2, .int (nI 2)), (3, .int (nI 0))] [] M P
  refine x_iconst h (nI 0) dX6_ordered_0 (by decide) ?_
  refine x_istore h [(4, .int (nI 0)), (0, .ref (g.1 158)), (1, .int (nI 1)), (2, .int (nI 2)), (3, .int (nI 0))] dX6_ordered_1 (by decide) rfl ?_
  refine x_iload_n h 2 dX6_ordered_3 rfl rfl ?_
  refine x_istore h [(5, .int (nI 1)), (4, .int (nI 0)), (0, .ref (g.1 158)), (1, .int (nI 1)), (2, .int (nI 2)), (3, .int (nI 0))] dX6_ordered_4 (by decide) rfl ?_
  refine x_iconst h (nI 0) dX6_ordered_6 (by decide) ?_
  refine x_istore h [(6, .int (nI 0)), (5, .int (nI 1)), (4, .int (nI 0)), (0, .ref (g.1 158)), (1, .int (nI 1)), (2, .int (nI 2)), (3, .int (nI 0))] dX6_ordered_7 (by decide) rfl ?_
  refine x_iconst h (nI 0) dX6_ordered_9 (by decide) ?_
  refine x_istore h [(7, .int (nI 0)), (6, .int (nI 0)), (5, .int (nI 1)), (4, .int (nI 0)), (0, .ref (g.1 158)), (1, .int (nI 1)), (2, .int (nI 2)), (3, .int (nI 0))] dX6_ordered_10 (by decide) rfl ?_
  refine x_iload h 0 dX6_ordered_12 rfl ?_
  refine x_iload_n h 7 dX6_ordered_14 rfl rfl ?_
  refine x_icmp_gt h 110 dX6_ordered_15 (by decide) (fun c => absurd c (by decide)) (fun _ => ?_)
  refine x_iload_n h 6 dX6_ordered_18 rfl rfl ?_
  refine x_iconst h (nI 1) dX6_ordered_19 (by decide) ?_
  refine x_isub h dX6_ordered_20 ?_
  refine x_top (nI 1) (by decide) ?_
  refine x_iload h 0 dX6_ordered_21 rfl ?_
  refine x_isub h dX6_ordered_23 ?_
  refine x_top (nI 1) (by decide) ?_
  refine x_iconst h (nI 2) dX6_ordered_24 (by decide) ?_
  refine x_icmp_ne h 32 dX6_ordered_25 (by decide) (fun _ => ?_) (fun c => absurd c (by decide))
  refine x_iconst h (nI 1) dX6_ordered_32 (by decide) ?_
  refine x_istore h [(8, .int (nI 1)), (7, .int (nI 0)), (6, .int (nI 0)), (5, .int (nI 1)), (4, .int (nI 0)), (0, .ref (g.1 158)), (1, .int (nI 1)), (2, .int (nI 2)), (3, .int (nI 0))] dX6_ordered_33 (by decide) rfl ?_
  refine x_iload h 3 dX6_ordered_35 rfl ?_
  refine x_iload h 0 dX6_ordered_37 rfl ?_
  refine x_idiv h dX6_ordered_39 (by decide) ?_
  refine x_top (nI 1) (by decide) ?_
  refine x_istore h [(9, .int (nI 1)), (8, .int (nI 1)), (7, .int (nI 0)), (6, .int (nI 0)), (5, .int (nI 1)), (4, .int (nI 0)), (0, .ref (g.1 158)), (1, .int (nI 1)), (2, .int (nI 2)), (3, .int (nI 0))] dX6_ordered_40 (by decide) rfl ?_
  refine x_iload h 4 dX6_ordered_42 rfl ?_
  refine x_iload h 1 dX6_ordered_44 rfl ?_
  refine x_irem h dX6_ordered_46 (by decide) ?_
  refine x_top (nI 0) (by decide) ?_
  refine x_istore h [(5, .int (nI 0)), (9, .int (nI 1)), (8, .int (nI 1)), (7, .int (nI 0)), (6, .int (nI 0)), (4, .int (nI 0)), (0, .ref (g.1 158)), (1, .int (nI 1)), (2, .int (nI 2)), (3, .int (nI 0))] dX6_ordered_47 (by decide) rfl ?_
  refine x_iconst h (nI 0) dX6_ordered_49 (by decide) ?_
  refine x_istore h [(6, .int (nI 0)), (5, .int (nI 0)), (9, .int (nI 1)), (8, .int (nI 1)), (7, .int (nI 0)), (4, .int (nI 0)), (0, .ref (g.1 158)), (1, .int (nI 1)), (2, .int (nI 2)), (3, .int (nI 0))] dX6_ordered_50 (by decide) rfl ?_
  refine x_iload h 5 dX6_ordered_52 rfl ?_
  refine x_iload h 0 dX6_ordered_54 rfl ?_
  refine x_ishr h dX6_ordered_56 ?_
  refine x_top (nI 0) (by decide) ?_
  refine x_iconst h (nI 1) dX6_ordered_57 (by decide) ?_
  refine x_iand h dX6_ordered_58 ?_
  refine x_top (nI 0) (by decide) ?_
  refine x_iconst h (nI 1) dX6_ordered_59 (by decide) ?_
  refine x_icmp_eq h 68 dX6_ordered_60 (by decide) (fun c => absurd c (by decide)) (fun _ => ?_)
  refine x_iload h 2 dX6_ordered_63 rfl ?_
  refine x_if_le h 95 dX6_ordered_65 (by decide) (fun c => absurd c (by decide)) (fun _ => ?_)
  refine x_iload h 2 dX6_ordered_68 rfl ?_
  refine x_iload h 5 dX6_ordered_70 rfl ?_
  refine x_iload h 0 dX6_ordered_72 rfl ?_
  refine x_ishr h dX6_ordered_74 ?_
  refine x_top (nI 0) (by decide) ?_
  refine x_iconst h (nI 1) dX6_ordered_75 (by decide) ?_
  refine x_iand h dX6_ordered_76 ?_
  refine x_top (nI 0) (by decide) ?_
  refine x_iconst h (nI 1) dX6_ordered_77 (by decide) ?_
  refine x_icmp_ne h 85 dX6_ordered_78 (by decide) (fun _ => ?_) (fun c => absurd c (by decide))
  refine x_iconst h (nI 1) dX6_ordered_85 (by decide) ?_
  refine x_isub h dX6_ordered_86 ?_
  refine x_top (nI 0) (by decide) ?_
  refine x_istore h [(9, .int (nI 0)), (6, .int (nI 0)), (5, .int (nI 0)), (8, .int (nI 1)), (7, .int (nI 0)), (4, .int (nI 0)), (0, .ref (g.1 158)), (1, .int (nI 1)), (2, .int (nI 2)), (3, .int (nI 0))] dX6_ordered_87 (by decide) rfl ?_
  refine x_iinc_n h 1 (n := 1) [(6, .int (nI 1)), (9, .int (nI 0)), (5, .int (nI 0)), (8, .int (nI 1)), (7, .int (nI 0)), (4, .int (nI 0)), (0, .ref (g.1 158)), (1, .int (nI 1)), (2, .int (nI 2)), (3, .int (nI 0))] dX6_ordered_89 rfl (by decide) rfl ?_
  refine x_goto h 52 dX6_ordered_92 (by decide) ?_
  refine x_iload h 5 dX6_ordered_52 rfl ?_
  refine x_iload h 0 dX6_ordered_54 rfl ?_
  refine x_ishr h dX6_ordered_56 ?_
  refine x_top (nI 0) (by decide) ?_
  refine x_iconst h (nI 1) dX6_ordered_57 (by decide) ?_
  refine x_iand h dX6_ordered_58 ?_
  refine x_top (nI 0) (by decide) ?_
  refine x_iconst h (nI 1) dX6_ordered_59 (by decide) ?_
  refine x_icmp_eq h 68 dX6_ordered_60 (by decide) (fun c => absurd c (by decide)) (fun _ => ?_)
  refine x_iload h 1 dX6_ordered_63 rfl ?_
  refine x_if_le h 95 dX6_ordered_65 (by decide) (fun _ => ?_) (fun c => absurd (by decide) c)
  refine x_iload h 5 dX6_ordered_95 rfl ?_
  refine x_iconst h (nI 1) dX6_ordered_97 (by decide) ?_
  refine x_iload h 0 dX6_ordered_98 rfl ?_
  refine x_ishl h dX6_ordered_100 ?_
  refine x_top (nI 2) (by decide) ?_
  refine x_ior h dX6_ordered_101 ?_
  refine x_top (nI 2) (by decide) ?_
  refine x_istore h [(4, .int (nI 2)), (6, .int (nI 1)), (9, .int (nI 0)), (5, .int (nI 0)), (8, .int (nI 1)), (7, .int (nI 0)), (0, .ref (g.1 158)), (1, .int (nI 1)), (2, .int (nI 2)), (3, .int (nI 0))] dX6_ordered_102 (by decide) rfl ?_
  refine x_iinc_n h 5 (n := 1) [(7, .int (nI 1)), (4, .int (nI 2)), (6, .int (nI 1)), (9, .int (nI 0)), (5, .int (nI 0)), (8, .int (nI 1)), (0, .ref (g.1 158)), (1, .int (nI 1)), (2, .int (nI 2)), (3, .int (nI 0))] dX6_ordered_104 rfl (by decide) rfl ?_
  refine x_goto h 12 dX6_ordered_107 (by decide) ?_
  refine x_iload h 0 dX6_ordered_12 rfl ?_
  refine x_iload_n h 9 dX6_ordered_14 rfl rfl ?_
  refine x_icmp_gt h 110 dX6_ordered_15 (by decide) (fun _ => ?_) (fun c => absurd (by decide) c)
  refine x_aload_n h 6 dX6_ordered_110 rfl rfl ?_
  refine xg_X6_14 h in_X6_ordered_X6 (by decide +kernel) dX6_ordered_111 ?_
  refine x_iload h 2 dX6_ordered_114 rfl ?_
  refine xl_167 h dX6_ordered_116 (by decide) ?_
  exact hret _ _ _ _ _ dX6_ordered_117 (by exact ⟨⟨rfl, rfl⟩, congrArg (M 167) (by decide)⟩)

set_option maxRecDepth 100000 in
set_option maxHeartbeats 4000000 in
theorem c_X6_ordered_211 {l : Launch} {g : Geo} {M : Nat → Nat → Int32} {P : Nat → Nat}  : Met l yX6_ordered wsX6_ordered rmX6_ordered (cPre g [.ref (g.1 158), .int (nI 1), .int (nI 2), .int (nI 1)] M P) (cQi g (fun r M' P' => (P = P' ∧ M = M') ∧ r = M 167 (pmM 2 1 1))) 0 0 (gA g) := by
  refine met_i (cc := cX6_ordered) (maxL := 10) (by decide) rfl ⟨rfl, rfl⟩ (Nat.le_of_ble_eq_true rfl) (fun x hx h hret => ?_)
  replace h : Cxk x g cX6_ordered 10 wsX6_ordered RX6 rmX6_ordered := h
  show X x 0 [(0, .ref (g.1 158)), (1, .int (nI 1)), (2, .int (nI 2)), (3, .int (nI 1))] [] M P
  refine x_iconst h (nI 0) dX6_ordered_0 (by decide) ?_
  refine x_istore h [(4, .int (nI 0)), (0, .ref (g.1 158)), (1, .int (nI 1)), (2, .int (nI 2)), (3, .int (nI 1))] dX6_ordered_1 (by decide) rfl ?_
  refine x_iload_n h 2 dX6_ordered_3 rfl rfl ?_
  refine x_istore h [(5, .int (nI 1)), (4, .int (nI 0)), (0, .ref (g.1 158)), (1, .int (nI 1)), (2, .int (nI 2)), (3, .int (nI 1))] dX6_ordered_4 (by decide) rfl ?_
  refine x_iconst h (nI 0) dX6_ordered_6 (by decide) ?_
  refine x_istore h [(6, .int (nI 0)), (5, .int (nI 1)), (4, .int (nI 0)), (0, .ref (g.1 158)), (1, .int (nI 1)), (2, .int (nI 2)), (3, .int (nI 1))] dX6_ordered_7 (by decide) rfl ?_
  refine x_iconst h (nI 0) dX6_ordered_9 (by decide) ?_
  refine x_istore h [(7, .int (nI 0)), (6, .int (nI 0)), (5, .int (nI 1)), (4, .int (nI 0)), (0, .ref (g.1 158)), (1, .int (nI 1)), (2, .int (nI 2)), (3, .int (nI 1))] dX6_ordered_10 (by decide) rfl ?_
  refine x_iload h 0 dX6_ordered_12 rfl ?_
  refine x_iload_n h 7 dX6_ordered_14 rfl rfl ?_
  refine x_icmp_gt h 110 dX6_ordered_15 (by decide) (fun c => absurd c (by decide)) (fun _ => ?_)
  refine x_iload_n h 6 dX6_ordered_18 rfl rfl ?_
  refine x_iconst h (nI 1) dX6_ordered_19 (by decide) ?_
  refine x_isub h dX6_ordered_20 ?_
  refine x_top (nI 1) (by decide) ?_
  refine x_iload h 0 dX6_ordered_21 rfl ?_
  refine x_isub h dX6_ordered_23 ?_
  refine x_top (nI 1) (by decide) ?_
  refine x_iconst h (nI 2) dX6_ordered_24 (by decide) ?_
  refine x_icmp_ne h 32 dX6_ordered_25 (by decide) (fun _ => ?_) (fun c => absurd c (by decide))
  refine x_iconst h (nI 1) dX6_ordered_32 (by decide) ?_
  refine x_istore h [(8, .int (nI 1)), (7, .int (nI 0)), (6, .int (nI 0)), (5, .int (nI 1)), (4, .int (nI 0)), (0, .ref (g.1 158)), (1, .int (nI 1)), (2, .int (nI 2)), (3, .int (nI 1))] dX6_ordered_33 (by decide) rfl ?_
  refine x_iload h 3 dX6_ordered_35 rfl ?_
  refine x_iload h 0 dX6_ordered_37 rfl ?_
  refine x_idiv h dX6_ordered_39 (by decide) ?_
  refine x_top (nI 1) (by decide) ?_
  refine x_istore h [(9, .int (nI 1)), (8, .int (nI 1)), (7, .int (nI 0)), (6, .int (nI 0)), (5, .int (nI 1)), (4, .int (nI 0)), (0, .ref (g.1 158)), (1, .int (nI 1)), (2, .int (nI 2)), (3, .int (nI 1))] dX6_ordered_40 (by decide) rfl ?_
  refine x_iload h 4 dX6_ordered_42 rfl ?_
  refine x_iload h 1 dX6_ordered_44 rfl ?_
  refine x_irem h dX6_ordered_46 (by decide) ?_
  refine x_top (nI 0) (by decide) ?_
  refine x_istore h [(5, .int (nI 0)), (9, .int (nI 1)), (8, .int (nI 1)), (7, .int (nI 0)), (6, .int (nI 0)), (4, .int (nI 0)), (0, .ref (g.1 158)), (1, .int (nI 1)), (2, .int (nI 2)), (3, .int (nI 1))] dX6_ordered_47 (by decide) rfl ?_
  refine x_iconst h (nI 0) dX6_ordered_49 (by decide) ?_
  refine x_istore h [(6, .int (nI 0)), (5, .int (nI 0)), (9, .int (nI 1)), (8, .int (nI 1)), (7, .int (nI 0)), (4, .int (nI 0)), (0, .ref (g.1 158)), (1, .int (nI 1)), (2, .int (nI 2)), (3, .int (nI 1))] dX6_ordered_50 (by decide) rfl ?_
  refine x_iload h 5 dX6_ordered_52 rfl ?_
  refine x_iload h 0 dX6_ordered_54 rfl ?_
  refine x_ishr h dX6_ordered_56 ?_
  refine x_top (nI 0) (by decide) ?_
  refine x_iconst h (nI 1) dX6_ordered_57 (by decide) ?_
  refine x_iand h dX6_ordered_58 ?_
  refine x_top (nI 0) (by decide) ?_
  refine x_iconst h (nI 1) dX6_ordered_59 (by decide) ?_
  refine x_icmp_eq h 68 dX6_ordered_60 (by decide) (fun c => absurd c (by decide)) (fun _ => ?_)
  refine x_iload h 2 dX6_ordered_63 rfl ?_
  refine x_if_le h 95 dX6_ordered_65 (by decide) (fun c => absurd c (by decide)) (fun _ => ?_)
  refine x_iload h 2 dX6_ordered_68 rfl ?_
  refine x_iload h 5 dX6_ordered_70 rfl ?_
  refine x_iload h 0 dX6_ordered_72 rfl ?_
  refine x_ishr h dX6_ordered_74 ?_
  refine x_top (nI 0) (by decide) ?_
  refine x_iconst h (nI 1) dX6_ordered_75 (by decide) ?_
  refine x_iand h dX6_ordered_76 ?_
  refine x_top (nI 0) (by decide) ?_
  refine x_iconst h (nI 1) dX6_ordered_77 (by decide) ?_
  refine x_icmp_ne h 85 dX6_ordered_78 (by decide) (fun _ => ?_) (fun c => absurd c (by decide))
  refine x_iconst h (nI 1) dX6_ordered_85 (by decide) ?_
  refine x_isub h dX6_ordered_86 ?_
  refine x_top (nI 0) (by decide) ?_
  refine x_istore h [(9, .int (nI 0)), (6, .int (nI 0)), (5, .int (nI 0)), (8, .int (nI 1)), (7, .int (nI 0)), (4, .int (nI 0)), (0, .ref (g.1 158)), (1, .int (nI 1)), (2, .int (nI 2)), (3, .int (nI 1))] dX6_ordered_87 (by decide) rfl ?_
  refine x_iinc_n h 1 (n := 1) [(6, .int (nI 1)), (9, .int (nI 0)), (5, .int (nI 0)), (8, .int (nI 1)), (7, .int (nI 0)), (4, .int (nI 0)), (0, .ref (g.1 158)), (1, .int (nI 1)), (2, .int (nI 2)), (3, .int (nI 1))] dX6_ordered_89 rfl (by decide) rfl ?_
  refine x_goto h 52 dX6_ordered_92 (by decide) ?_
  refine x_iload h 5 dX6_ordered_52 rfl ?_
  refine x_iload h 0 dX6_ordered_54 rfl ?_
  refine x_ishr h dX6_ordered_56 ?_
  refine x_top (nI 0) (by decide) ?_
  refine x_iconst h (nI 1) dX6_ordered_57 (by decide) ?_
  refine x_iand h dX6_ordered_58 ?_
  refine x_top (nI 0) (by decide) ?_
  refine x_iconst h (nI 1) dX6_ordered_59 (by decide) ?_
  refine x_icmp_eq h 68 dX6_ordered_60 (by decide) (fun c => absurd c (by decide)) (fun _ => ?_)
  refine x_iload h 1 dX6_ordered_63 rfl ?_
  refine x_if_le h 95 dX6_ordered_65 (by decide) (fun _ => ?_) (fun c => absurd (by decide) c)
  refine x_iload h 5 dX6_ordered_95 rfl ?_
  refine x_iconst h (nI 1) dX6_ordered_97 (by decide) ?_
  refine x_iload h 0 dX6_ordered_98 rfl ?_
  refine x_ishl h dX6_ordered_100 ?_
  refine x_top (nI 2) (by decide) ?_
  refine x_ior h dX6_ordered_101 ?_
  refine x_top (nI 2) (by decide) ?_
  refine x_istore h [(4, .int (nI 2)), (6, .int (nI 1)), (9, .int (nI 0)), (5, .int (nI 0)), (8, .int (nI 1)), (7, .int (nI 0)), (0, .ref (g.1 158)), (1, .int (nI 1)), (2, .int (nI 2)), (3, .int (nI 1))] dX6_ordered_102 (by decide) rfl ?_
  refine x_iinc_n h 5 (n := 1) [(7, .int (nI 1)), (4, .int (nI 2)), (6, .int (nI 1)), (9, .int (nI 0)), (5, .int (nI 0)), (8, .int (nI 1)), (0, .ref (g.1 158)), (1, .int (nI 1)), (2, .int (nI 2)), (3, .int (nI 1))] dX6_ordered_104 rfl (by decide) rfl ?_
  refine x_goto h 12 dX6_ordered_107 (by decide) ?_
  refine x_iload h 0 dX6_ordered_12 rfl ?_
  refine x_iload_n h 9 dX6_ordered_14 rfl rfl ?_
  refine x_icmp_gt h 110 dX6_ordered_15 (by decide) (fun c => absurd c (by decide)) (fun _ => ?_)
  refine x_iload_n h 8 dX6_ordered_18 rfl rfl ?_
  refine x_iconst h (nI 1) dX6_ordered_19 (by decide) ?_
  refine x_isub h dX6_ordered_20 ?_
  refine x_top (nI 1) (by decide) ?_
  refine x_iload h 0 dX6_ordered_21 rfl ?_
  refine x_isub h dX6_ordered_23 ?_
  refine x_top (nI 0) (by decide) ?_
  refine x_iconst h (nI 2) dX6_ordered_24 (by decide) ?_
  refine x_icmp_ne h 32 dX6_ordered_25 (by decide) (fun _ => ?_) (fun c => absurd c (by decide))
  refine x_iconst h (nI 1) dX6_ordered_32 (by decide) ?_
  refine x_istore h [(8, .int (nI 1)), (7, .int (nI 1)), (4, .int (nI 2)), (6, .int (nI 1)), (9, .int (nI 0)), (5, .int (nI 0)), (0, .ref (g.1 158)), (1, .int (nI 1)), (2, .int (nI 2)), (3, .int (nI 1))] dX6_ordered_33 (by decide) rfl ?_
  refine x_iload h 5 dX6_ordered_35 rfl ?_
  refine x_iload h 0 dX6_ordered_37 rfl ?_
  refine x_idiv h dX6_ordered_39 (by decide) ?_
  refine x_top (nI 0) (by decide) ?_
  refine x_istore h [(9, .int (nI 0)), (8, .int (nI 1)), (7, .int (nI 1)), (4, .int (nI 2)), (6, .int (nI 1)), (5, .int (nI 0)), (0, .ref (g.1 158)), (1, .int (nI 1)), (2, .int (nI 2)), (3, .int (nI 1))] dX6_ordered_40 (by decide) rfl ?_
  refine x_iload h 5 dX6_ordered_42 rfl ?_
  refine x_iload h 1 dX6_ordered_44 rfl ?_
  refine x_irem h dX6_ordered_46 (by decide) ?_
  refine x_top (nI 0) (by decide) ?_
  refine x_istore h [(5, .int (nI 0)), (9, .int (nI 0)), (8, .int (nI 1)), (7, .int (nI 1)), (4, .int (nI 2)), (6, .int (nI 1)), (0, .ref (g.1 158)), (1, .int (nI 1)), (2, .int (nI 2)), (3, .int (nI 1))] dX6_ordered_47 (by decide) rfl ?_
  refine x_iconst h (nI 0) dX6_ordered_49 (by decide) ?_
  refine x_istore h [(6, .int (nI 0)), (5, .int (nI 0)), (9, .int (nI 0)), (8, .int (nI 1)), (7, .int (nI 1)), (4, .int (nI 2)), (0, .ref (g.1 158)), (1, .int (nI 1)), (2, .int (nI 2)), (3, .int (nI 1))] dX6_ordered_50 (by decide) rfl ?_
  refine x_iload h 5 dX6_ordered_52 rfl ?_
  refine x_iload h 0 dX6_ordered_54 rfl ?_
  refine x_ishr h dX6_ordered_56 ?_
  refine x_top (nI 2) (by decide) ?_
  refine x_iconst h (nI 1) dX6_ordered_57 (by decide) ?_
  refine x_iand h dX6_ordered_58 ?_
  refine x_top (nI 0) (by decide) ?_
  refine x_iconst h (nI 1) dX6_ordered_59 (by decide) ?_
  refine x_icmp_eq h 68 dX6_ordered_60 (by decide) (fun c => absurd c (by decide)) (fun _ => ?_)
  refine x_iload h 2 dX6_ordered_63 rfl ?_
  refine x_if_le h 95 dX6_ordered_65 (by decide) (fun _ => ?_) (fun c => absurd (by decide) c)
  refine x_iload h 5 dX6_ordered_95 rfl ?_
  refine x_iconst h (nI 1) dX6_ordered_97 (by decide) ?_
  refine x_iload h 0 dX6_ordered_98 rfl ?_
  refine x_ishl h dX6_ordered_100 ?_
  refine x_top (nI 1) (by decide) ?_
  refine x_ior h dX6_ordered_101 ?_
  refine x_top (nI 3) (by decide) ?_
  refine x_istore h [(4, .int (nI 3)), (6, .int (nI 0)), (5, .int (nI 0)), (9, .int (nI 0)), (8, .int (nI 1)), (7, .int (nI 1)), (0, .ref (g.1 158)), (1, .int (nI 1)), (2, .int (nI 2)), (3, .int (nI 1))] dX6_ordered_102 (by decide) rfl ?_
  refine x_iinc_n h 5 (n := 1) [(7, .int (nI 2)), (4, .int (nI 3)), (6, .int (nI 0)), (5, .int (nI 0)), (9, .int (nI 0)), (8, .int (nI 1)), (0, .ref (g.1 158)), (1, .int (nI 1)), (2, .int (nI 2)), (3, .int (nI 1))] dX6_ordered_104 rfl (by decide) rfl ?_
  refine x_goto h 12 dX6_ordered_107 (by decide) ?_
  refine x_iload h 0 dX6_ordered_12 rfl ?_
  refine x_iload_n h 9 dX6_ordered_14 rfl rfl ?_
  refine x_icmp_gt h 110 dX6_ordered_15 (by decide) (fun _ => ?_) (fun c => absurd (by decide) c)
  refine x_aload_n h 6 dX6_ordered_110 rfl rfl ?_
  refine xg_X6_14 h in_X6_ordered_X6 (by decide +kernel) dX6_ordered_111 ?_
  refine x_iload h 2 dX6_ordered_114 rfl ?_
  refine xl_167 h dX6_ordered_116 (by decide) ?_
  exact hret _ _ _ _ _ dX6_ordered_117 (by exact ⟨⟨rfl, rfl⟩, congrArg (M 167) (by decide)⟩)

set_option maxRecDepth 100000 in
set_option maxHeartbeats 4000000 in
theorem c_X6_ordered_300 {l : Launch} {g : Geo} {M : Nat → Nat → Int32} {P : Nat → Nat}  : Met l yX6_ordered wsX6_ordered rmX6_ordered (cPre g [.ref (g.1 158), .int (nI 0), .int (nI 3), .int (nI 0)] M P) (cQi g (fun r M' P' => (P = P' ∧ M = M') ∧ r = M 167 (pmM 3 0 0))) 0 0 (gA g) := by
  refine met_i (cc := cX6_ordered) (maxL := 10) (by decide) rfl ⟨rfl, rfl⟩ (Nat.le_of_ble_eq_true rfl) (fun x hx h hret => ?_)
  replace h : Cxk x g cX6_ordered 10 wsX6_ordered RX6 rmX6_ordered := h
  show X x 0 [(0, .ref (g.1 158)), (1, .int (nI 0)), (2, .int (nI 3)), (3, .int (nI 0))] [] M P
  refine x_iconst h (nI 0) dX6_ordered_0 (by decide) ?_
  refine x_istore h [(4, .int (nI 0)), (0, .ref (g.1 158)), (1, .int (nI 0)), (2, .int (nI 3)), (3, .int (nI 0))] dX6_ordered_1 (by decide) rfl ?_
  refine x_iload_n h 2 dX6_ordered_3 rfl rfl ?_
  refine x_istore h [(5, .int (nI 0)), (4, .int (nI 0)), (0, .ref (g.1 158)), (1, .int (nI 0)), (2, .int (nI 3)), (3, .int (nI 0))] dX6_ordered_4 (by decide) rfl ?_
  refine x_iconst h (nI 0) dX6_ordered_6 (by decide) ?_
  refine x_istore h [(6, .int (nI 0)), (5, .int (nI 0)), (4, .int (nI 0)), (0, .ref (g.1 158)), (1, .int (nI 0)), (2, .int (nI 3)), (3, .int (nI 0))] dX6_ordered_7 (by decide) rfl ?_
  refine x_iconst h (nI 0) dX6_ordered_9 (by decide) ?_
  refine x_istore h [(7, .int (nI 0)), (6, .int (nI 0)), (5, .int (nI 0)), (4, .int (nI 0)), (0, .ref (g.1 158)), (1, .int (nI 0)), (2, .int (nI 3)), (3, .int (nI 0))] dX6_ordered_10 (by decide) rfl ?_
  refine x_iload h 0 dX6_ordered_12 rfl ?_
  refine x_iload_n h 7 dX6_ordered_14 rfl rfl ?_
  refine x_icmp_gt h 110 dX6_ordered_15 (by decide) (fun c => absurd c (by decide)) (fun _ => ?_)
  refine x_iload_n h 6 dX6_ordered_18 rfl rfl ?_
  refine x_iconst h (nI 1) dX6_ordered_19 (by decide) ?_
  refine x_isub h dX6_ordered_20 ?_
  refine x_top (nI 2) (by decide) ?_
  refine x_iload h 0 dX6_ordered_21 rfl ?_
  refine x_isub h dX6_ordered_23 ?_
  refine x_top (nI 2) (by decide) ?_
  refine x_iconst h (nI 2) dX6_ordered_24 (by decide) ?_
  refine x_icmp_ne h 32 dX6_ordered_25 (by decide) (fun c => absurd c (by decide)) (fun _ => ?_)
  refine x_iconst h (nI 2) dX6_ordered_28 (by decide) ?_
  refine x_goto h 33 dX6_ordered_29 (by decide) ?_
  refine x_istore h [(8, .int (nI 2)), (7, .int (nI 0)), (6, .int (nI 0)), (5, .int (nI 0)), (4, .int (nI 0)), (0, .ref (g.1 158)), (1, .int (nI 0)), (2, .int (nI 3)), (3, .int (nI 0))] dX6_ordered_33 (by decide) rfl ?_
  refine x_iload h 3 dX6_ordered_35 rfl ?_
  refine x_iload h 0 dX6_ordered_37 rfl ?_
  refine x_idiv h dX6_ordered_39 (by decide) ?_
  refine x_top (nI 0) (by decide) ?_
  refine x_istore h [(9, .int (nI 0)), (8, .int (nI 2)), (7, .int (nI 0)), (6, .int (nI 0)), (5, .int (nI 0)), (4, .int (nI 0)), (0, .ref (g.1 158)), (1, .int (nI 0)), (2, .int (nI 3)), (3, .int (nI 0))] dX6_ordered_40 (by decide) rfl ?_
  refine x_iload h 4 dX6_ordered_42 rfl ?_
  refine x_iload h 1 dX6_ordered_44 rfl ?_
  refine x_irem h dX6_ordered_46 (by decide) ?_
  refine x_top (nI 0) (by decide) ?_
  refine x_istore h [(5, .int (nI 0)), (9, .int (nI 0)), (8, .int (nI 2)), (7, .int (nI 0)), (6, .int (nI 0)), (4, .int (nI 0)), (0, .ref (g.1 158)), (1, .int (nI 0)), (2, .int (nI 3)), (3, .int (nI 0))] dX6_ordered_47 (by decide) rfl ?_
  refine x_iconst h (nI 0) dX6_ordered_49 (by decide) ?_
  refine x_istore h [(6, .int (nI 0)), (5, .int (nI 0)), (9, .int (nI 0)), (8, .int (nI 2)), (7, .int (nI 0)), (4, .int (nI 0)), (0, .ref (g.1 158)), (1, .int (nI 0)), (2, .int (nI 3)), (3, .int (nI 0))] dX6_ordered_50 (by decide) rfl ?_
  refine x_iload h 5 dX6_ordered_52 rfl ?_
  refine x_iload h 0 dX6_ordered_54 rfl ?_
  refine x_ishr h dX6_ordered_56 ?_
  refine x_top (nI 0) (by decide) ?_
  refine x_iconst h (nI 1) dX6_ordered_57 (by decide) ?_
  refine x_iand h dX6_ordered_58 ?_
  refine x_top (nI 0) (by decide) ?_
  refine x_iconst h (nI 1) dX6_ordered_59 (by decide) ?_
  refine x_icmp_eq h 68 dX6_ordered_60 (by decide) (fun c => absurd c (by decide)) (fun _ => ?_)
  refine x_iload h 2 dX6_ordered_63 rfl ?_
  refine x_if_le h 95 dX6_ordered_65 (by decide) (fun _ => ?_) (fun c => absurd (by decide) c)
  refine x_iload h 5 dX6_ordered_95 rfl ?_
  refine x_iconst h (nI 1) dX6_ordered_97 (by decide) ?_
  refine x_iload h 0 dX6_ordered_98 rfl ?_
  refine x_ishl h dX6_ordered_100 ?_
  refine x_top (nI 1) (by decide) ?_
  refine x_ior h dX6_ordered_101 ?_
  refine x_top (nI 1) (by decide) ?_
  refine x_istore h [(4, .int (nI 1)), (6, .int (nI 0)), (5, .int (nI 0)), (9, .int (nI 0)), (8, .int (nI 2)), (7, .int (nI 0)), (0, .ref (g.1 158)), (1, .int (nI 0)), (2, .int (nI 3)), (3, .int (nI 0))] dX6_ordered_102 (by decide) rfl ?_
  refine x_iinc_n h 5 (n := 1) [(7, .int (nI 1)), (4, .int (nI 1)), (6, .int (nI 0)), (5, .int (nI 0)), (9, .int (nI 0)), (8, .int (nI 2)), (0, .ref (g.1 158)), (1, .int (nI 0)), (2, .int (nI 3)), (3, .int (nI 0))] dX6_ordered_104 rfl (by decide) rfl ?_
  refine x_goto h 12 dX6_ordered_107 (by decide) ?_
  refine x_iload h 0 dX6_ordered_12 rfl ?_
  refine x_iload_n h 9 dX6_ordered_14 rfl rfl ?_
  refine x_icmp_gt h 110 dX6_ordered_15 (by decide) (fun _ => ?_) (fun c => absurd (by decide) c)
  refine x_aload_n h 6 dX6_ordered_110 rfl rfl ?_
  refine xg_X6_14 h in_X6_ordered_X6 (by decide +kernel) dX6_ordered_111 ?_
  refine x_iload h 2 dX6_ordered_114 rfl ?_
  refine xl_167 h dX6_ordered_116 (by decide) ?_
  exact hret _ _ _ _ _ dX6_ordered_117 (by exact ⟨⟨rfl, rfl⟩, congrArg (M 167) (by decide)⟩)

set_option maxRecDepth 100000 in
set_option maxHeartbeats 4000000 in
theorem c_X6_ordered_301 {l : Launch} {g : Geo} {M : Nat → Nat → Int32} {P : Nat → Nat}  : Met l yX6_ordered wsX6_ordered rmX6_ordered (cPre g [.ref (g.1 158), .int (nI 0), .int (nI 3), .int (nI 1)] M P) (cQi g (fun r M' P' => (P = P' ∧ M = M') ∧ r = M 167 (pmM 3 0 1))) 0 0 (gA g) := by
  refine met_i (cc := cX6_ordered) (maxL := 10) (by decide) rfl ⟨rfl, rfl⟩ (Nat.le_of_ble_eq_true rfl) (fun x hx h hret => ?_)
  replace h : Cxk x g cX6_ordered 10 wsX6_ordered RX6 rmX6_ordered := h
  show X x 0 [(0, .ref (g.1 158)), (1, .int (nI 0)), (2, .int (nI 3)), (3, .int (nI 1))] [] M P
  refine x_iconst h (nI 0) dX6_ordered_0 (by decide) ?_
  refine x_istore h [(4, .int (nI 0)), (0, .ref (g.1 158)), (1, .int (nI 0)), (2, .int (nI 3)), (3, .int (nI 1))] dX6_ordered_1 (by decide) rfl ?_
  refine x_iload_n h 2 dX6_ordered_3 rfl rfl ?_
  refine x_istore h [(5, .int (nI 0)), (4, .int (nI 0)), (0, .ref (g.1 158)), (1, .int (nI 0)), (2, .int (nI 3)), (3, .int (nI 1))] dX6_ordered_4 (by decide) rfl ?_
  refine x_iconst h (nI 0) dX6_ordered_6 (by decide) ?_
  refine x_istore h [(6, .int (nI 0)), (5, .int (nI 0)), (4, .int (nI 0)), (0, .ref (g.1 158)), (1, .int (nI 0)), (2, .int (nI 3)), (3, .int (nI 1))] dX6_ordered_7 (by decide) rfl ?_
  refine x_iconst h (nI 0) dX6_ordered_9 (by decide) ?_
  refine x_istore h [(7, .int (nI 0)), (6, .int (nI 0)), (5, .int (nI 0)), (4, .int (nI 0)), (0, .ref (g.1 158)), (1, .int (nI 0)), (2, .int (nI 3)), (3, .int (nI 1))] dX6_ordered_10 (by decide) rfl ?_
  refine x_iload h 0 dX6_ordered_12 rfl ?_
  refine x_iload_n h 7 dX6_ordered_14 rfl rfl ?_
  refine x_icmp_gt h 110 dX6_ordered_15 (by decide) (fun c => absurd c (by decide)) (fun _ => ?_)
  refine x_iload_n h 6 dX6_ordered_18 rfl rfl ?_
  refine x_iconst h (nI 1) dX6_ordered_19 (by decide) ?_
  refine x_isub h dX6_ordered_20 ?_
  refine x_top (nI 2) (by decide) ?_
  refine x_iload h 0 dX6_ordered_21 rfl ?_
  refine x_isub h dX6_ordered_23 ?_
  refine x_top (nI 2) (by decide) ?_
  refine x_iconst h (nI 2) dX6_ordered_24 (by decide) ?_
  refine x_icmp_ne h 32 dX6_ordered_25 (by decide) (fun c => absurd c (by decide)) (fun _ => ?_)
  refine x_iconst h (nI 2) dX6_ordered_28 (by decide) ?_
  refine x_goto h 33 dX6_ordered_29 (by decide) ?_
  refine x_istore h [(8, .int (nI 2)), (7, .int (nI 0)), (6, .int (nI 0)), (5, .int (nI 0)), (4, .int (nI 0)), (0, .ref (g.1 158)), (1, .int (nI 0)), (2, .int (nI 3)), (3, .int (nI 1))] dX6_ordered_33 (by decide) rfl ?_
  refine x_iload h 3 dX6_ordered_35 rfl ?_
  refine x_iload h 0 dX6_ordered_37 rfl ?_
  refine x_idiv h dX6_ordered_39 (by decide) ?_
  refine x_top (nI 0) (by decide) ?_
  refine x_istore h [(9, .int (nI 0)), (8, .int (nI 2)), (7, .int (nI 0)), (6, .int (nI 0)), (5, .int (nI 0)), (4, .int (nI 0)), (0, .ref (g.1 158)), (1, .int (nI 0)), (2, .int (nI 3)), (3, .int (nI 1))] dX6_ordered_40 (by decide) rfl ?_
  refine x_iload h 4 dX6_ordered_42 rfl ?_
  refine x_iload h 1 dX6_ordered_44 rfl ?_
  refine x_irem h dX6_ordered_46 (by decide) ?_
  refine x_top (nI 0) (by decide) ?_
  refine x_istore h [(5, .int (nI 0)), (9, .int (nI 0)), (8, .int (nI 2)), (7, .int (nI 0)), (6, .int (nI 0)), (4, .int (nI 0)), (0, .ref (g.1 158)), (1, .int (nI 0)), (2, .int (nI 3)), (3, .int (nI 1))] dX6_ordered_47 (by decide) rfl ?_
  refine x_iconst h (nI 0) dX6_ordered_49 (by decide) ?_
  refine x_istore h [(6, .int (nI 0)), (5, .int (nI 0)), (9, .int (nI 0)), (8, .int (nI 2)), (7, .int (nI 0)), (4, .int (nI 0)), (0, .ref (g.1 158)), (1, .int (nI 0)), (2, .int (nI 3)), (3, .int (nI 1))] dX6_ordered_50 (by decide) rfl ?_
  refine x_iload h 5 dX6_ordered_52 rfl ?_
  refine x_iload h 0 dX6_ordered_54 rfl ?_
  refine x_ishr h dX6_ordered_56 ?_
  refine x_top (nI 0) (by decide) ?_
  refine x_iconst h (nI 1) dX6_ordered_57 (by decide) ?_
  refine x_iand h dX6_ordered_58 ?_
  refine x_top (nI 0) (by decide) ?_
  refine x_iconst h (nI 1) dX6_ordered_59 (by decide) ?_
  refine x_icmp_eq h 68 dX6_ordered_60 (by decide) (fun c => absurd c (by decide)) (fun _ => ?_)
  refine x_iload h 2 dX6_ordered_63 rfl ?_
  refine x_if_le h 95 dX6_ordered_65 (by decide) (fun _ => ?_) (fun c => absurd (by decide) c)
  refine x_iload h 5 dX6_ordered_95 rfl ?_
  refine x_iconst h (nI 1) dX6_ordered_97 (by decide) ?_
  refine x_iload h 0 dX6_ordered_98 rfl ?_
  refine x_ishl h dX6_ordered_100 ?_
  refine x_top (nI 1) (by decide) ?_
  refine x_ior h dX6_ordered_101 ?_
  refine x_top (nI 1) (by decide) ?_
  refine x_istore h [(4, .int (nI 1)), (6, .int (nI 0)), (5, .int (nI 0)), (9, .int (nI 0)), (8, .int (nI 2)), (7, .int (nI 0)), (0, .ref (g.1 158)), (1, .int (nI 0)), (2, .int (nI 3)), (3, .int (nI 1))] dX6_ordered_102 (by decide) rfl ?_
  refine x_iinc_n h 5 (n := 1) [(7, .int (nI 1)), (4, .int (nI 1)), (6, .int (nI 0)), (5, .int (nI 0)), (9, .int (nI 0)), (8, .int (nI 2)), (0, .ref (g.1 158)), (1, .int (nI 0)), (2, .int (nI 3)), (3, .int (nI 1))] dX6_ordered_104 rfl (by decide) rfl ?_
  refine x_goto h 12 dX6_ordered_107 (by decide) ?_
  refine x_iload h 0 dX6_ordered_12 rfl ?_
  refine x_iload_n h 9 dX6_ordered_14 rfl rfl ?_
  refine x_icmp_gt h 110 dX6_ordered_15 (by decide) (fun c => absurd c (by decide)) (fun _ => ?_)
  refine x_iload_n h 8 dX6_ordered_18 rfl rfl ?_
  refine x_iconst h (nI 1) dX6_ordered_19 (by decide) ?_
  refine x_isub h dX6_ordered_20 ?_
  refine x_top (nI 2) (by decide) ?_
  refine x_iload h 0 dX6_ordered_21 rfl ?_
  refine x_isub h dX6_ordered_23 ?_
  refine x_top (nI 1) (by decide) ?_
  refine x_iconst h (nI 2) dX6_ordered_24 (by decide) ?_
  refine x_icmp_ne h 32 dX6_ordered_25 (by decide) (fun _ => ?_) (fun c => absurd c (by decide))
  refine x_iconst h (nI 1) dX6_ordered_32 (by decide) ?_
  refine x_istore h [(8, .int (nI 1)), (7, .int (nI 1)), (4, .int (nI 1)), (6, .int (nI 0)), (5, .int (nI 0)), (9, .int (nI 0)), (0, .ref (g.1 158)), (1, .int (nI 0)), (2, .int (nI 3)), (3, .int (nI 1))] dX6_ordered_33 (by decide) rfl ?_
  refine x_iload h 4 dX6_ordered_35 rfl ?_
  refine x_iload h 0 dX6_ordered_37 rfl ?_
  refine x_idiv h dX6_ordered_39 (by decide) ?_
  refine x_top (nI 0) (by decide) ?_
  refine x_istore h [(9, .int (nI 0)), (8, .int (nI 1)), (7, .int (nI 1)), (4, .int (nI 1)), (6, .int (nI 0)), (5, .int (nI 0)), (0, .ref (g.1 158)), (1, .int (nI 0)), (2, .int (nI 3)), (3, .int (nI 1))] dX6_ordered_40 (by decide) rfl ?_
  refine x_iload h 5 dX6_ordered_42 rfl ?_
  refine x_iload h 1 dX6_ordered_44 rfl ?_
  refine x_irem h dX6_ordered_46 (by decide) ?_
  refine x_top (nI 0) (by decide) ?_
  refine x_istore h [(5, .int (nI 0)), (9, .int (nI 0)), (8, .int (nI 1)), (7, .int (nI 1)), (4, .int (nI 1)), (6, .int (nI 0)), (0, .ref (g.1 158)), (1, .int (nI 0)), (2, .int (nI 3)), (3, .int (nI 1))] dX6_ordered_47 (by decide) rfl ?_
  refine x_iconst h (nI 0) dX6_ordered_49 (by decide) ?_
  refine x_istore h [(6, .int (nI 0)), (5, .int (nI 0)), (9, .int (nI 0)), (8, .int (nI 1)), (7, .int (nI 1)), (4, .int (nI 1)), (0, .ref (g.1 158)), (1, .int (nI 0)), (2, .int (nI 3)), (3, .int (nI 1))] dX6_ordered_50 (by decide) rfl ?_
  refine x_iload h 5 dX6_ordered_52 rfl ?_
  refine x_iload h 0 dX6_ordered_54 rfl ?_
  refine x_ishr h dX6_ordered_56 ?_
  refine x_top (nI 1) (by decide) ?_
  refine x_iconst h (nI 1) dX6_ordered_57 (by decide) ?_
  refine x_iand h dX6_ordered_58 ?_
  refine x_top (nI 1) (by decide) ?_
  refine x_iconst h (nI 1) dX6_ordered_59 (by decide) ?_
  refine x_icmp_eq h 68 dX6_ordered_60 (by decide) (fun _ => ?_) (fun c => absurd (by decide) c)
  refine x_iload h 2 dX6_ordered_68 rfl ?_
  refine x_iload h 5 dX6_ordered_70 rfl ?_
  refine x_iload h 0 dX6_ordered_72 rfl ?_
  refine x_ishr h dX6_ordered_74 ?_
  refine x_top (nI 1) (by decide) ?_
  refine x_iconst h (nI 1) dX6_ordered_75 (by decide) ?_
  refine x_iand h dX6_ordered_76 ?_
  refine x_top (nI 1) (by decide) ?_
  refine x_iconst h (nI 1) dX6_ordered_77 (by decide) ?_
  refine x_icmp_ne h 85 dX6_ordered_78 (by decide) (fun c => absurd c (by decide)) (fun _ => ?_)
  refine x_iconst h (nI 0) dX6_ordered_81 (by decide) ?_
  refine x_goto h 86 dX6_ordered_82 (by decide) ?_
  refine x_isub h dX6_ordered_86 ?_
  refine x_top (nI 0) (by decide) ?_
  refine x_istore h [(9, .int (nI 0)), (6, .int (nI 0)), (5, .int (nI 0)), (8, .int (nI 1)), (7, .int (nI 1)), (4, .int (nI 1)), (0, .ref (g.1 158)), (1, .int (nI 0)), (2, .int (nI 3)), (3, .int (nI 1))] dX6_ordered_87 (by decide) rfl ?_
  refine x_iinc_n h 1 (n := 1) [(6, .int (nI 1)), (9, .int (nI 0)), (5, .int (nI 0)), (8, .int (nI 1)), (7, .int (nI 1)), (4, .int (nI 1)), (0, .ref (g.1 158)), (1, .int (nI 0)), (2, .int (nI 3)), (3, .int (nI 1))] dX6_ordered_89 rfl (by decide) rfl ?_
  refine x_goto h 52 dX6_ordered_92 (by decide) ?_
  refine x_iload h 5 dX6_ordered_52 rfl ?_
  refine x_iload h 0 dX6_ordered_54 rfl ?_
  refine x_ishr h dX6_ordered_56 ?_
  refine x_top (nI 0) (by decide) ?_
  refine x_iconst h (nI 1) dX6_ordered_57 (by decide) ?_
  refine x_iand h dX6_ordered_58 ?_
  refine x_top (nI 0) (by decide) ?_
  refine x_iconst h (nI 1) dX6_ordered_59 (by decide) ?_
  refine x_icmp_eq h 68 dX6_ordered_60 (by decide) (fun c => absurd c (by decide)) (fun _ => ?_)
  refine x_iload h 1 dX6_ordered_63 rfl ?_
  refine x_if_le h 95 dX6_ordered_65 (by decide) (fun _ => ?_) (fun c => absurd (by decide) c)
  refine x_iload h 5 dX6_ordered_95 rfl ?_
  refine x_iconst h (nI 1) dX6_ordered_97 (by decide) ?_
  refine x_iload h 0 dX6_ordered_98 rfl ?_
  refine x_ishl h dX6_ordered_100 ?_
  refine x_top (nI 2) (by decide) ?_
  refine x_ior h dX6_ordered_101 ?_
  refine x_top (nI 3) (by decide) ?_
  refine x_istore h [(4, .int (nI 3)), (6, .int (nI 1)), (9, .int (nI 0)), (5, .int (nI 0)), (8, .int (nI 1)), (7, .int (nI 1)), (0, .ref (g.1 158)), (1, .int (nI 0)), (2, .int (nI 3)), (3, .int (nI 1))] dX6_ordered_102 (by decide) rfl ?_
  refine x_iinc_n h 5 (n := 1) [(7, .int (nI 2)), (4, .int (nI 3)), (6, .int (nI 1)), (9, .int (nI 0)), (5, .int (nI 0)), (8, .int (nI 1)), (0, .ref (g.1 158)), (1, .int (nI 0)), (2, .int (nI 3)), (3, .int (nI 1))] dX6_ordered_104 rfl (by decide) rfl ?_
  refine x_goto h 12 dX6_ordered_107 (by decide) ?_
  refine x_iload h 0 dX6_ordered_12 rfl ?_
  refine x_iload_n h 9 dX6_ordered_14 rfl rfl ?_
  refine x_icmp_gt h 110 dX6_ordered_15 (by decide) (fun _ => ?_) (fun c => absurd (by decide) c)
  refine x_aload_n h 6 dX6_ordered_110 rfl rfl ?_
  refine xg_X6_14 h in_X6_ordered_X6 (by decide +kernel) dX6_ordered_111 ?_
  refine x_iload h 2 dX6_ordered_114 rfl ?_
  refine xl_167 h dX6_ordered_116 (by decide) ?_
  exact hret _ _ _ _ _ dX6_ordered_117 (by exact ⟨⟨rfl, rfl⟩, congrArg (M 167) (by decide)⟩)

set_option maxRecDepth 100000 in
set_option maxHeartbeats 4000000 in
theorem c_X6_ordered_302 {l : Launch} {g : Geo} {M : Nat → Nat → Int32} {P : Nat → Nat}  : Met l yX6_ordered wsX6_ordered rmX6_ordered (cPre g [.ref (g.1 158), .int (nI 0), .int (nI 3), .int (nI 2)] M P) (cQi g (fun r M' P' => (P = P' ∧ M = M') ∧ r = M 167 (pmM 3 0 2))) 0 0 (gA g) := by
  refine met_i (cc := cX6_ordered) (maxL := 10) (by decide) rfl ⟨rfl, rfl⟩ (Nat.le_of_ble_eq_true rfl) (fun x hx h hret => ?_)
  replace h : Cxk x g cX6_ordered 10 wsX6_ordered RX6 rmX6_ordered := h
  show X x 0 [(0, .ref (g.1 158)), (1, .int (nI 0)), (2, .int (nI 3)), (3, .int (nI 2))] [] M P
  refine x_iconst h (nI 0) dX6_ordered_0 (by decide) ?_
  refine x_istore h [(4, .int (nI 0)), (0, .ref (g.1 158)), (1, .int (nI 0)), (2, .int (nI 3)), (3, .int (nI 2))] dX6_ordered_1 (by decide) rfl ?_
  refine x_iload_n h 2 dX6_ordered_3 rfl rfl ?_
  refine x_istore h [(5, .int (nI 0)), (4, .int (nI 0)), (0, .ref (g.1 158)), (1, .int (nI 0)), (2, .int (nI 3)), (3, .int (nI 2))] dX6_ordered_4 (by decide) rfl ?_
  refine x_iconst h (nI 0) dX6_ordered_6 (by decide) ?_
  refine x_istore h [(6, .int (nI 0)), (5, .int (nI 0)), (4, .int (nI 0)), (0, .ref (g.1 158)), (1, .int (nI 0)), (2, .int (nI 3)), (3, .int (nI 2))] dX6_ordered_7 (by decide) rfl ?_
  refine x_iconst h (nI 0) dX6_ordered_9 (by decide) ?_
  refine x_istore h [(7, .int (nI 0)), (6, .int (nI 0)), (5, .int (nI 0)), (4, .int (nI 0)), (0, .ref (g.1 158)), (1, .int (nI 0)), (2, .int (nI 3)), (3, .int (nI 2))] dX6_ordered_10 (by decide) rfl ?_
  refine x_iload h 0 dX6_ordered_12 rfl ?_
  refine x_iload_n h 7 dX6_ordered_14 rfl rfl ?_
  refine x_icmp_gt h 110 dX6_ordered_15 (by decide) (fun c => absurd c (by decide)) (fun _ => ?_)
  refine x_iload_n h 6 dX6_ordered_18 rfl rfl ?_
  refine x_iconst h (nI 1) dX6_ordered_19 (by decide) ?_
  refine x_isub h dX6_ordered_20 ?_
  refine x_top (nI 2) (by decide) ?_
  refine x_iload h 0 dX6_ordered_21 rfl ?_
  refine x_isub h dX6_ordered_23 ?_
  refine x_top (nI 2) (by decide) ?_
  refine x_iconst h (nI 2) dX6_ordered_24 (by decide) ?_
  refine x_icmp_ne h 32 dX6_ordered_25 (by decide) (fun c => absurd c (by decide)) (fun _ => ?_)
  refine x_iconst h (nI 2) dX6_ordered_28 (by decide) ?_
  refine x_goto h 33 dX6_ordered_29 (by decide) ?_
  refine x_istore h [(8, .int (nI 2)), (7, .int (nI 0)), (6, .int (nI 0)), (5, .int (nI 0)), (4, .int (nI 0)), (0, .ref (g.1 158)), (1, .int (nI 0)), (2, .int (nI 3)), (3, .int (nI 2))] dX6_ordered_33 (by decide) rfl ?_
  refine x_iload h 3 dX6_ordered_35 rfl ?_
  refine x_iload h 0 dX6_ordered_37 rfl ?_
  refine x_idiv h dX6_ordered_39 (by decide) ?_
  refine x_top (nI 0) (by decide) ?_
  refine x_istore h [(9, .int (nI 0)), (8, .int (nI 2)), (7, .int (nI 0)), (6, .int (nI 0)), (5, .int (nI 0)), (4, .int (nI 0)), (0, .ref (g.1 158)), (1, .int (nI 0)), (2, .int (nI 3)), (3, .int (nI 2))] dX6_ordered_40 (by decide) rfl ?_
  refine x_iload h 4 dX6_ordered_42 rfl ?_
  refine x_iload h 1 dX6_ordered_44 rfl ?_
  refine x_irem h dX6_ordered_46 (by decide) ?_
  refine x_top (nI 0) (by decide) ?_
  refine x_istore h [(5, .int (nI 0)), (9, .int (nI 0)), (8, .int (nI 2)), (7, .int (nI 0)), (6, .int (nI 0)), (4, .int (nI 0)), (0, .ref (g.1 158)), (1, .int (nI 0)), (2, .int (nI 3)), (3, .int (nI 2))] dX6_ordered_47 (by decide) rfl ?_
  refine x_iconst h (nI 0) dX6_ordered_49 (by decide) ?_
  refine x_istore h [(6, .int (nI 0)), (5, .int (nI 0)), (9, .int (nI 0)), (8, .int (nI 2)), (7, .int (nI 0)), (4, .int (nI 0)), (0, .ref (g.1 158)), (1, .int (nI 0)), (2, .int (nI 3)), (3, .int (nI 2))] dX6_ordered_50 (by decide) rfl ?_
  refine x_iload h 5 dX6_ordered_52 rfl ?_
  refine x_iload h 0 dX6_ordered_54 rfl ?_
  refine x_ishr h dX6_ordered_56 ?_
  refine x_top (nI 0) (by decide) ?_
  refine x_iconst h (nI 1) dX6_ordered_57 (by decide) ?_
  refine x_iand h dX6_ordered_58 ?_
  refine x_top (nI 0) (by decide) ?_
  refine x_iconst h (nI 1) dX6_ordered_59 (by decide) ?_
  refine x_icmp_eq h 68 dX6_ordered_60 (by decide) (fun c => absurd c (by decide)) (fun _ => ?_)
  refine x_iload h 2 dX6_ordered_63 rfl ?_
  refine x_if_le h 95 dX6_ordered_65 (by decide) (fun _ => ?_) (fun c => absurd (by decide) c)
  refine x_iload h 5 dX6_ordered_95 rfl ?_
  refine x_iconst h (nI 1) dX6_ordered_97 (by decide) ?_
  refine x_iload h 0 dX6_ordered_98 rfl ?_
  refine x_ishl h dX6_ordered_100 ?_
  refine x_top (nI 1) (by decide) ?_
  refine x_ior h dX6_ordered_101 ?_
  refine x_top (nI 1) (by decide) ?_
  refine x_istore h [(4, .int (nI 1)), (6, .int (nI 0)), (5, .int (nI 0)), (9, .int (nI 0)), (8, .int (nI 2)), (7, .int (nI 0)), (0, .ref (g.1 158)), (1, .int (nI 0)), (2, .int (nI 3)), (3, .int (nI 2))] dX6_ordered_102 (by decide) rfl ?_
  refine x_iinc_n h 5 (n := 1) [(7, .int (nI 1)), (4, .int (nI 1)), (6, .int (nI 0)), (5, .int (nI 0)), (9, .int (nI 0)), (8, .int (nI 2)), (0, .ref (g.1 158)), (1, .int (nI 0)), (2, .int (nI 3)), (3, .int (nI 2))] dX6_ordered_104 rfl (by decide) rfl ?_
  refine x_goto h 12 dX6_ordered_107 (by decide) ?_
  refine x_iload h 0 dX6_ordered_12 rfl ?_
  refine x_iload_n h 9 dX6_ordered_14 rfl rfl ?_
  refine x_icmp_gt h 110 dX6_ordered_15 (by decide) (fun c => absurd c (by decide)) (fun _ => ?_)
  refine x_iload_n h 8 dX6_ordered_18 rfl rfl ?_
  refine x_iconst h (nI 1) dX6_ordered_19 (by decide) ?_
  refine x_isub h dX6_ordered_20 ?_
  refine x_top (nI 2) (by decide) ?_
  refine x_iload h 0 dX6_ordered_21 rfl ?_
  refine x_isub h dX6_ordered_23 ?_
  refine x_top (nI 1) (by decide) ?_
  refine x_iconst h (nI 2) dX6_ordered_24 (by decide) ?_
  refine x_icmp_ne h 32 dX6_ordered_25 (by decide) (fun _ => ?_) (fun c => absurd c (by decide))
  refine x_iconst h (nI 1) dX6_ordered_32 (by decide) ?_
  refine x_istore h [(8, .int (nI 1)), (7, .int (nI 1)), (4, .int (nI 1)), (6, .int (nI 0)), (5, .int (nI 0)), (9, .int (nI 0)), (0, .ref (g.1 158)), (1, .int (nI 0)), (2, .int (nI 3)), (3, .int (nI 2))] dX6_ordered_33 (by decide) rfl ?_
  refine x_iload h 4 dX6_ordered_35 rfl ?_
  refine x_iload h 0 dX6_ordered_37 rfl ?_
  refine x_idiv h dX6_ordered_39 (by decide) ?_
  refine x_top (nI 0) (by decide) ?_
  refine x_istore h [(9, .int (nI 0)), (8, .int (nI 1)), (7, .int (nI 1)), (4, .int (nI 1)), (6, .int (nI 0)), (5, .int (nI 0)), (0, .ref (g.1 158)), (1, .int (nI 0)), (2, .int (nI 3)), (3, .int (nI 2))] dX6_ordered_40 (by decide) rfl ?_
  refine x_iload h 5 dX6_ordered_42 rfl ?_
  refine x_iload h 1 dX6_ordered_44 rfl ?_
  refine x_irem h dX6_ordered_46 (by decide) ?_
  refine x_top (nI 0) (by decide) ?_
  refine x_istore h [(5, .int (nI 0)), (9, .int (nI 0)), (8, .int (nI 1)), (7, .int (nI 1)), (4, .int (nI 1)), (6, .int (nI 0)), (0, .ref (g.1 158)), (1, .int (nI 0)), (2, .int (nI 3)), (3, .int (nI 2))] dX6_ordered_47 (by decide) rfl ?_
  refine x_iconst h (nI 0) dX6_ordered_49 (by decide) ?_
  refine x_istore h [(6, .int (nI 0)), (5, .int (nI 0)), (9, .int (nI 0)), (8, .int (nI 1)), (7, .int (nI 1)), (4, .int (nI 1)), (0, .ref (g.1 158)), (1, .int (nI 0)), (2, .int (nI 3)), (3, .int (nI 2))] dX6_ordered_50 (by decide) rfl ?_
  refine x_iload h 5 dX6_ordered_52 rfl ?_
  refine x_iload h 0 dX6_ordered_54 rfl ?_
  refine x_ishr h dX6_ordered_56 ?_
  refine x_top (nI 1) (by decide) ?_
  refine x_iconst h (nI 1) dX6_ordered_57 (by decide) ?_
  refine x_iand h dX6_ordered_58 ?_
  refine x_top (nI 1) (by decide) ?_
  refine x_iconst h (nI 1) dX6_ordered_59 (by decide) ?_
  refine x_icmp_eq h 68 dX6_ordered_60 (by decide) (fun _ => ?_) (fun c => absurd (by decide) c)
  refine x_iload h 2 dX6_ordered_68 rfl ?_
  refine x_iload h 5 dX6_ordered_70 rfl ?_
  refine x_iload h 0 dX6_ordered_72 rfl ?_
  refine x_ishr h dX6_ordered_74 ?_
  refine x_top (nI 1) (by decide) ?_
  refine x_iconst h (nI 1) dX6_ordered_75 (by decide) ?_
  refine x_iand h dX6_ordered_76 ?_
  refine x_top (nI 1) (by decide) ?_
  refine x_iconst h (nI 1) dX6_ordered_77 (by decide) ?_
  refine x_icmp_ne h 85 dX6_ordered_78 (by decide) (fun c => absurd c (by decide)) (fun _ => ?_)
  refine x_iconst h (nI 0) dX6_ordered_81 (by decide) ?_
  refine x_goto h 86 dX6_ordered_82 (by decide) ?_
  refine x_isub h dX6_ordered_86 ?_
  refine x_top (nI 0) (by decide) ?_
  refine x_istore h [(9, .int (nI 0)), (6, .int (nI 0)), (5, .int (nI 0)), (8, .int (nI 1)), (7, .int (nI 1)), (4, .int (nI 1)), (0, .ref (g.1 158)), (1, .int (nI 0)), (2, .int (nI 3)), (3, .int (nI 2))] dX6_ordered_87 (by decide) rfl ?_
  refine x_iinc_n h 1 (n := 1) [(6, .int (nI 1)), (9, .int (nI 0)), (5, .int (nI 0)), (8, .int (nI 1)), (7, .int (nI 1)), (4, .int (nI 1)), (0, .ref (g.1 158)), (1, .int (nI 0)), (2, .int (nI 3)), (3, .int (nI 2))] dX6_ordered_89 rfl (by decide) rfl ?_
  refine x_goto h 52 dX6_ordered_92 (by decide) ?_
  refine x_iload h 5 dX6_ordered_52 rfl ?_
  refine x_iload h 0 dX6_ordered_54 rfl ?_
  refine x_ishr h dX6_ordered_56 ?_
  refine x_top (nI 0) (by decide) ?_
  refine x_iconst h (nI 1) dX6_ordered_57 (by decide) ?_
  refine x_iand h dX6_ordered_58 ?_
  refine x_top (nI 0) (by decide) ?_
  refine x_iconst h (nI 1) dX6_ordered_59 (by decide) ?_
  refine x_icmp_eq h 68 dX6_ordered_60 (by decide) (fun c => absurd c (by decide)) (fun _ => ?_)
  refine x_iload h 1 dX6_ordered_63 rfl ?_
  refine x_if_le h 95 dX6_ordered_65 (by decide) (fun _ => ?_) (fun c => absurd (by decide) c)
  refine x_iload h 5 dX6_ordered_95 rfl ?_
  refine x_iconst h (nI 1) dX6_ordered_97 (by decide) ?_
  refine x_iload h 0 dX6_ordered_98 rfl ?_
  refine x_ishl h dX6_ordered_100 ?_
  refine x_top (nI 2) (by decide) ?_
  refine x_ior h dX6_ordered_101 ?_
  refine x_top (nI 3) (by decide) ?_
  refine x_istore h [(4, .int (nI 3)), (6, .int (nI 1)), (9, .int (nI 0)), (5, .int (nI 0)), (8, .int (nI 1)), (7, .int (nI 1)), (0, .ref (g.1 158)), (1, .int (nI 0)), (2, .int (nI 3)), (3, .int (nI 2))] dX6_ordered_102 (by decide) rfl ?_
  refine x_iinc_n h 5 (n := 1) [(7, .int (nI 2)), (4, .int (nI 3)), (6, .int (nI 1)), (9, .int (nI 0)), (5, .int (nI 0)), (8, .int (nI 1)), (0, .ref (g.1 158)), (1, .int (nI 0)), (2, .int (nI 3)), (3, .int (nI 2))] dX6_ordered_104 rfl (by decide) rfl ?_
  refine x_goto h 12 dX6_ordered_107 (by decide) ?_
  refine x_iload h 0 dX6_ordered_12 rfl ?_
  refine x_iload_n h 9 dX6_ordered_14 rfl rfl ?_
  refine x_icmp_gt h 110 dX6_ordered_15 (by decide) (fun c => absurd c (by decide)) (fun _ => ?_)
  refine x_iload_n h 8 dX6_ordered_18 rfl rfl ?_
  refine x_iconst h (nI 1) dX6_ordered_19 (by decide) ?_
  refine x_isub h dX6_ordered_20 ?_
  refine x_top (nI 2) (by decide) ?_
  refine x_iload h 0 dX6_ordered_21 rfl ?_
  refine x_isub h dX6_ordered_23 ?_
  refine x_top (nI 0) (by decide) ?_
  refine x_iconst h (nI 2) dX6_ordered_24 (by decide) ?_
  refine x_icmp_ne h 32 dX6_ordered_25 (by decide) (fun _ => ?_) (fun c => absurd c (by decide))
  refine x_iconst h (nI 1) dX6_ordered_32 (by decide) ?_
  refine x_istore h [(8, .int (nI 1)), (7, .int (nI 2)), (4, .int (nI 3)), (6, .int (nI 1)), (9, .int (nI 0)), (5, .int (nI 0)), (0, .ref (g.1 158)), (1, .int (nI 0)), (2, .int (nI 3)), (3, .int (nI 2))] dX6_ordered_33 (by decide) rfl ?_
  refine x_iload h 5 dX6_ordered_35 rfl ?_
  refine x_iload h 0 dX6_ordered_37 rfl ?_
  refine x_idiv h dX6_ordered_39 (by decide) ?_
  refine x_top (nI 0) (by decide) ?_
  refine x_istore h [(9, .int (nI 0)), (8, .int (nI 1)), (7, .int (nI 2)), (4, .int (nI 3)), (6, .int (nI 1)), (5, .int (nI 0)), (0, .ref (g.1 158)), (1, .int (nI 0)), (2, .int (nI 3)), (3, .int (nI 2))] dX6_ordered_40 (by decide) rfl ?_
  refine x_iload h 5 dX6_ordered_42 rfl ?_
  refine x_iload h 1 dX6_ordered_44 rfl ?_
  refine x_irem h dX6_ordered_46 (by decide) ?_
  refine x_top (nI 0) (by decide) ?_
  refine x_istore h [(5, .int (nI 0)), (9, .int (nI 0)), (8, .int (nI 1)), (7, .int (nI 2)), (4, .int (nI 3)), (6, .int (nI 1)), (0, .ref (g.1 158)), (1, .int (nI 0)), (2, .int (nI 3)), (3, .int (nI 2))] dX6_ordered_47 (by decide) rfl ?_
  refine x_iconst h (nI 0) dX6_ordered_49 (by decide) ?_
  refine x_istore h [(6, .int (nI 0)), (5, .int (nI 0)), (9, .int (nI 0)), (8, .int (nI 1)), (7, .int (nI 2)), (4, .int (nI 3)), (0, .ref (g.1 158)), (1, .int (nI 0)), (2, .int (nI 3)), (3, .int (nI 2))] dX6_ordered_50 (by decide) rfl ?_
  refine x_iload h 5 dX6_ordered_52 rfl ?_
  refine x_iload h 0 dX6_ordered_54 rfl ?_
  refine x_ishr h dX6_ordered_56 ?_
  refine x_top (nI 3) (by decide) ?_
  refine x_iconst h (nI 1) dX6_ordered_57 (by decide) ?_
  refine x_iand h dX6_ordered_58 ?_
  refine x_top (nI 1) (by decide) ?_
  refine x_iconst h (nI 1) dX6_ordered_59 (by decide) ?_
  refine x_icmp_eq h 68 dX6_ordered_60 (by decide) (fun _ => ?_) (fun c => absurd (by decide) c)
  refine x_iload h 2 dX6_ordered_68 rfl ?_
  refine x_iload h 5 dX6_ordered_70 rfl ?_
  refine x_iload h 0 dX6_ordered_72 rfl ?_
  refine x_ishr h dX6_ordered_74 ?_
  refine x_top (nI 3) (by decide) ?_
  refine x_iconst h (nI 1) dX6_ordered_75 (by decide) ?_
  refine x_iand h dX6_ordered_76 ?_
  refine x_top (nI 1) (by decide) ?_
  refine x_iconst h (nI 1) dX6_ordered_77 (by decide) ?_
  refine x_icmp_ne h 85 dX6_ordered_78 (by decide) (fun c => absurd c (by decide)) (fun _ => ?_)
  refine x_iconst h (nI 0) dX6_ordered_81 (by decide) ?_
  refine x_goto h 86 dX6_ordered_82 (by decide) ?_
  refine x_isub h dX6_ordered_86 ?_
  refine x_top (nI 0) (by decide) ?_
  refine x_istore h [(9, .int (nI 0)), (6, .int (nI 0)), (5, .int (nI 0)), (8, .int (nI 1)), (7, .int (nI 2)), (4, .int (nI 3)), (0, .ref (g.1 158)), (1, .int (nI 0)), (2, .int (nI 3)), (3, .int (nI 2))] dX6_ordered_87 (by decide) rfl ?_
  refine x_iinc_n h 1 (n := 1) [(6, .int (nI 1)), (9, .int (nI 0)), (5, .int (nI 0)), (8, .int (nI 1)), (7, .int (nI 2)), (4, .int (nI 3)), (0, .ref (g.1 158)), (1, .int (nI 0)), (2, .int (nI 3)), (3, .int (nI 2))] dX6_ordered_89 rfl (by decide) rfl ?_
  refine x_goto h 52 dX6_ordered_92 (by decide) ?_
  refine x_iload h 5 dX6_ordered_52 rfl ?_
  refine x_iload h 0 dX6_ordered_54 rfl ?_
  refine x_ishr h dX6_ordered_56 ?_
  refine x_top (nI 1) (by decide) ?_
  refine x_iconst h (nI 1) dX6_ordered_57 (by decide) ?_
  refine x_iand h dX6_ordered_58 ?_
  refine x_top (nI 1) (by decide) ?_
  refine x_iconst h (nI 1) dX6_ordered_59 (by decide) ?_
  refine x_icmp_eq h 68 dX6_ordered_60 (by decide) (fun _ => ?_) (fun c => absurd (by decide) c)
  refine x_iload h 1 dX6_ordered_68 rfl ?_
  refine x_iload h 5 dX6_ordered_70 rfl ?_
  refine x_iload h 0 dX6_ordered_72 rfl ?_
  refine x_ishr h dX6_ordered_74 ?_
  refine x_top (nI 1) (by decide) ?_
  refine x_iconst h (nI 1) dX6_ordered_75 (by decide) ?_
  refine x_iand h dX6_ordered_76 ?_
  refine x_top (nI 1) (by decide) ?_
  refine x_iconst h (nI 1) dX6_ordered_77 (by decide) ?_
  refine x_icmp_ne h 85 dX6_ordered_78 (by decide) (fun c => absurd c (by decide)) (fun _ => ?_)
  refine x_iconst h (nI 0) dX6_ordered_81 (by decide) ?_
  refine x_goto h 86 dX6_ordered_82 (by decide) ?_
  refine x_isub h dX6_ordered_86 ?_
  refine x_top (nI 0) (by decide) ?_
  refine x_istore h [(9, .int (nI 0)), (6, .int (nI 1)), (5, .int (nI 0)), (8, .int (nI 1)), (7, .int (nI 2)), (4, .int (nI 3)), (0, .ref (g.1 158)), (1, .int (nI 0)), (2, .int (nI 3)), (3, .int (nI 2))] dX6_ordered_87 (by decide) rfl ?_
  refine x_iinc_n h 1 (n := 1) [(6, .int (nI 2)), (9, .int (nI 0)), (5, .int (nI 0)), (8, .int (nI 1)), (7, .int (nI 2)), (4, .int (nI 3)), (0, .ref (g.1 158)), (1, .int (nI 0)), (2, .int (nI 3)), (3, .int (nI 2))] dX6_ordered_89 rfl (by decide) rfl ?_
  refine x_goto h 52 dX6_ordered_92 (by decide) ?_
  refine x_iload h 5 dX6_ordered_52 rfl ?_
  refine x_iload h 0 dX6_ordered_54 rfl ?_
  refine x_ishr h dX6_ordered_56 ?_
  refine x_top (nI 0) (by decide) ?_
  refine x_iconst h (nI 1) dX6_ordered_57 (by decide) ?_
  refine x_iand h dX6_ordered_58 ?_
  refine x_top (nI 0) (by decide) ?_
  refine x_iconst h (nI 1) dX6_ordered_59 (by decide) ?_
  refine x_icmp_eq h 68 dX6_ordered_60 (by decide) (fun c => absurd c (by decide)) (fun _ => ?_)
  refine x_iload h 1 dX6_ordered_63 rfl ?_
  refine x_if_le h 95 dX6_ordered_65 (by decide) (fun _ => ?_) (fun c => absurd (by decide) c)
  refine x_iload h 5 dX6_ordered_95 rfl ?_
  refine x_iconst h (nI 1) dX6_ordered_97 (by decide) ?_
  refine x_iload h 0 dX6_ordered_98 rfl ?_
  refine x_ishl h dX6_ordered_100 ?_
  refine x_top (nI 4) (by decide) ?_
  refine x_ior h dX6_ordered_101 ?_
  refine x_top (nI 7) (by decide) ?_
  refine x_istore h [(4, .int (nI 7)), (6, .int (nI 2)), (9, .int (nI 0)), (5, .int (nI 0)), (8, .int (nI 1)), (7, .int (nI 2)), (0, .ref (g.1 158)), (1, .int (nI 0)), (2, .int (nI 3)), (3, .int (nI 2))] dX6_ordered_102 (by decide) rfl ?_
  refine x_iinc_n h 5 (n := 1) [(7, .int (nI 3)), (4, .int (nI 7)), (6, .int (nI 2)), (9, .int (nI 0)), (5, .int (nI 0)), (8, .int (nI 1)), (0, .ref (g.1 158)), (1, .int (nI 0)), (2, .int (nI 3)), (3, .int (nI 2))] dX6_ordered_104 rfl (by decide) rfl ?_
  refine x_goto h 12 dX6_ordered_107 (by decide) ?_
  refine x_iload h 0 dX6_ordered_12 rfl ?_
  refine x_iload_n h 9 dX6_ordered_14 rfl rfl ?_
  refine x_icmp_gt h 110 dX6_ordered_15 (by decide) (fun _ => ?_) (fun c => absurd (by decide) c)
  refine x_aload_n h 6 dX6_ordered_110 rfl rfl ?_
  refine xg_X6_14 h in_X6_ordered_X6 (by decide +kernel) dX6_ordered_111 ?_
  refine x_iload h 2 dX6_ordered_114 rfl ?_
  refine xl_167 h dX6_ordered_116 (by decide) ?_
  exact hret _ _ _ _ _ dX6_ordered_117 (by exact ⟨⟨rfl, rfl⟩, congrArg (M 167) (by decide)⟩)

set_option maxRecDepth 100000 in
set_option maxHeartbeats 4000000 in
theorem c_X6_ordered_310 {l : Launch} {g : Geo} {M : Nat → Nat → Int32} {P : Nat → Nat}  : Met l yX6_ordered wsX6_ordered rmX6_ordered (cPre g [.ref (g.1 158), .int (nI 1), .int (nI 3), .int (nI 0)] M P) (cQi g (fun r M' P' => (P = P' ∧ M = M') ∧ r = M 167 (pmM 3 1 0))) 0 0 (gA g) := by
  refine met_i (cc := cX6_ordered) (maxL := 10) (by decide) rfl ⟨rfl, rfl⟩ (Nat.le_of_ble_eq_true rfl) (fun x hx h hret => ?_)
  replace h : Cxk x g cX6_ordered 10 wsX6_ordered RX6 rmX6_ordered := h
  show X x 0 [(0, .ref (g.1 158)), (1, .int (nI 1)), (2, .int (nI 3)), (3, .int (nI 0))] [] M P
  refine x_iconst h (nI 0) dX6_ordered_0 (by decide) ?_
  refine x_istore h [(4, .int (nI 0)), (0, .ref (g.1 158)), (1, .int (nI 1)), (2, .int (nI 3)), (3, .int (nI 0))] dX6_ordered_1 (by decide) rfl ?_
  refine x_iload_n h 2 dX6_ordered_3 rfl rfl ?_
  refine x_istore h [(5, .int (nI 1)), (4, .int (nI 0)), (0, .ref (g.1 158)), (1, .int (nI 1)), (2, .int (nI 3)), (3, .int (nI 0))] dX6_ordered_4 (by decide) rfl ?_
  refine x_iconst h (nI 0) dX6_ordered_6 (by decide) ?_
  refine x_istore h [(6, .int (nI 0)), (5, .int (nI 1)), (4, .int (nI 0)), (0, .ref (g.1 158)), (1, .int (nI 1)), (2, .int (nI 3)), (3, .int (nI 0))] dX6_ordered_7 (by decide) rfl ?_
  refine x_iconst h (nI 0) dX6_ordered_9 (by decide) ?_
  refine x_istore h [(7, .int (nI 0)), (6, .int (nI 0)), (5, .int (nI 1)), (4, .int (nI 0)), (0, .ref (g.1 158)), (1, .int (nI 1)), (2, .int (nI 3)), (3, .int (nI 0))] dX6_ordered_10 (by decide) rfl ?_
  refine x_iload h 0 dX6_ordered_12 rfl ?_
  refine x_iload_n h 7 dX6_ordered_14 rfl rfl ?_
  refine x_icmp_gt h 110 dX6_ordered_15 (by decide) (fun c => absurd c (by decide)) (fun _ => ?_)
  refine x_iload_n h 6 dX6_ordered_18 rfl rfl ?_
  refine x_iconst h (nI 1) dX6_ordered_19 (by decide) ?_
  refine x_isub h dX6_ordered_20 ?_
  refine x_top (nI 2) (by decide) ?_
  refine x_iload h 0 dX6_ordered_21 rfl ?_
  refine x_isub h dX6_ordered_23 ?_
  refine x_top (nI 2) (by decide) ?_
  refine x_iconst h (nI 2) dX6_ordered_24 (by decide) ?_
  refine x_icmp_ne h 32 dX6_ordered_25 (by decide) (fun c => absurd c (by decide)) (fun _ => ?_)
  refine x_iconst h (nI 2) dX6_ordered_28 (by decide) ?_
  refine x_goto h 33 dX6_ordered_29 (by decide) ?_
  refine x_istore h [(8, .int (nI 2)), (7, .int (nI 0)), (6, .int (nI 0)), (5, .int (nI 1)), (4, .int (nI 0)), (0, .ref (g.1 158)), (1, .int (nI 1)), (2, .int (nI 3)), (3, .int (nI 0))] dX6_ordered_33 (by decide) rfl ?_
  refine x_iload h 3 dX6_ordered_35 rfl ?_
  refine x_iload h 0 dX6_ordered_37 rfl ?_
  refine x_idiv h dX6_ordered_39 (by decide) ?_
  refine x_top (nI 0) (by decide) ?_
  refine x_istore h [(9, .int (nI 0)), (8, .int (nI 2)), (7, .int (nI 0)), (6, .int (nI 0)), (5, .int (nI 1)), (4, .int (nI 0)), (0, .ref (g.1 158)), (1, .int (nI 1)), (2, .int (nI 3)), (3, .int (nI 0))] dX6_ordered_40 (by decide) rfl ?_
  refine x_iload h 4 dX6_ordered_42 rfl ?_
  refine x_iload h 1 dX6_ordered_44 rfl ?_
  refine x_irem h dX6_ordered_46 (by decide) ?_
  refine x_top (nI 1) (by decide) ?_
  refine x_istore h [(5, .int (nI 1)), (9, .int (nI 0)), (8, .int (nI 2)), (7, .int (nI 0)), (6, .int (nI 0)), (4, .int (nI 0)), (0, .ref (g.1 158)), (1, .int (nI 1)), (2, .int (nI 3)), (3, .int (nI 0))] dX6_ordered_47 (by decide) rfl ?_
  refine x_iconst h (nI 0) dX6_ordered_49 (by decide) ?_
  refine x_istore h [(6, .int (nI 0)), (5, .int (nI 1)), (9, .int (nI 0)), (8, .int (nI 2)), (7, .int (nI 0)), (4, .int (nI 0)), (0, .ref (g.1 158)), (1, .int (nI 1)), (2, .int (nI 3)), (3, .int (nI 0))] dX6_ordered_50 (by decide) rfl ?_
  refine x_iload h 5 dX6_ordered_52 rfl ?_
  refine x_iload h 0 dX6_ordered_54 rfl ?_
  refine x_ishr h dX6_ordered_56 ?_
  refine x_top (nI 0) (by decide) ?_
  refine x_iconst h (nI 1) dX6_ordered_57 (by decide) ?_
  refine x_iand h dX6_ordered_58 ?_
  refine x_top (nI 0) (by decide) ?_
  refine x_iconst h (nI 1) dX6_ordered_59 (by decide) ?_
  refine x_icmp_eq h 68 dX6_ordered_60 (by decide) (fun c => absurd c (by decide)) (fun _ => ?_)
  refine x_iload h 2 dX6_ordered_63 rfl ?_
  refine x_if_le h 95 dX6_ordered_65 (by decide) (fun _ => ?_) (fun c => absurd (by decide) c)
  refine x_iload h 5 dX6_ordered_95 rfl ?_
  refine x_iconst h (nI 1) dX6_ordered_97 (by decide) ?_
  refine x_iload h 0 dX6_ordered_98 rfl ?_
  refine x_ishl h dX6_ordered_100 ?_
  refine x_top (nI 1) (by decide) ?_
  refine x_ior h dX6_ordered_101 ?_
  refine x_top (nI 1) (by decide) ?_
  refine x_istore h [(4, .int (nI 1)), (6, .int (nI 0)), (5, .int (nI 1)), (9, .int (nI 0)), (8, .int (nI 2)), (7, .int (nI 0)), (0, .ref (g.1 158)), (1, .int (nI 1)), (2, .int (nI 3)), (3, .int (nI 0))] dX6_ordered_102 (by decide) rfl ?_
  refine x_iinc_n h 5 (n := 1) [(7, .int (nI 1)), (4, .int (nI 1)), (6, .int (nI 0)), (5, .int (nI 1)), (9, .int (nI 0)), (8, .int (nI 2)), (0, .ref (g.1 158)), (1, .int (nI 1)), (2, .int (nI 3)), (3, .int (nI 0))] dX6_ordered_104 rfl (by decide) rfl ?_
  refine x_goto h 12 dX6_ordered_107 (by decide) ?_
  refine x_iload h 0 dX6_ordered_12 rfl ?_
  refine x_iload_n h 9 dX6_ordered_14 rfl rfl ?_
  refine x_icmp_gt h 110 dX6_ordered_15 (by decide) (fun _ => ?_) (fun c => absurd (by decide) c)
  refine x_aload_n h 6 dX6_ordered_110 rfl rfl ?_
  refine xg_X6_14 h in_X6_ordered_X6 (by decide +kernel) dX6_ordered_111 ?_
  refine x_iload h 2 dX6_ordered_114 rfl ?_
  refine xl_167 h dX6_ordered_116 (by decide) ?_
  exact hret _ _ _ _ _ dX6_ordered_117 (by exact ⟨⟨rfl, rfl⟩, congrArg (M 167) (by decide)⟩)

set_option maxRecDepth 100000 in
set_option maxHeartbeats 4000000 in
theorem c_X6_ordered_311 {l : Launch} {g : Geo} {M : Nat → Nat → Int32} {P : Nat → Nat}  : Met l yX6_ordered wsX6_ordered rmX6_ordered (cPre g [.ref (g.1 158), .int (nI 1), .int (nI 3), .int (nI 1)] M P) (cQi g (fun r M' P' => (P = P' ∧ M = M') ∧ r = M 167 (pmM 3 1 1))) 0 0 (gA g) := by
  refine met_i (cc := cX6_ordered) (maxL := 10) (by decide) rfl ⟨rfl, rfl⟩ (Nat.le_of_ble_eq_true rfl) (fun x hx h hret => ?_)
  replace h : Cxk x g cX6_ordered 10 wsX6_ordered RX6 rmX6_ordered := h
  show X x 0 [(0, .ref (g.1 158)), (1, .int (nI 1)), (2, .int (nI 3)), (3, .int (nI 1))] [] M P
  refine x_iconst h (nI 0) dX6_ordered_0 (by decide) ?_
  refine x_istore h [(4, .int (nI 0)), (0, .ref (g.1 158)), (1, .int (nI 1)), (2, .int (nI 3)), (3, .int (nI 1))] dX6_ordered_1 (by decide) rfl ?_
  refine x_iload_n h 2 dX6_ordered_3 rfl rfl ?_
  refine x_istore h [(5, .int (nI 1)), (4, .int (nI 0)), (0, .ref (g.1 158)), (1, .int (nI 1)), (2, .int (nI 3)), (3, .int (nI 1))] dX6_ordered_4 (by decide) rfl ?_
  refine x_iconst h (nI 0) dX6_ordered_6 (by decide) ?_
  refine x_istore h [(6, .int (nI 0)), (5, .int (nI 1)), (4, .int (nI 0)), (0, .ref (g.1 158)), (1, .int (nI 1)), (2, .int (nI 3)), (3, .int (nI 1))] dX6_ordered_7 (by decide) rfl ?_
  refine x_iconst h (nI 0) dX6_ordered_9 (by decide) ?_
  refine x_istore h [(7, .int (nI 0)), (6, .int (nI 0)), (5, .int (nI 1)), (4, .int (nI 0)), (0, .ref (g.1 158)), (1, .int (nI 1)), (2, .int (nI 3)), (3, .int (nI 1))] dX6_ordered_10 (by decide) rfl ?_
  refine x_iload h 0 dX6_ordered_12 rfl ?_
  refine x_iload_n h 7 dX6_ordered_14 rfl rfl ?_
  refine x_icmp_gt h 110 dX6_ordered_15 (by decide) (fun c => absurd c (by decide)) (fun _ => ?_)
  refine x_iload_n h 6 dX6_ordered_18 rfl rfl ?_
  refine x_iconst h (nI 1) dX6_ordered_19 (by decide) ?_
  refine x_isub h dX6_ordered_20 ?_
  refine x_top (nI 2) (by decide) ?_
  refine x_iload h 0 dX6_ordered_21 rfl ?_
  refine x_isub h dX6_ordered_23 ?_
  refine x_top (nI 2) (by decide) ?_
  refine x_iconst h (nI 2) dX6_ordered_24 (by decide) ?_
  refine x_icmp_ne h 32 dX6_ordered_25 (by decide) (fun c => absurd c (by decide)) (fun _ => ?_)
  refine x_iconst h (nI 2) dX6_ordered_28 (by decide) ?_
  refine x_goto h 33 dX6_ordered_29 (by decide) ?_
  refine x_istore h [(8, .int (nI 2)), (7, .int (nI 0)), (6, .int (nI 0)), (5, .int (nI 1)), (4, .int (nI 0)), (0, .ref (g.1 158)), (1, .int (nI 1)), (2, .int (nI 3)), (3, .int (nI 1))] dX6_ordered_33 (by decide) rfl ?_
  refine x_iload h 3 dX6_ordered_35 rfl ?_
  refine x_iload h 0 dX6_ordered_37 rfl ?_
  refine x_idiv h dX6_ordered_39 (by decide) ?_
  refine x_top (nI 0) (by decide) ?_
  refine x_istore h [(9, .int (nI 0)), (8, .int (nI 2)), (7, .int (nI 0)), (6, .int (nI 0)), (5, .int (nI 1)), (4, .int (nI 0)), (0, .ref (g.1 158)), (1, .int (nI 1)), (2, .int (nI 3)), (3, .int (nI 1))] dX6_ordered_40 (by decide) rfl ?_
  refine x_iload h 4 dX6_ordered_42 rfl ?_
  refine x_iload h 1 dX6_ordered_44 rfl ?_
  refine x_irem h dX6_ordered_46 (by decide) ?_
  refine x_top (nI 1) (by decide) ?_
  refine x_istore h [(5, .int (nI 1)), (9, .int (nI 0)), (8, .int (nI 2)), (7, .int (nI 0)), (6, .int (nI 0)), (4, .int (nI 0)), (0, .ref (g.1 158)), (1, .int (nI 1)), (2, .int (nI 3)), (3, .int (nI 1))] dX6_ordered_47 (by decide) rfl ?_
  refine x_iconst h (nI 0) dX6_ordered_49 (by decide) ?_
  refine x_istore h [(6, .int (nI 0)), (5, .int (nI 1)), (9, .int (nI 0)), (8, .int (nI 2)), (7, .int (nI 0)), (4, .int (nI 0)), (0, .ref (g.1 158)), (1, .int (nI 1)), (2, .int (nI 3)), (3, .int (nI 1))] dX6_ordered_50 (by decide) rfl ?_
  refine x_iload h 5 dX6_ordered_52 rfl ?_
  refine x_iload h 0 dX6_ordered_54 rfl ?_
  refine x_ishr h dX6_ordered_56 ?_
  refine x_top (nI 0) (by decide) ?_
  refine x_iconst h (nI 1) dX6_ordered_57 (by decide) ?_
  refine x_iand h dX6_ordered_58 ?_
  refine x_top (nI 0) (by decide) ?_
  refine x_iconst h (nI 1) dX6_ordered_59 (by decide) ?_
  refine x_icmp_eq h 68 dX6_ordered_60 (by decide) (fun c => absurd c (by decide)) (fun _ => ?_)
  refine x_iload h 2 dX6_ordered_63 rfl ?_
  refine x_if_le h 95 dX6_ordered_65 (by decide) (fun _ => ?_) (fun c => absurd (by decide) c)
  refine x_iload h 5 dX6_ordered_95 rfl ?_
  refine x_iconst h (nI 1) dX6_ordered_97 (by decide) ?_
  refine x_iload h 0 dX6_ordered_98 rfl ?_
  refine x_ishl h dX6_ordered_100 ?_
  refine x_top (nI 1) (by decide) ?_
  refine x_ior h dX6_ordered_101 ?_
  refine x_top (nI 1) (by decide) ?_
  refine x_istore h [(4, .int (nI 1)), (6, .int (nI 0)), (5, .int (nI 1)), (9, .int (nI 0)), (8, .int (nI 2)), (7, .int (nI 0)), (0, .ref (g.1 158)), (1, .int (nI 1)), (2, .int (nI 3)), (3, .int (nI 1))] dX6_ordered_102 (by decide) rfl ?_
  refine x_iinc_n h 5 (n := 1) [(7, .int (nI 1)), (4, .int (nI 1)), (6, .int (nI 0)), (5, .int (nI 1)), (9, .int (nI 0)), (8, .int (nI 2)), (0, .ref (g.1 158)), (1, .int (nI 1)), (2, .int (nI 3)), (3, .int (nI 1))] dX6_ordered_104 rfl (by decide) rfl ?_
  refine x_goto h 12 dX6_ordered_107 (by decide) ?_
  refine x_iload h 0 dX6_ordered_12 rfl ?_
  refine x_iload_n h 9 dX6_ordered_14 rfl rfl ?_
  refine x_icmp_gt h 110 dX6_ordered_15 (by decide) (fun c => absurd c (by decide)) (fun _ => ?_)
  refine x_iload_n h 8 dX6_ordered_18 rfl rfl ?_
  refine x_iconst h (nI 1) dX6_ordered_19 (by decide) ?_
  refine x_isub h dX6_ordered_20 ?_
  refine x_top (nI 2) (by decide) ?_
  refine x_iload h 0 dX6_ordered_21 rfl ?_
  refine x_isub h dX6_ordered_23 ?_
  refine x_top (nI 1) (by decide) ?_
  refine x_iconst h (nI 2) dX6_ordered_24 (by decide) ?_
  refine x_icmp_ne h 32 dX6_ordered_25 (by decide) (fun _ => ?_) (fun c => absurd c (by decide))
  refine x_iconst h (nI 1) dX6_ordered_32 (by decide) ?_
  refine x_istore h [(8, .int (nI 1)), (7, .int (nI 1)), (4, .int (nI 1)), (6, .int (nI 0)), (5, .int (nI 1)), (9, .int (nI 0)), (0, .ref (g.1 158)), (1, .int (nI 1)), (2, .int (nI 3)), (3, .int (nI 1))] dX6_ordered_33 (by decide) rfl ?_
  refine x_iload h 4 dX6_ordered_35 rfl ?_
  refine x_iload h 0 dX6_ordered_37 rfl ?_
  refine x_idiv h dX6_ordered_39 (by decide) ?_
  refine x_top (nI 1) (by decide) ?_
  refine x_istore h [(9, .int (nI 1)), (8, .int (nI 1)), (7, .int (nI 1)), (4, .int (nI 1)), (6, .int (nI 0)), (5, .int (nI 1)), (0, .ref (g.1 158)), (1, .int (nI 1)), (2, .int (nI 3)), (3, .int (nI 1))] dX6_ordered_40 (by decide) rfl ?_
  refine x_iload h 5 dX6_ordered_42 rfl ?_
  refine x_iload h 1 dX6_ordered_44 rfl ?_
  refine x_irem h dX6_ordered_46 (by decide) ?_
  refine x_top (nI 0) (by decide) ?_
  refine x_istore h [(5, .int (nI 0)), (9, .int (nI 1)), (8, .int (nI 1)), (7, .int (nI 1)), (4, .int (nI 1)), (6, .int (nI 0)), (0, .ref (g.1 158)), (1, .int (nI 1)), (2, .int (nI 3)), (3, .int (nI 1))] dX6_ordered_47 (by decide) rfl ?_
  refine x_iconst h (nI 0) dX6_ordered_49 (by decide) ?_
  refine x_istore h [(6, .int (nI 0)), (5, .int (nI 0)), (9, .int (nI 1)), (8, .int (nI 1)), (7, .int (nI 1)), (4, .int (nI 1)), (0, .ref (g.1 158)), (1, .int (nI 1)), (2, .int (nI 3)), (3, .int (nI 1))] dX6_ordered_50 (by decide) rfl ?_
  refine x_iload h 5 dX6_ordered_52 rfl ?_
  refine x_iload h 0 dX6_ordered_54 rfl ?_
  refine x_ishr h dX6_ordered_56 ?_
  refine x_top (nI 1) (by decide) ?_
  refine x_iconst h (nI 1) dX6_ordered_57 (by decide) ?_
  refine x_iand h dX6_ordered_58 ?_
  refine x_top (nI 1) (by decide) ?_
  refine x_iconst h (nI 1) dX6_ordered_59 (by decide) ?_
  refine x_icmp_eq h 68 dX6_ordered_60 (by decide) (fun _ => ?_) (fun c => absurd (by decide) c)
  refine x_iload h 2 dX6_ordered_68 rfl ?_
  refine x_iload h 5 dX6_ordered_70 rfl ?_
  refine x_iload h 0 dX6_ordered_72 rfl ?_
  refine x_ishr h dX6_ordered_74 ?_
  refine x_top (nI 1) (by decide) ?_
  refine x_iconst h (nI 1) dX6_ordered_75 (by decide) ?_
  refine x_iand h dX6_ordered_76 ?_
  refine x_top (nI 1) (by decide) ?_
  refine x_iconst h (nI 1) dX6_ordered_77 (by decide) ?_
  refine x_icmp_ne h 85 dX6_ordered_78 (by decide) (fun c => absurd c (by decide)) (fun _ => ?_)
  refine x_iconst h (nI 0) dX6_ordered_81 (by decide) ?_
  refine x_goto h 86 dX6_ordered_82 (by decide) ?_
  refine x_isub h dX6_ordered_86 ?_
  refine x_top (nI 1) (by decide) ?_
  refine x_istore h [(9, .int (nI 1)), (6, .int (nI 0)), (5, .int (nI 0)), (8, .int (nI 1)), (7, .int (nI 1)), (4, .int (nI 1)), (0, .ref (g.1 158)), (1, .int (nI 1)), (2, .int (nI 3)), (3, .int (nI 1))] dX6_ordered_87 (by decide) rfl ?_
  refine x_iinc_n h 1 (n := 1) [(6, .int (nI 1)), (9, .int (nI 1)), (5, .int (nI 0)), (8, .int (nI 1)), (7, .int (nI 1)), (4, .int (nI 1)), (0, .ref (g.1 158)), (1, .int (nI 1)), (2, .int (nI 3)), (3, .int (nI 1))] dX6_ordered_89 rfl (by decide) rfl ?_
  refine x_goto h 52 dX6_ordered_92 (by decide) ?_
  refine x_iload h 5 dX6_ordered_52 rfl ?_
  refine x_iload h 0 dX6_ordered_54 rfl ?_
  refine x_ishr h dX6_ordered_56 ?_
  refine x_top (nI 0) (by decide) ?_
  refine x_iconst h (nI 1) dX6_ordered_57 (by decide) ?_
  refine x_iand h dX6_ordered_58 ?_
  refine x_top (nI 0) (by decide) ?_
  refine x_iconst h (nI 1) dX6_ordered_59 (by decide) ?_
  refine x_icmp_eq h 68 dX6_ordered_60 (by decide) (fun c => absurd c (by decide)) (fun _ => ?_)
  refine x_iload h 1 dX6_ordered_63 rfl ?_
  refine x_if_le h 95 dX6_ordered_65 (by decide) (fun c => absurd c (by decide)) (fun _ => ?_)
  refine x_iload h 1 dX6_ordered_68 rfl ?_
  refine x_iload h 5 dX6_ordered_70 rfl ?_
  refine x_iload h 0 dX6_ordered_72 rfl ?_
  refine x_ishr h dX6_ordered_74 ?_
  refine x_top (nI 0) (by decide) ?_
  refine x_iconst h (nI 1) dX6_ordered_75 (by decide) ?_
  refine x_iand h dX6_ordered_76 ?_
  refine x_top (nI 0) (by decide) ?_
  refine x_iconst h (nI 1) dX6_ordered_77 (by decide) ?_
  refine x_icmp_ne h 85 dX6_ordered_78 (by decide) (fun _ => ?_) (fun c => absurd c (by decide))
  refine x_iconst h (nI 1) dX6_ordered_85 (by decide) ?_
  refine x_isub h dX6_ordered_86 ?_
  refine x_top (nI 0) (by decide) ?_
  refine x_istore h [(9, .int (nI 0)), (6, .int (nI 1)), (5, .int (nI 0)), (8, .int (nI 1)), (7, .int (nI 1)), (4, .int (nI 1)), (0, .ref (g.1 158)), (1, .int (nI 1)), (2, .int (nI 3)), (3, .int (nI 1))] dX6_ordered_87 (by decide) rfl ?_
  refine x_iinc_n h 1 (n := 1) [(6, .int (nI 2)), (9, .int (nI 0)), (5, .int (nI 0)), (8, .int (nI 1)), (7, .int (nI 1)), (4, .int (nI 1)), (0, .ref (g.1 158)), (1, .int (nI 1)), (2, .int (nI 3)), (3, .int (nI 1))] dX6_ordered_89 rfl (by decide) rfl ?_
  refine x_goto h 52 dX6_ordered_92 (by decide) ?_
  refine x_iload h 5 dX6_ordered_52 rfl ?_
  refine x_iload h 0 dX6_ordered_54 rfl ?_
  refine x_ishr h dX6_ordered_56 ?_
  refine x_top (nI 0) (by decide) ?_
  refine x_iconst h (nI 1) dX6_ordered_57 (by decide) ?_
  refine x_iand h dX6_ordered_58 ?_
  refine x_top (nI 0) (by decide) ?_
  refine x_iconst h (nI 1) dX6_ordered_59 (by decide) ?_
  refine x_icmp_eq h 68 dX6_ordered_60 (by decide) (fun c => absurd c (by decide)) (fun _ => ?_)
  refine x_iload h 1 dX6_ordered_63 rfl ?_
  refine x_if_le h 95 dX6_ordered_65 (by decide) (fun _ => ?_) (fun c => absurd (by decide) c)
  refine x_iload h 5 dX6_ordered_95 rfl ?_
  refine x_iconst h (nI 1) dX6_ordered_97 (by decide) ?_
  refine x_iload h 0 dX6_ordered_98 rfl ?_
  refine x_ishl h dX6_ordered_100 ?_
  refine x_top (nI 4) (by decide) ?_
  refine x_ior h dX6_ordered_101 ?_
  refine x_top (nI 5) (by decide) ?_
  refine x_istore h [(4, .int (nI 5)), (6, .int (nI 2)), (9, .int (nI 0)), (5, .int (nI 0)), (8, .int (nI 1)), (7, .int (nI 1)), (0, .ref (g.1 158)), (1, .int (nI 1)), (2, .int (nI 3)), (3, .int (nI 1))] dX6_ordered_102 (by decide) rfl ?_
  refine x_iinc_n h 5 (n := 1) [(7, .int (nI 2)), (4, .int (nI 5)), (6, .int (nI 2)), (9, .int (nI 0)), (5, .int (nI 0)), (8, .int (nI 1)), (0, .ref (g.1 158)), (1, .int (nI 1)), (2, .int (nI 3)), (3, .int (nI 1))] dX6_ordered_104 rfl (by decide) rfl ?_
  refine x_goto h 12 dX6_ordered_107 (by decide) ?_
  refine x_iload h 0 dX6_ordered_12 rfl ?_
  refine x_iload_n h 9 dX6_ordered_14 rfl rfl ?_
  refine x_icmp_gt h 110 dX6_ordered_15 (by decide) (fun _ => ?_) (fun c => absurd (by decide) c)
  refine x_aload_n h 6 dX6_ordered_110 rfl rfl ?_
  refine xg_X6_14 h in_X6_ordered_X6 (by decide +kernel) dX6_ordered_111 ?_
  refine x_iload h 2 dX6_ordered_114 rfl ?_
  refine xl_167 h dX6_ordered_116 (by decide) ?_
  exact hret _ _ _ _ _ dX6_ordered_117 (by exact ⟨⟨rfl, rfl⟩, congrArg (M 167) (by decide)⟩)

set_option maxRecDepth 100000 in
set_option maxHeartbeats 4000000 in
theorem c_X6_ordered_312 {l : Launch} {g : Geo} {M : Nat → Nat → Int32} {P : Nat → Nat}  : Met l yX6_ordered wsX6_ordered rmX6_ordered (cPre g [.ref (g.1 158), .int (nI 1), .int (nI 3), .int (nI 2)] M P) (cQi g (fun r M' P' => (P = P' ∧ M = M') ∧ r = M 167 (pmM 3 1 2))) 0 0 (gA g) := by
  refine met_i (cc := cX6_ordered) (maxL := 10) (by decide) rfl ⟨rfl, rfl⟩ (Nat.le_of_ble_eq_true rfl) (fun x hx h hret => ?_)
  replace h : Cxk x g cX6_ordered 10 wsX6_ordered RX6 rmX6_ordered := h
  show X x 0 [(0, .ref (g.1 158)), (1, .int (nI 1)), (2, .int (nI 3)), (3, .int (nI 2))] [] M P
  refine x_iconst h (nI 0) dX6_ordered_0 (by decide) ?_
  refine x_istore h [(4, .int (nI 0)), (0, .ref (g.1 158)), (1, .int (nI 1)), (2, .int (nI 3)), (3, .int (nI 2))] dX6_ordered_1 (by decide) rfl ?_
  refine x_iload_n h 2 dX6_ordered_3 rfl rfl ?_
  refine x_istore h [(5, .int (nI 1)), (4, .int (nI 0)), (0, .ref (g.1 158)), (1, .int (nI 1)), (2, .int (nI 3)), (3, .int (nI 2))] dX6_ordered_4 (by decide) rfl ?_
  refine x_iconst h (nI 0) dX6_ordered_6 (by decide) ?_
  refine x_istore h [(6, .int (nI 0)), (5, .int (nI 1)), (4, .int (nI 0)), (0, .ref (g.1 158)), (1, .int (nI 1)), (2, .int (nI 3)), (3, .int (nI 2))] dX6_ordered_7 (by decide) rfl ?_
  refine x_iconst h (nI 0) dX6_ordered_9 (by decide) ?_
  refine x_istore h [(7, .int (nI 0)), (6, .int (nI 0)), (5, .int (nI 1)), (4, .int (nI 0)), (0, .ref (g.1 158)), (1, .int (nI 1)), (2, .int (nI 3)), (3, .int (nI 2))] dX6_ordered_10 (by decide) rfl ?_
  refine x_iload h 0 dX6_ordered_12 rfl ?_
  refine x_iload_n h 7 dX6_ordered_14 rfl rfl ?_
  refine x_icmp_gt h 110 dX6_ordered_15 (by decide) (fun c => absurd c (by decide)) (fun _ => ?_)
  refine x_iload_n h 6 dX6_ordered_18 rfl rfl ?_
  refine x_iconst h (nI 1) dX6_ordered_19 (by decide) ?_
  refine x_isub h dX6_ordered_20 ?_
  refine x_top (nI 2) (by decide) ?_
  refine x_iload h 0 dX6_ordered_21 rfl ?_
  refine x_isub h dX6_ordered_23 ?_
  refine x_top (nI 2) (by decide) ?_
  refine x_iconst h (nI 2) dX6_ordered_24 (by decide) ?_
  refine x_icmp_ne h 32 dX6_ordered_25 (by decide) (fun c => absurd c (by decide)) (fun _ => ?_)
  refine x_iconst h (nI 2) dX6_ordered_28 (by decide) ?_
  refine x_goto h 33 dX6_ordered_29 (by decide) ?_
  refine x_istore h [(8, .int (nI 2)), (7, .int (nI 0)), (6, .int (nI 0)), (5, .int (nI 1)), (4, .int (nI 0)), (0, .ref (g.1 158)), (1, .int (nI 1)), (2, .int (nI 3)), (3, .int (nI 2))] dX6_ordered_33 (by decide) rfl ?_
  refine x_iload h 3 dX6_ordered_35 rfl ?_
  refine x_iload h 0 dX6_ordered_37 rfl ?_
  refine x_idiv h dX6_ordered_39 (by decide) ?_
  refine x_top (nI 0) (by decide) ?_
  refine x_istore h [(9, .int (nI 0)), (8, .int (nI 2)), (7, .int (nI 0)), (6, .int (nI 0)), (5, .int (nI 1)), (4, .int (nI 0)), (0, .ref (g.1 158)), (1, .int (nI 1)), (2, .int (nI 3)), (3, .int (nI 2))] dX6_ordered_40 (by decide) rfl ?_
  refine x_iload h 4 dX6_ordered_42 rfl ?_
  refine x_iload h 1 dX6_ordered_44 rfl ?_
  refine x_irem h dX6_ordered_46 (by decide) ?_
  refine x_top (nI 1) (by decide) ?_
  refine x_istore h [(5, .int (nI 1)), (9, .int (nI 0)), (8, .int (nI 2)), (7, .int (nI 0)), (6, .int (nI 0)), (4, .int (nI 0)), (0, .ref (g.1 158)), (1, .int (nI 1)), (2, .int (nI 3)), (3, .int (nI 2))] dX6_ordered_47 (by decide) rfl ?_
  refine x_iconst h (nI 0) dX6_ordered_49 (by decide) ?_
  refine x_istore h [(6, .int (nI 0)), (5, .int (nI 1)), (9, .int (nI 0)), (8, .int (nI 2)), (7, .int (nI 0)), (4, .int (nI 0)), (0, .ref (g.1 158)), (1, .int (nI 1)), (2, .int (nI 3)), (3, .int (nI 2))] dX6_ordered_50 (by decide) rfl ?_
  refine x_iload h 5 dX6_ordered_52 rfl ?_
  refine x_iload h 0 dX6_ordered_54 rfl ?_
  refine x_ishr h dX6_ordered_56 ?_
  refine x_top (nI 0) (by decide) ?_
  refine x_iconst h (nI 1) dX6_ordered_57 (by decide) ?_
  refine x_iand h dX6_ordered_58 ?_
  refine x_top (nI 0) (by decide) ?_
  refine x_iconst h (nI 1) dX6_ordered_59 (by decide) ?_
  refine x_icmp_eq h 68 dX6_ordered_60 (by decide) (fun c => absurd c (by decide)) (fun _ => ?_)
  refine x_iload h 2 dX6_ordered_63 rfl ?_
  refine x_if_le h 95 dX6_ordered_65 (by decide) (fun _ => ?_) (fun c => absurd (by decide) c)
  refine x_iload h 5 dX6_ordered_95 rfl ?_
  refine x_iconst h (nI 1) dX6_ordered_97 (by decide) ?_
  refine x_iload h 0 dX6_ordered_98 rfl ?_
  refine x_ishl h dX6_ordered_100 ?_
  refine x_top (nI 1) (by decide) ?_
  refine x_ior h dX6_ordered_101 ?_
  refine x_top (nI 1) (by decide) ?_
  refine x_istore h [(4, .int (nI 1)), (6, .int (nI 0)), (5, .int (nI 1)), (9, .int (nI 0)), (8, .int (nI 2)), (7, .int (nI 0)), (0, .ref (g.1 158)), (1, .int (nI 1)), (2, .int (nI 3)), (3, .int (nI 2))] dX6_ordered_102 (by decide) rfl ?_
  refine x_iinc_n h 5 (n := 1) [(7, .int (nI 1)), (4, .int (nI 1)), (6, .int (nI 0)), (5, .int (nI 1)), (9, .int (nI 0)), (8, .int (nI 2)), (0, .ref (g.1 158)), (1, .int (nI 1)), (2, .int (nI 3)), (3, .int (nI 2))] dX6_ordered_104 rfl (by decide) rfl ?_
  refine x_goto h 12 dX6_ordered_107 (by decide) ?_
  refine x_iload h 0 dX6_ordered_12 rfl ?_
  refine x_iload_n h 9 dX6_ordered_14 rfl rfl ?_
  refine x_icmp_gt h 110 dX6_ordered_15 (by decide) (fun c => absurd c (by decide)) (fun _ => ?_)
  refine x_iload_n h 8 dX6_ordered_18 rfl rfl ?_
  refine x_iconst h (nI 1) dX6_ordered_19 (by decide) ?_
  refine x_isub h dX6_ordered_20 ?_
  refine x_top (nI 2) (by decide) ?_
  refine x_iload h 0 dX6_ordered_21 rfl ?_
  refine x_isub h dX6_ordered_23 ?_
  refine x_top (nI 1) (by decide) ?_
  refine x_iconst h (nI 2) dX6_ordered_24 (by decide) ?_
  refine x_icmp_ne h 32 dX6_ordered_25 (by decide) (fun _ => ?_) (fun c => absurd c (by decide))
  refine x_iconst h (nI 1) dX6_ordered_32 (by decide) ?_
  refine x_istore h [(8, .int (nI 1)), (7, .int (nI 1)), (4, .int (nI 1)), (6, .int (nI 0)), (5, .int (nI 1)), (9, .int (nI 0)), (0, .ref (g.1 158)), (1, .int (nI 1)), (2, .int (nI 3)), (3, .int (nI 2))] dX6_ordered_33 (by decide) rfl ?_
  refine x_iload h 4 dX6_ordered_35 rfl ?_
  refine x_iload h 0 dX6_ordered_37 rfl ?_
  refine x_idiv h dX6_ordered_39 (by decide) ?_
  refine x_top (nI 1) (by decide) ?_
  refine x_istore h [(9, .int (nI 1)), (8, .int (nI 1)), (7, .int (nI 1)), (4, .int (nI 1)), (6, .int (nI 0)), (5, .int (nI 1)), (0, .ref (g.1 158)), (1, .int (nI 1)), (2, .int (nI 3)), (3, .int (nI 2))] dX6_ordered_40 (by decide) rfl ?_
  refine x_iload h 5 dX6_ordered_42 rfl ?_
  refine x_iload h 1 dX6_ordered_44 rfl ?_
  refine x_irem h dX6_ordered_46 (by decide) ?_
  refine x_top (nI 0) (by decide) ?_
  refine x_istore h [(5, .int (nI 0)), (9, .int (nI 1)), (8, .int (nI 1)), (7, .int (nI 1)), (4, .int (nI 1)), (6, .int (nI 0)), (0, .ref (g.1 158)), (1, .int (nI 1)), (2, .int (nI 3)), (3, .int (nI 2))] dX6_ordered_47 (by decide) rfl ?_
  refine x_iconst h (nI 0) dX6_ordered_49 (by decide) ?_
  refine x_istore h [(6, .int (nI 0)), (5, .int (nI 0)), (9, .int (nI 1)), (8, .int (nI 1)), (7, .int (nI 1)), (4, .int (nI 1)), (0, .ref (g.1 158)), (1, .int (nI 1)), (2, .int (nI 3)), (3, .int (nI 2))] dX6_ordered_50 (by decide) rfl ?_
  refine x_iload h 5 dX6_ordered_52 rfl ?_
  refine x_iload h 0 dX6_ordered_54 rfl ?_
  refine x_ishr h dX6_ordered_56 ?_
  refine x_top (nI 1) (by decide) ?_
  refine x_iconst h (nI 1) dX6_ordered_57 (by decide) ?_
  refine x_iand h dX6_ordered_58 ?_
  refine x_top (nI 1) (by decide) ?_
  refine x_iconst h (nI 1) dX6_ordered_59 (by decide) ?_
  refine x_icmp_eq h 68 dX6_ordered_60 (by decide) (fun _ => ?_) (fun c => absurd (by decide) c)
  refine x_iload h 2 dX6_ordered_68 rfl ?_
  refine x_iload h 5 dX6_ordered_70 rfl ?_
  refine x_iload h 0 dX6_ordered_72 rfl ?_
  refine x_ishr h dX6_ordered_74 ?_
  refine x_top (nI 1) (by decide) ?_
  refine x_iconst h (nI 1) dX6_ordered_75 (by decide) ?_
  refine x_iand h dX6_ordered_76 ?_
  refine x_top (nI 1) (by decide) ?_
  refine x_iconst h (nI 1) dX6_ordered_77 (by decide) ?_
  refine x_icmp_ne h 85 dX6_ordered_78 (by decide) (fun c => absurd c (by decide)) (fun _ => ?_)
  refine x_iconst h (nI 0) dX6_ordered_81 (by decide) ?_
  refine x_goto h 86 dX6_ordered_82 (by decide) ?_
  refine x_isub h dX6_ordered_86 ?_
  refine x_top (nI 1) (by decide) ?_
  refine x_istore h [(9, .int (nI 1)), (6, .int (nI 0)), (5, .int (nI 0)), (8, .int (nI 1)), (7, .int (nI 1)), (4, .int (nI 1)), (0, .ref (g.1 158)), (1, .int (nI 1)), (2, .int (nI 3)), (3, .int (nI 2))] dX6_ordered_87 (by decide) rfl ?_
  refine x_iinc_n h 1 (n := 1) [(6, .int (nI 1)), (9, .int (nI 1)), (5, .int (nI 0)), (8, .int (nI 1)), (7, .int (nI 1)), (4, .int (nI 1)), (0, .ref (g.1 158)), (1, .int (nI 1)), (2, .int (nI 3)), (3, .int (nI 2))] dX6_ordered_89 rfl (by decide) rfl ?_
  refine x_goto h 52 dX6_ordered_92 (by decide) ?_
  refine x_iload h 5 dX6_ordered_52 rfl ?_
  refine x_iload h 0 dX6_ordered_54 rfl ?_
  refine x_ishr h dX6_ordered_56 ?_
  refine x_top (nI 0) (by decide) ?_
  refine x_iconst h (nI 1) dX6_ordered_57 (by decide) ?_
  refine x_iand h dX6_ordered_58 ?_
  refine x_top (nI 0) (by decide) ?_
  refine x_iconst h (nI 1) dX6_ordered_59 (by decide) ?_
  refine x_icmp_eq h 68 dX6_ordered_60 (by decide) (fun c => absurd c (by decide)) (fun _ => ?_)
  refine x_iload h 1 dX6_ordered_63 rfl ?_
  refine x_if_le h 95 dX6_ordered_65 (by decide) (fun c => absurd c (by decide)) (fun _ => ?_)
  refine x_iload h 1 dX6_ordered_68 rfl ?_
  refine x_iload h 5 dX6_ordered_70 rfl ?_
  refine x_iload h 0 dX6_ordered_72 rfl ?_
  refine x_ishr h dX6_ordered_74 ?_
  refine x_top (nI 0) (by decide) ?_
  refine x_iconst h (nI 1) dX6_ordered_75 (by decide) ?_
  refine x_iand h dX6_ordered_76 ?_
  refine x_top (nI 0) (by decide) ?_
  refine x_iconst h (nI 1) dX6_ordered_77 (by decide) ?_
  refine x_icmp_ne h 85 dX6_ordered_78 (by decide) (fun _ => ?_) (fun c => absurd c (by decide))
  refine x_iconst h (nI 1) dX6_ordered_85 (by decide) ?_
  refine x_isub h dX6_ordered_86 ?_
  refine x_top (nI 0) (by decide) ?_
  refine x_istore h [(9, .int (nI 0)), (6, .int (nI 1)), (5, .int (nI 0)), (8, .int (nI 1)), (7, .int (nI 1)), (4, .int (nI 1)), (0, .ref (g.1 158)), (1, .int (nI 1)), (2, .int (nI 3)), (3, .int (nI 2))] dX6_ordered_87 (by decide) rfl ?_
  refine x_iinc_n h 1 (n := 1) [(6, .int (nI 2)), (9, .int (nI 0)), (5, .int (nI 0)), (8, .int (nI 1)), (7, .int (nI 1)), (4, .int (nI 1)), (0, .ref (g.1 158)), (1, .int (nI 1)), (2, .int (nI 3)), (3, .int (nI 2))] dX6_ordered_89 rfl (by decide) rfl ?_
  refine x_goto h 52 dX6_ordered_92 (by decide) ?_
  refine x_iload h 5 dX6_ordered_52 rfl ?_
  refine x_iload h 0 dX6_ordered_54 rfl ?_
  refine x_ishr h dX6_ordered_56 ?_
  refine x_top (nI 0) (by decide) ?_
  refine x_iconst h (nI 1) dX6_ordered_57 (by decide) ?_
  refine x_iand h dX6_ordered_58 ?_
  refine x_top (nI 0) (by decide) ?_
  refine x_iconst h (nI 1) dX6_ordered_59 (by decide) ?_
  refine x_icmp_eq h 68 dX6_ordered_60 (by decide) (fun c => absurd c (by decide)) (fun _ => ?_)
  refine x_iload h 1 dX6_ordered_63 rfl ?_
  refine x_if_le h 95 dX6_ordered_65 (by decide) (fun _ => ?_) (fun c => absurd (by decide) c)
  refine x_iload h 5 dX6_ordered_95 rfl ?_
  refine x_iconst h (nI 1) dX6_ordered_97 (by decide) ?_
  refine x_iload h 0 dX6_ordered_98 rfl ?_
  refine x_ishl h dX6_ordered_100 ?_
  refine x_top (nI 4) (by decide) ?_
  refine x_ior h dX6_ordered_101 ?_
  refine x_top (nI 5) (by decide) ?_
  refine x_istore h [(4, .int (nI 5)), (6, .int (nI 2)), (9, .int (nI 0)), (5, .int (nI 0)), (8, .int (nI 1)), (7, .int (nI 1)), (0, .ref (g.1 158)), (1, .int (nI 1)), (2, .int (nI 3)), (3, .int (nI 2))] dX6_ordered_102 (by decide) rfl ?_
  refine x_iinc_n h 5 (n := 1) [(7, .int (nI 2)), (4, .int (nI 5)), (6, .int (nI 2)), (9, .int (nI 0)), (5, .int (nI 0)), (8, .int (nI 1)), (0, .ref (g.1 158)), (1, .int (nI 1)), (2, .int (nI 3)), (3, .int (nI 2))] dX6_ordered_104 rfl (by decide) rfl ?_
  refine x_goto h 12 dX6_ordered_107 (by decide) ?_
  refine x_iload h 0 dX6_ordered_12 rfl ?_
  refine x_iload_n h 9 dX6_ordered_14 rfl rfl ?_
  refine x_icmp_gt h 110 dX6_ordered_15 (by decide) (fun c => absurd c (by decide)) (fun _ => ?_)
  refine x_iload_n h 8 dX6_ordered_18 rfl rfl ?_
  refine x_iconst h (nI 1) dX6_ordered_19 (by decide) ?_
  refine x_isub h dX6_ordered_20 ?_
  refine x_top (nI 2) (by decide) ?_
  refine x_iload h 0 dX6_ordered_21 rfl ?_
  refine x_isub h dX6_ordered_23 ?_
  refine x_top (nI 0) (by decide) ?_
  refine x_iconst h (nI 2) dX6_ordered_24 (by decide) ?_
  refine x_icmp_ne h 32 dX6_ordered_25 (by decide) (fun _ => ?_) (fun c => absurd c (by decide))
  refine x_iconst h (nI 1) dX6_ordered_32 (by decide) ?_
  refine x_istore h [(8, .int (nI 1)), (7, .int (nI 2)), (4, .int (nI 5)), (6, .int (nI 2)), (9, .int (nI 0)), (5, .int (nI 0)), (0, .ref (g.1 158)), (1, .int (nI 1)), (2, .int (nI 3)), (3, .int (nI 2))] dX6_ordered_33 (by decide) rfl ?_
  refine x_iload h 5 dX6_ordered_35 rfl ?_
  refine x_iload h 0 dX6_ordered_37 rfl ?_
  refine x_idiv h dX6_ordered_39 (by decide) ?_
  refine x_top (nI 0) (by decide) ?_
  refine x_istore h [(9, .int (nI 0)), (8, .int (nI 1)), (7, .int (nI 2)), (4, .int (nI 5)), (6, .int (nI 2)), (5, .int (nI 0)), (0, .ref (g.1 158)), (1, .int (nI 1)), (2, .int (nI 3)), (3, .int (nI 2))] dX6_ordered_40 (by decide) rfl ?_
  refine x_iload h 5 dX6_ordered_42 rfl ?_
  refine x_iload h 1 dX6_ordered_44 rfl ?_
  refine x_irem h dX6_ordered_46 (by decide) ?_
  refine x_top (nI 0) (by decide) ?_
  refine x_istore h [(5, .int (nI 0)), (9, .int (nI 0)), (8, .int (nI 1)), (7, .int (nI 2)), (4, .int (nI 5)), (6, .int (nI 2)), (0, .ref (g.1 158)), (1, .int (nI 1)), (2, .int (nI 3)), (3, .int (nI 2))] dX6_ordered_47 (by decide) rfl ?_
  refine x_iconst h (nI 0) dX6_ordered_49 (by decide) ?_
  refine x_istore h [(6, .int (nI 0)), (5, .int (nI 0)), (9, .int (nI 0)), (8, .int (nI 1)), (7, .int (nI 2)), (4, .int (nI 5)), (0, .ref (g.1 158)), (1, .int (nI 1)), (2, .int (nI 3)), (3, .int (nI 2))] dX6_ordered_50 (by decide) rfl ?_
  refine x_iload h 5 dX6_ordered_52 rfl ?_
  refine x_iload h 0 dX6_ordered_54 rfl ?_
  refine x_ishr h dX6_ordered_56 ?_
  refine x_top (nI 5) (by decide) ?_
  refine x_iconst h (nI 1) dX6_ordered_57 (by decide) ?_
  refine x_iand h dX6_ordered_58 ?_
  refine x_top (nI 1) (by decide) ?_
  refine x_iconst h (nI 1) dX6_ordered_59 (by decide) ?_
  refine x_icmp_eq h 68 dX6_ordered_60 (by decide) (fun _ => ?_) (fun c => absurd (by decide) c)
  refine x_iload h 2 dX6_ordered_68 rfl ?_
  refine x_iload h 5 dX6_ordered_70 rfl ?_
  refine x_iload h 0 dX6_ordered_72 rfl ?_
  refine x_ishr h dX6_ordered_74 ?_
  refine x_top (nI 5) (by decide) ?_
  refine x_iconst h (nI 1) dX6_ordered_75 (by decide) ?_
  refine x_iand h dX6_ordered_76 ?_
  refine x_top (nI 1) (by decide) ?_
  refine x_iconst h (nI 1) dX6_ordered_77 (by decide) ?_
  refine x_icmp_ne h 85 dX6_ordered_78 (by decide) (fun c => absurd c (by decide)) (fun _ => ?_)
  refine x_iconst h (nI 0) dX6_ordered_81 (by decide) ?_
  refine x_goto h 86 dX6_ordered_82 (by decide) ?_
  refine x_isub h dX6_ordered_86 ?_
  refine x_top (nI 0) (by decide) ?_
  refine x_istore h [(9, .int (nI 0)), (6, .int (nI 0)), (5, .int (nI 0)), (8, .int (nI 1)), (7, .int (nI 2)), (4, .int (nI 5)), (0, .ref (g.1 158)), (1, .int (nI 1)), (2, .int (nI 3)), (3, .int (nI 2))] dX6_ordered_87 (by decide) rfl ?_
  refine x_iinc_n h 1 (n := 1) [(6, .int (nI 1)), (9, .int (nI 0)), (5, .int (nI 0)), (8, .int (nI 1)), (7, .int (nI 2)), (4, .int (nI 5)), (0, .ref (g.1 158)), (1, .int (nI 1)), (2, .int (nI 3)), (3, .int (nI 2))] dX6_ordered_89 rfl (by decide) rfl ?_
  refine x_goto h 52 dX6_ordered_92 (by decide) ?_
  refine x_iload h 5 dX6_ordered_52 rfl ?_
  refine x_iload h 0 dX6_ordered_54 rfl ?_
  refine x_ishr h dX6_ordered_56 ?_
  refine x_top (nI 2) (by decide) ?_
  refine x_iconst h (nI 1) dX6_ordered_57 (by decide) ?_
  refine x_iand h dX6_ordered_58 ?_
  refine x_top (nI 0) (by decide) ?_
  refine x_iconst h (nI 1) dX6_ordered_59 (by decide) ?_
  refine x_icmp_eq h 68 dX6_ordered_60 (by decide) (fun c => absurd c (by decide)) (fun _ => ?_)
  refine x_iload h 1 dX6_ordered_63 rfl ?_
  refine x_if_le h 95 dX6_ordered_65 (by decide) (fun _ => ?_) (fun c => absurd (by decide) c)
  refine x_iload h 5 dX6_ordered_95 rfl ?_
  refine x_iconst h (nI 1) dX6_ordered_97 (by decide) ?_
  refine x_iload h 0 dX6_ordered_98 rfl ?_
  refine x_ishl h dX6_ordered_100 ?_
  refine x_top (nI 2) (by decide) ?_
  refine x_ior h dX6_ordered_101 ?_
  refine x_top (nI 7) (by decide) ?_
  refine x_istore h [(4, .int (nI 7)), (6, .int (nI 1)), (9, .int (nI 0)), (5, .int (nI 0)), (8, .int (nI 1)), (7, .int (nI 2)), (0, .ref (g.1 158)), (1, .int (nI 1)), (2, .int (nI 3)), (3, .int (nI 2))] dX6_ordered_102 (by decide) rfl ?_
  refine x_iinc_n h 5 (n := 1) [(7, .int (nI 3)), (4, .int (nI 7)), (6, .int (nI 1)), (9, .int (nI 0)), (5, .int (nI 0)), (8, .int (nI 1)), (0, .ref (g.1 158)), (1, .int (nI 1)), (2, .int (nI 3)), (3, .int (nI 2))] dX6_ordered_104 rfl (by decide) rfl ?_
  refine x_goto h 12 dX6_ordered_107 (by decide) ?_
  refine x_iload h 0 dX6_ordered_12 rfl ?_
  refine x_iload_n h 9 dX6_ordered_14 rfl rfl ?_
  refine x_icmp_gt h 110 dX6_ordered_15 (by decide) (fun _ => ?_) (fun c => absurd (by decide) c)
  refine x_aload_n h 6 dX6_ordered_110 rfl rfl ?_
  refine xg_X6_14 h in_X6_ordered_X6 (by decide +kernel) dX6_ordered_111 ?_
  refine x_iload h 2 dX6_ordered_114 rfl ?_
  refine xl_167 h dX6_ordered_116 (by decide) ?_
  exact hret _ _ _ _ _ dX6_ordered_117 (by exact ⟨⟨rfl, rfl⟩, congrArg (M 167) (by decide)⟩)

set_option maxRecDepth 100000 in
set_option maxHeartbeats 4000000 in
theorem c_X6_ordered_320 {l : Launch} {g : Geo} {M : Nat → Nat → Int32} {P : Nat → Nat}  : Met l yX6_ordered wsX6_ordered rmX6_ordered (cPre g [.ref (g.1 158), .int (nI 2), .int (nI 3), .int (nI 0)] M P) (cQi g (fun r M' P' => (P = P' ∧ M = M') ∧ r = M 167 (pmM 3 2 0))) 0 0 (gA g) := by
  refine met_i (cc := cX6_ordered) (maxL := 10) (by decide) rfl ⟨rfl, rfl⟩ (Nat.le_of_ble_eq_true rfl) (fun x hx h hret => ?_)
  replace h : Cxk x g cX6_ordered 10 wsX6_ordered RX6 rmX6_ordered := h
  show X x 0 [(0, .ref (g.1 158)), (1, .int (nI 2)), (2, .int (nI 3)), (3, .int (nI 0))] [] M P
  refine x_iconst h (nI 0) dX6_ordered_0 (by decide) ?_
  refine x_istore h [(4, .int (nI 0)), (0, .ref (g.1 158)), (1, .int (nI 2)), (2, .int (nI 3)), (3, .int (nI 0))] dX6_ordered_1 (by decide) rfl ?_
  refine x_iload_n h 2 dX6_ordered_3 rfl rfl ?_
  refine x_istore h [(5, .int (nI 2)), (4, .int (nI 0)), (0, .ref (g.1 158)), (1, .int (nI 2)), (2, .int (nI 3)), (3, .int (nI 0))] dX6_ordered_4 (by decide) rfl ?_
  refine x_iconst h (nI 0) dX6_ordered_6 (by decide) ?_
  refine x_istore h [(6, .int (nI 0)), (5, .int (nI 2)), (4, .int (nI 0)), (0, .ref (g.1 158)), (1, .int (nI 2)), (2, .int (nI 3)), (3, .int (nI 0))] dX6_ordered_7 (by decide) rfl ?_
  refine x_iconst h (nI 0) dX6_ordered_9 (by decide) ?_
  refine x_istore h [(7, .int (nI 0)), (6, .int (nI 0)), (5, .int (nI 2)), (4, .int (nI 0)), (0, .ref (g.1 158)), (1, .int (nI 2)), (2, .int (nI 3)), (3, .int (nI 0))] dX6_ordered_10 (by decide) rfl ?_
  refine x_iload h 0 dX6_ordered_12 rfl ?_
  refine x_iload_n h 7 dX6_ordered_14 rfl rfl ?_
  refine x_icmp_gt h 110 dX6_ordered_15 (by decide) (fun c => absurd c (by decide)) (fun _ => ?_)
  refine x_iload_n h 6 dX6_ordered_18 rfl rfl ?_
  refine x_iconst h (nI 1) dX6_ordered_19 (by decide) ?_
  refine x_isub h dX6_ordered_20 ?_
  refine x_top (nI 2) (by decide) ?_
  refine x_iload h 0 dX6_ordered_21 rfl ?_
  refine x_isub h dX6_ordered_23 ?_
  refine x_top (nI 2) (by decide) ?_
  refine x_iconst h (nI 2) dX6_ordered_24 (by decide) ?_
  refine x_icmp_ne h 32 dX6_ordered_25 (by decide) (fun c => absurd c (by decide)) (fun _ => ?_)
  refine x_iconst h (nI 2) dX6_ordered_28 (by decide) ?_
  refine x_goto h 33 dX6_ordered_29 (by decide) ?_
  refine x_istore h [(8, .int (nI 2)), (7, .int (nI 0)), (6, .int (nI 0)), (5, .int (nI 2)), (4, .int (nI 0)), (0, .ref (g.1 158)), (1, .int (nI 2)), (2, .int (nI 3)), (3, .int (nI 0))] dX6_ordered_33 (by decide) rfl ?_
  refine x_iload h 3 dX6_ordered_35 rfl ?_
  refine x_iload h 0 dX6_ordered_37 rfl ?_
  refine x_idiv h dX6_ordered_39 (by decide) ?_
  refine x_top (nI 1) (by decide) ?_
  refine x_istore h [(9, .int (nI 1)), (8, .int (nI 2)), (7, .int (nI 0)), (6, .int (nI 0)), (5, .int (nI 2)), (4, .int (nI 0)), (0, .ref (g.1 158)), (1, .int (nI 2)), (2, .int (nI 3)), (3, .int (nI 0))] dX6_ordered_40 (by decide) rfl ?_
  refine x_iload h 4 dX6_ordered_42 rfl ?_
  refine x_iload h 1 dX6_ordered_44 rfl ?_
  refine x_irem h dX6_ordered_46 (by decide) ?_
  refine x_top (nI 0) (by decide) ?_
  refine x_istore h [(5, .int (nI 0)), (9, .int (nI 1)), (8, .int (nI 2)), (7, .int (nI 0)), (6, .int (nI 0)), (4, .int (nI 0)), (0, .ref (g.1 158)), (1, .int (nI 2)), (2, .int (nI 3)), (3, .int (nI 0))] dX6_ordered_47 (by decide) rfl ?_
  refine x_iconst h (nI 0) dX6_ordered_49 (by decide) ?_
  refine x_istore h [(6, .int (nI 0)), (5, .int (nI 0)), (9, .int (nI 1)), (8, .int (nI 2)), (7, .int (nI 0)), (4, .int (nI 0)), (0, .ref (g.1 158)), (1, .int (nI 2)), (2, .int (nI 3)), (3, .int (nI 0))] dX6_ordered_50 (by decide) rfl ?_
  refine x_iload h 5 dX6_ordered_52 rfl ?_
  refine x_iload h 0 dX6_ordered_54 rfl ?_
  refine x_ishr h dX6_ordered_56 ?_
  refine x_top (nI 0) (by decide) ?_
  refine x_iconst h (nI 1) dX6_ordered_57 (by decide) ?_
  refine x_iand h dX6_ordered_58 ?_
  refine x_top (nI 0) (by decide) ?_
  refine x_iconst h (nI 1) dX6_ordered_59 (by decide) ?_
  refine x_icmp_eq h 68 dX6_ordered_60 (by decide) (fun c => absurd c (by decide)) (fun _ => ?_)
  refine x_iload h 2 dX6_ordered_63 rfl ?_
  refine x_if_le h 95 dX6_ordered_65 (by decide) (fun c => absurd c (by decide)) (fun _ => ?_)
  refine x_iload h 2 dX6_ordered_68 rfl ?_
  refine x_iload h 5 dX6_ordered_70 rfl ?_
  refine x_iload h 0 dX6_ordered_72 rfl ?_
  refine x_ishr h dX6_ordered_74 ?_
  refine x_top (nI 0) (by decide) ?_
  refine x_iconst h (nI 1) dX6_ordered_75 (by decide) ?_
  refine x_iand h dX6_ordered_76 ?_
  refine x_top (nI 0) (by decide) ?_
  refine x_iconst h (nI 1) dX6_ordered_77 (by decide) ?_
  refine x_icmp_ne h 85 dX6_ordered_78 (by decide) (fun _ => ?_) (fun c => absurd c (by decide))
  refine x_iconst h (nI 1) dX6_ordered_85 (by decide) ?_
  refine x_isub h dX6_ordered_86 ?_
  refine x_top (nI 0) (by decide) ?_
  refine x_istore h [(9, .int (nI 0)), (6, .int (nI 0)), (5, .int (nI 0)), (8, .int (nI 2)), (7, .int (nI 0)), (4, .int (nI 0)), (0, .ref (g.1 158)), (1, .int (nI 2)), (2, .int (nI 3)), (3, .int (nI 0))] dX6_ordered_87 (by decide) rfl ?_
  refine x_iinc_n h 1 (n := 1) [(6, .int (nI 1)), (9, .int (nI 0)), (5, .int (nI 0)), (8, .int (nI 2)), (7, .int (nI 0)), (4, .int (nI 0)), (0, .ref (g.1 158)), (1, .int (nI 2)), (2, .int (nI 3)), (3, .int (nI 0))] dX6_ordered_89 rfl (by decide) rfl ?_
  refine x_goto h 52 dX6_ordered_92 (by decide) ?_
  refine x_iload h 5 dX6_ordered_52 rfl ?_
  refine x_iload h 0 dX6_ordered_54 rfl ?_
  refine x_ishr h dX6_ordered_56 ?_
  refine x_top (nI 0) (by decide) ?_
  refine x_iconst h (nI 1) dX6_ordered_57 (by decide) ?_
  refine x_iand h dX6_ordered_58 ?_
  refine x_top (nI 0) (by decide) ?_
  refine x_iconst h (nI 1) dX6_ordered_59 (by decide) ?_
  refine x_icmp_eq h 68 dX6_ordered_60 (by decide) (fun c => absurd c (by decide)) (fun _ => ?_)
  refine x_iload h 1 dX6_ordered_63 rfl ?_
  refine x_if_le h 95 dX6_ordered_65 (by decide) (fun _ => ?_) (fun c => absurd (by decide) c)
  refine x_iload h 5 dX6_ordered_95 rfl ?_
  refine x_iconst h (nI 1) dX6_ordered_97 (by decide) ?_
  refine x_iload h 0 dX6_ordered_98 rfl ?_
  refine x_ishl h dX6_ordered_100 ?_
  refine x_top (nI 2) (by decide) ?_
  refine x_ior h dX6_ordered_101 ?_
  refine x_top (nI 2) (by decide) ?_
  refine x_istore h [(4, .int (nI 2)), (6, .int (nI 1)), (9, .int (nI 0)), (5, .int (nI 0)), (8, .int (nI 2)), (7, .int (nI 0)), (0, .ref (g.1 158)), (1, .int (nI 2)), (2, .int (nI 3)), (3, .int (nI 0))] dX6_ordered_102 (by decide) rfl ?_
  refine x_iinc_n h 5 (n := 1) [(7, .int (nI 1)), (4, .int (nI 2)), (6, .int (nI 1)), (9, .int (nI 0)), (5, .int (nI 0)), (8, .int (nI 2)), (0, .ref (g.1 158)), (1, .int (nI 2)), (2, .int (nI 3)), (3, .int (nI 0))] dX6_ordered_104 rfl (by decide) rfl ?_
  refine x_goto h 12 dX6_ordered_107 (by decide) ?_
  refine x_iload h 0 dX6_ordered_12 rfl ?_
  refine x_iload_n h 9 dX6_ordered_14 rfl rfl ?_
  refine x_icmp_gt h 110 dX6_ordered_15 (by decide) (fun _ => ?_) (fun c => absurd (by decide) c)
  refine x_aload_n h 6 dX6_ordered_110 rfl rfl ?_
  refine xg_X6_14 h in_X6_ordered_X6 (by decide +kernel) dX6_ordered_111 ?_
  refine x_iload h 2 dX6_ordered_114 rfl ?_
  refine xl_167 h dX6_ordered_116 (by decide) ?_
  exact hret _ _ _ _ _ dX6_ordered_117 (by exact ⟨⟨rfl, rfl⟩, congrArg (M 167) (by decide)⟩)

set_option maxRecDepth 100000 in
set_option maxHeartbeats 4000000 in
theorem c_X6_ordered_321 {l : Launch} {g : Geo} {M : Nat → Nat → Int32} {P : Nat → Nat}  : Met l yX6_ordered wsX6_ordered rmX6_ordered (cPre g [.ref (g.1 158), .int (nI 2), .int (nI 3), .int (nI 1)] M P) (cQi g (fun r M' P' => (P = P' ∧ M = M') ∧ r = M 167 (pmM 3 2 1))) 0 0 (gA g) := by
  refine met_i (cc := cX6_ordered) (maxL := 10) (by decide) rfl ⟨rfl, rfl⟩ (Nat.le_of_ble_eq_true rfl) (fun x hx h hret => ?_)
  replace h : Cxk x g cX6_ordered 10 wsX6_ordered RX6 rmX6_ordered := h
  show X x 0 [(0, .ref (g.1 158)), (1, .int (nI 2)), (2, .int (nI 3)), (3, .int (nI 1))] [] M P
  refine x_iconst h (nI 0) dX6_ordered_0 (by decide) ?_
  refine x_istore h [(4, .int (nI 0)), (0, .ref (g.1 158)), (1, .int (nI 2)), (2, .int (nI 3)), (3, .int (nI 1))] dX6_ordered_1 (by decide) rfl ?_
  refine x_iload_n h 2 dX6_ordered_3 rfl rfl ?_
  refine x_istore h [(5, .int (nI 2)), (4, .int (nI 0)), (0, .ref (g.1 158)), (1, .int (nI 2)), (2, .int (nI 3)), (3, .int (nI 1))] dX6_ordered_4 (by decide) rfl ?_
  refine x_iconst h (nI 0) dX6_ordered_6 (by decide) ?_
  refine x_istore h [(6, .int (nI 0)), (5, .int (nI 2)), (4, .int (nI 0)), (0, .ref (g.1 158)), (1, .int (nI 2)), (2, .int (nI 3)), (3, .int (nI 1))] dX6_ordered_7 (by decide) rfl ?_
  refine x_iconst h (nI 0) dX6_ordered_9 (by decide) ?_
  refine x_istore h [(7, .int (nI 0)), (6, .int (nI 0)), (5, .int (nI 2)), (4, .int (nI 0)), (0, .ref (g.1 158)), (1, .int (nI 2)), (2, .int (nI 3)), (3, .int (nI 1))] dX6_ordered_10 (by decide) rfl ?_
  refine x_iload h 0 dX6_ordered_12 rfl ?_
  refine x_iload_n h 7 dX6_ordered_14 rfl rfl ?_
  refine x_icmp_gt h 110 dX6_ordered_15 (by decide) (fun c => absurd c (by decide)) (fun _ => ?_)
  refine x_iload_n h 6 dX6_ordered_18 rfl rfl ?_
  refine x_iconst h (nI 1) dX6_ordered_19 (by decide) ?_
  refine x_isub h dX6_ordered_20 ?_
  refine x_top (nI 2) (by decide) ?_
  refine x_iload h 0 dX6_ordered_21 rfl ?_
  refine x_isub h dX6_ordered_23 ?_
  refine x_top (nI 2) (by decide) ?_
  refine x_iconst h (nI 2) dX6_ordered_24 (by decide) ?_
  refine x_icmp_ne h 32 dX6_ordered_25 (by decide) (fun c => absurd c (by decide)) (fun _ => ?_)
  refine x_iconst h (nI 2) dX6_ordered_28 (by decide) ?_
  refine x_goto h 33 dX6_ordered_29 (by decide) ?_
  refine x_istore h [(8, .int (nI 2)), (7, .int (nI 0)), (6, .int (nI 0)), (5, .int (nI 2)), (4, .int (nI 0)), (0, .ref (g.1 158)), (1, .int (nI 2)), (2, .int (nI 3)), (3, .int (nI 1))] dX6_ordered_33 (by decide) rfl ?_
  refine x_iload h 3 dX6_ordered_35 rfl ?_
  refine x_iload h 0 dX6_ordered_37 rfl ?_
  refine x_idiv h dX6_ordered_39 (by decide) ?_
  refine x_top (nI 1) (by decide) ?_
  refine x_istore h [(9, .int (nI 1)), (8, .int (nI 2)), (7, .int (nI 0)), (6, .int (nI 0)), (5, .int (nI 2)), (4, .int (nI 0)), (0, .ref (g.1 158)), (1, .int (nI 2)), (2, .int (nI 3)), (3, .int (nI 1))] dX6_ordered_40 (by decide) rfl ?_
  refine x_iload h 4 dX6_ordered_42 rfl ?_
  refine x_iload h 1 dX6_ordered_44 rfl ?_
  refine x_irem h dX6_ordered_46 (by decide) ?_
  refine x_top (nI 0) (by decide) ?_
  refine x_istore h [(5, .int (nI 0)), (9, .int (nI 1)), (8, .int (nI 2)), (7, .int (nI 0)), (6, .int (nI 0)), (4, .int (nI 0)), (0, .ref (g.1 158)), (1, .int (nI 2)), (2, .int (nI 3)), (3, .int (nI 1))] dX6_ordered_47 (by decide) rfl ?_
  refine x_iconst h (nI 0) dX6_ordered_49 (by decide) ?_
  refine x_istore h [(6, .int (nI 0)), (5, .int (nI 0)), (9, .int (nI 1)), (8, .int (nI 2)), (7, .int (nI 0)), (4, .int (nI 0)), (0, .ref (g.1 158)), (1, .int (nI 2)), (2, .int (nI 3)), (3, .int (nI 1))] dX6_ordered_50 (by decide) rfl ?_
  refine x_iload h 5 dX6_ordered_52 rfl ?_
  refine x_iload h 0 dX6_ordered_54 rfl ?_
  refine x_ishr h dX6_ordered_56 ?_
  refine x_top (nI 0) (by decide) ?_
  refine x_iconst h (nI 1) dX6_ordered_57 (by decide) ?_
  refine x_iand h dX6_ordered_58 ?_
  refine x_top (nI 0) (by decide) ?_
  refine x_iconst h (nI 1) dX6_ordered_59 (by decide) ?_
  refine x_icmp_eq h 68 dX6_ordered_60 (by decide) (fun c => absurd c (by decide)) (fun _ => ?_)
  refine x_iload h 2 dX6_ordered_63 rfl ?_
  refine x_if_le h 95 dX6_ordered_65 (by decide) (fun c => absurd c (by decide)) (fun _ => ?_)
  refine x_iload h 2 dX6_ordered_68 rfl ?_
  refine x_iload h 5 dX6_ordered_70 rfl ?_
  refine x_iload h 0 dX6_ordered_72 rfl ?_
  refine x_ishr h dX6_ordered_74 ?_
  refine x_top (nI 0) (by decide) ?_
  refine x_iconst h (nI 1) dX6_ordered_75 (by decide) ?_
  refine x_iand h dX6_ordered_76 ?_
  refine x_top (nI 0) (by decide) ?_
  refine x_iconst h (nI 1) dX6_ordered_77 (by decide) ?_
  refine x_icmp_ne h 85 dX6_ordered_78 (by decide) (fun _ => ?_) (fun c => absurd c (by decide))
  refine x_iconst h (nI 1) dX6_ordered_85 (by decide) ?_
  refine x_isub h dX6_ordered_86 ?_
  refine x_top (nI 0) (by decide) ?_
  refine x_istore h [(9, .int (nI 0)), (6, .int (nI 0)), (5, .int (nI 0)), (8, .int (nI 2)), (7, .int (nI 0)), (4, .int (nI 0)), (0, .ref (g.1 158)), (1, .int (nI 2)), (2, .int (nI 3)), (3, .int (nI 1))] dX6_ordered_87 (by decide) rfl ?_
  refine x_iinc_n h 1 (n := 1) [(6, .int (nI 1)), (9, .int (nI 0)), (5, .int (nI 0)), (8, .int (nI 2)), (7, .int (nI 0)), (4, .int (nI 0)), (0, .ref (g.1 158)), (1, .int (nI 2)), (2, .int (nI 3)), (3, .int (nI 1))] dX6_ordered_89 rfl (by decide) rfl ?_
  refine x_goto h 52 dX6_ordered_92 (by decide) ?_
  refine x_iload h 5 dX6_ordered_52 rfl ?_
  refine x_iload h 0 dX6_ordered_54 rfl ?_
  refine x_ishr h dX6_ordered_56 ?_
  refine x_top (nI 0) (by decide) ?_
  refine x_iconst h (nI 1) dX6_ordered_57 (by decide) ?_
  refine x_iand h dX6_ordered_58 ?_
  refine x_top (nI 0) (by decide) ?_
  refine x_iconst h (nI 1) dX6_ordered_59 (by decide) ?_
  refine x_icmp_eq h 68 dX6_ordered_60 (by decide) (fun c => absurd c (by decide)) (fun _ => ?_)
  refine x_iload h 1 dX6_ordered_63 rfl ?_
  refine x_if_le h 95 dX6_ordered_65 (by decide) (fun _ => ?_) (fun c => absurd (by decide) c)
  refine x_iload h 5 dX6_ordered_95 rfl ?_
  refine x_iconst h (nI 1) dX6_ordered_97 (by decide) ?_
  refine x_iload h 0 dX6_ordered_98 rfl ?_
  refine x_ishl h dX6_ordered_100 ?_
  refine x_top (nI 2) (by decide) ?_
  refine x_ior h dX6_ordered_101 ?_
  refine x_top (nI 2) (by decide) ?_
  refine x_istore h [(4, .int (nI 2)), (6, .int (nI 1)), (9, .int (nI 0)), (5, .int (nI 0)), (8, .int (nI 2)), (7, .int (nI 0)), (0, .ref (g.1 158)), (1, .int (nI 2)), (2, .int (nI 3)), (3, .int (nI 1))] dX6_ordered_102 (by decide) rfl ?_
  refine x_iinc_n h 5 (n := 1) [(7, .int (nI 1)), (4, .int (nI 2)), (6, .int (nI 1)), (9, .int (nI 0)), (5, .int (nI 0)), (8, .int (nI 2)), (0, .ref (g.1 158)), (1, .int (nI 2)), (2, .int (nI 3)), (3, .int (nI 1))] dX6_ordered_104 rfl (by decide) rfl ?_
  refine x_goto h 12 dX6_ordered_107 (by decide) ?_
  refine x_iload h 0 dX6_ordered_12 rfl ?_
  refine x_iload_n h 9 dX6_ordered_14 rfl rfl ?_
  refine x_icmp_gt h 110 dX6_ordered_15 (by decide) (fun c => absurd c (by decide)) (fun _ => ?_)
  refine x_iload_n h 8 dX6_ordered_18 rfl rfl ?_
  refine x_iconst h (nI 1) dX6_ordered_19 (by decide) ?_
  refine x_isub h dX6_ordered_20 ?_
  refine x_top (nI 2) (by decide) ?_
  refine x_iload h 0 dX6_ordered_21 rfl ?_
  refine x_isub h dX6_ordered_23 ?_
  refine x_top (nI 1) (by decide) ?_
  refine x_iconst h (nI 2) dX6_ordered_24 (by decide) ?_
  refine x_icmp_ne h 32 dX6_ordered_25 (by decide) (fun _ => ?_) (fun c => absurd c (by decide))
  refine x_iconst h (nI 1) dX6_ordered_32 (by decide) ?_
  refine x_istore h [(8, .int (nI 1)), (7, .int (nI 1)), (4, .int (nI 2)), (6, .int (nI 1)), (9, .int (nI 0)), (5, .int (nI 0)), (0, .ref (g.1 158)), (1, .int (nI 2)), (2, .int (nI 3)), (3, .int (nI 1))] dX6_ordered_33 (by decide) rfl ?_
  refine x_iload h 5 dX6_ordered_35 rfl ?_
  refine x_iload h 0 dX6_ordered_37 rfl ?_
  refine x_idiv h dX6_ordered_39 (by decide) ?_
  refine x_top (nI 0) (by decide) ?_
  refine x_istore h [(9, .int (nI 0)), (8, .int (nI 1)), (7, .int (nI 1)), (4, .int (nI 2)), (6, .int (nI 1)), (5, .int (nI 0)), (0, .ref (g.1 158)), (1, .int (nI 2)), (2, .int (nI 3)), (3, .int (nI 1))] dX6_ordered_40 (by decide) rfl ?_
  refine x_iload h 5 dX6_ordered_42 rfl ?_
  refine x_iload h 1 dX6_ordered_44 rfl ?_
  refine x_irem h dX6_ordered_46 (by decide) ?_
  refine x_top (nI 0) (by decide) ?_
  refine x_istore h [(5, .int (nI 0)), (9, .int (nI 0)), (8, .int (nI 1)), (7, .int (nI 1)), (4, .int (nI 2)), (6, .int (nI 1)), (0, .ref (g.1 158)), (1, .int (nI 2)), (2, .int (nI 3)), (3, .int (nI 1))] dX6_ordered_47 (by decide) rfl ?_
  refine x_iconst h (nI 0) dX6_ordered_49 (by decide) ?_
  refine x_istore h [(6, .int (nI 0)), (5, .int (nI 0)), (9, .int (nI 0)), (8, .int (nI 1)), (7, .int (nI 1)), (4, .int (nI 2)), (0, .ref (g.1 158)), (1, .int (nI 2)), (2, .int (nI 3)), (3, .int (nI 1))] dX6_ordered_50 (by decide) rfl ?_
  refine x_iload h 5 dX6_ordered_52 rfl ?_
  refine x_iload h 0 dX6_ordered_54 rfl ?_
  refine x_ishr h dX6_ordered_56 ?_
  refine x_top (nI 2) (by decide) ?_
  refine x_iconst h (nI 1) dX6_ordered_57 (by decide) ?_
  refine x_iand h dX6_ordered_58 ?_
  refine x_top (nI 0) (by decide) ?_
  refine x_iconst h (nI 1) dX6_ordered_59 (by decide) ?_
  refine x_icmp_eq h 68 dX6_ordered_60 (by decide) (fun c => absurd c (by decide)) (fun _ => ?_)
  refine x_iload h 2 dX6_ordered_63 rfl ?_
  refine x_if_le h 95 dX6_ordered_65 (by decide) (fun _ => ?_) (fun c => absurd (by decide) c)
  refine x_iload h 5 dX6_ordered_95 rfl ?_
  refine x_iconst h (nI 1) dX6_ordered_97 (by decide) ?_
  refine x_iload h 0 dX6_ordered_98 rfl ?_
  refine x_ishl h dX6_ordered_100 ?_
  refine x_top (nI 1) (by decide) ?_
  refine x_ior h dX6_ordered_101 ?_
  refine x_top (nI 3) (by decide) ?_
  refine x_istore h [(4, .int (nI 3)), (6, .int (nI 0)), (5, .int (nI 0)), (9, .int (nI 0)), (8, .int (nI 1)), (7, .int (nI 1)), (0, .ref (g.1 158)), (1, .int (nI 2)), (2, .int (nI 3)), (3, .int (nI 1))] dX6_ordered_102 (by decide) rfl ?_
  refine x_iinc_n h 5 (n := 1) [(7, .int (nI 2)), (4, .int (nI 3)), (6, .int (nI 0)), (5, .int (nI 0)), (9, .int (nI 0)), (8, .int (nI 1)), (0, .ref (g.1 158)), (1, .int (nI 2)), (2, .int (nI 3)), (3, .int (nI 1))] dX6_ordered_104 rfl (by decide) rfl ?_
  refine x_goto h 12 dX6_ordered_107 (by decide) ?_
  refine x_iload h 0 dX6_ordered_12 rfl ?_
  refine x_iload_n h 9 dX6_ordered_14 rfl rfl ?_
  refine x_icmp_gt h 110 dX6_ordered_15 (by decide) (fun _ => ?_) (fun c => absurd (by decide) c)
  refine x_aload_n h 6 dX6_ordered_110 rfl rfl ?_
  refine xg_X6_14 h in_X6_ordered_X6 (by decide +kernel) dX6_ordered_111 ?_
  refine x_iload h 2 dX6_ordered_114 rfl ?_
  refine xl_167 h dX6_ordered_116 (by decide) ?_
  exact hret _ _ _ _ _ dX6_ordered_117 (by exact ⟨⟨rfl, rfl⟩, congrArg (M 167) (by decide)⟩)

set_option maxRecDepth 100000 in
set_option maxHeartbeats 4000000 in
theorem c_X6_ordered_322 {l : Launch} {g : Geo} {M : Nat → Nat → Int32} {P : Nat → Nat}  : Met l yX6_ordered wsX6_ordered rmX6_ordered (cPre g [.ref (g.1 158), .int (nI 2), .int (nI 3), .int (nI 2)] M P) (cQi g (fun r M' P' => (P = P' ∧ M = M') ∧ r = M 167 (pmM 3 2 2))) 0 0 (gA g) := by
  refine met_i (cc := cX6_ordered) (maxL := 10) (by decide) rfl ⟨rfl, rfl⟩ (Nat.le_of_ble_eq_true rfl) (fun x hx h hret => ?_)
  replace h : Cxk x g cX6_ordered 10 wsX6_ordered RX6 rmX6_ordered := h
  show X x 0 [(0, .ref (g.1 158)), (1, .int (nI 2)), (2, .int (nI 3)), (3, .int (nI 2))] [] M P
  refine x_iconst h (nI 0) dX6_ordered_0 (by decide) ?_
  refine x_istore h [(4, .int (nI 0)), (0, .ref (g.1 158)), (1, .int (nI 2)), (2, .int (nI 3)), (3, .int (nI 2))] dX6_ordered_1 (by decide) rfl ?_
  refine x_iload_n h 2 dX6_ordered_3 rfl rfl ?_
  refine x_istore h [(5, .int (nI 2)), (4, .int (nI 0)), (0, .ref (g.1 158)), (1, .int (nI 2)), (2, .int (nI 3)), (3, .int (nI 2))] dX6_ordered_4 (by decide) rfl ?_
  refine x_iconst h (nI 0) dX6_ordered_6 (by decide) ?_
  refine x_istore h [(6, .int (nI 0)), (5, .int (nI 2)), (4, .int (nI 0)), (0, .ref (g.1 158)), (1, .int (nI 2)), (2, .int (nI 3)), (3, .int (nI 2))] dX6_ordered_7 (by decide) rfl ?_
  refine x_iconst h (nI 0) dX6_ordered_9 (by decide) ?_
  refine x_istore h [(7, .int (nI 0)), (6, .int (nI 0)), (5, .int (nI 2)), (4, .int (nI 0)), (0, .ref (g.1 158)), (1, .int (nI 2)), (2, .int (nI 3)), (3, .int (nI 2))] dX6_ordered_10 (by decide) rfl ?_
  refine x_iload h 0 dX6_ordered_12 rfl ?_
  refine x_iload_n h 7 dX6_ordered_14 rfl rfl ?_
  refine x_icmp_gt h 110 dX6_ordered_15 (by decide) (fun c => absurd c (by decide)) (fun _ => ?_)
  refine x_iload_n h 6 dX6_ordered_18 rfl rfl ?_
  refine x_iconst h (nI 1) dX6_ordered_19 (by decide) ?_
  refine x_isub h dX6_ordered_20 ?_
  refine x_top (nI 2) (by decide) ?_
  refine x_iload h 0 dX6_ordered_21 rfl ?_
  refine x_isub h dX6_ordered_23 ?_
  refine x_top (nI 2) (by decide) ?_
  refine x_iconst h (nI 2) dX6_ordered_24 (by decide) ?_
  refine x_icmp_ne h 32 dX6_ordered_25 (by decide) (fun c => absurd c (by decide)) (fun _ => ?_)
  refine x_iconst h (nI 2) dX6_ordered_28 (by decide) ?_
  refine x_goto h 33 dX6_ordered_29 (by decide) ?_
  refine x_istore h [(8, .int (nI 2)), (7, .int (nI 0)), (6, .int (nI 0)), (5, .int (nI 2)), (4, .int (nI 0)), (0, .ref (g.1 158)), (1, .int (nI 2)), (2, .int (nI 3)), (3, .int (nI 2))] dX6_ordered_33 (by decide) rfl ?_
  refine x_iload h 3 dX6_ordered_35 rfl ?_
  refine x_iload h 0 dX6_ordered_37 rfl ?_
  refine x_idiv h dX6_ordered_39 (by decide) ?_
  refine x_top (nI 1) (by decide) ?_
  refine x_istore h [(9, .int (nI 1)), (8, .int (nI 2)), (7, .int (nI 0)), (6, .int (nI 0)), (5, .int (nI 2)), (4, .int (nI 0)), (0, .ref (g.1 158)), (1, .int (nI 2)), (2, .int (nI 3)), (3, .int (nI 2))] dX6_ordered_40 (by decide) rfl ?_
  refine x_iload h 4 dX6_ordered_42 rfl ?_
  refine x_iload h 1 dX6_ordered_44 rfl ?_
  refine x_irem h dX6_ordered_46 (by decide) ?_
  refine x_top (nI 0) (by decide) ?_
  refine x_istore h [(5, .int (nI 0)), (9, .int (nI 1)), (8, .int (nI 2)), (7, .int (nI 0)), (6, .int (nI 0)), (4, .int (nI 0)), (0, .ref (g.1 158)), (1, .int (nI 2)), (2, .int (nI 3)), (3, .int (nI 2))] dX6_ordered_47 (by decide) rfl ?_
  refine x_iconst h (nI 0) dX6_ordered_49 (by decide) ?_
  refine x_istore h [(6, .int (nI 0)), (5, .int (nI 0)), (9, .int (nI 1)), (8, .int (nI 2)), (7, .int (nI 0)), (4, .int (nI 0)), (0, .ref (g.1 158)), (1, .int (nI 2)), (2, .int (nI 3)), (3, .int (nI 2))] dX6_ordered_50 (by decide) rfl ?_
  refine x_iload h 5 dX6_ordered_52 rfl ?_
  refine x_iload h 0 dX6_ordered_54 rfl ?_
  refine x_ishr h dX6_ordered_56 ?_
  refine x_top (nI 0) (by decide) ?_
  refine x_iconst h (nI 1) dX6_ordered_57 (by decide) ?_
  refine x_iand h dX6_ordered_58 ?_
  refine x_top (nI 0) (by decide) ?_
  refine x_iconst h (nI 1) dX6_ordered_59 (by decide) ?_
  refine x_icmp_eq h 68 dX6_ordered_60 (by decide) (fun c => absurd c (by decide)) (fun _ => ?_)
  refine x_iload h 2 dX6_ordered_63 rfl ?_
  refine x_if_le h 95 dX6_ordered_65 (by decide) (fun c => absurd c (by decide)) (fun _ => ?_)
  refine x_iload h 2 dX6_ordered_68 rfl ?_
  refine x_iload h 5 dX6_ordered_70 rfl ?_
  refine x_iload h 0 dX6_ordered_72 rfl ?_
  refine x_ishr h dX6_ordered_74 ?_
  refine x_top (nI 0) (by decide) ?_
  refine x_iconst h (nI 1) dX6_ordered_75 (by decide) ?_
  refine x_iand h dX6_ordered_76 ?_
  refine x_top (nI 0) (by decide) ?_
  refine x_iconst h (nI 1) dX6_ordered_77 (by decide) ?_
  refine x_icmp_ne h 85 dX6_ordered_78 (by decide) (fun _ => ?_) (fun c => absurd c (by decide))
  refine x_iconst h (nI 1) dX6_ordered_85 (by decide) ?_
  refine x_isub h dX6_ordered_86 ?_
  refine x_top (nI 0) (by decide) ?_
  refine x_istore h [(9, .int (nI 0)), (6, .int (nI 0)), (5, .int (nI 0)), (8, .int (nI 2)), (7, .int (nI 0)), (4, .int (nI 0)), (0, .ref (g.1 158)), (1, .int (nI 2)), (2, .int (nI 3)), (3, .int (nI 2))] dX6_ordered_87 (by decide) rfl ?_
  refine x_iinc_n h 1 (n := 1) [(6, .int (nI 1)), (9, .int (nI 0)), (5, .int (nI 0)), (8, .int (nI 2)), (7, .int (nI 0)), (4, .int (nI 0)), (0, .ref (g.1 158)), (1, .int (nI 2)), (2, .int (nI 3)), (3, .int (nI 2))] dX6_ordered_89 rfl (by decide) rfl ?_
  refine x_goto h 52 dX6_ordered_92 (by decide) ?_
  refine x_iload h 5 dX6_ordered_52 rfl ?_
  refine x_iload h 0 dX6_ordered_54 rfl ?_
  refine x_ishr h dX6_ordered_56 ?_
  refine x_top (nI 0) (by decide) ?_
  refine x_iconst h (nI 1) dX6_ordered_57 (by decide) ?_
  refine x_iand h dX6_ordered_58 ?_
  refine x_top (nI 0) (by decide) ?_
  refine x_iconst h (nI 1) dX6_ordered_59 (by decide) ?_
  refine x_icmp_eq h 68 dX6_ordered_60 (by decide) (fun c => absurd c (by decide)) (fun _ => ?_)
  refine x_iload h 1 dX6_ordered_63 rfl ?_
  refine x_if_le h 95 dX6_ordered_65 (by decide) (fun _ => ?_) (fun c => absurd (by decide) c)
  refine x_iload h 5 dX6_ordered_95 rfl ?_
  refine x_iconst h (nI 1) dX6_ordered_97 (by decide) ?_
  refine x_iload h 0 dX6_ordered_98 rfl ?_
  refine x_ishl h dX6_ordered_100 ?_
  refine x_top (nI 2) (by decide) ?_
  refine x_ior h dX6_ordered_101 ?_
  refine x_top (nI 2) (by decide) ?_
  refine x_istore h [(4, .int (nI 2)), (6, .int (nI 1)), (9, .int (nI 0)), (5, .int (nI 0)), (8, .int (nI 2)), (7, .int (nI 0)), (0, .ref (g.1 158)), (1, .int (nI 2)), (2, .int (nI 3)), (3, .int (nI 2))] dX6_ordered_102 (by decide) rfl ?_
  refine x_iinc_n h 5 (n := 1) [(7, .int (nI 1)), (4, .int (nI 2)), (6, .int (nI 1)), (9, .int (nI 0)), (5, .int (nI 0)), (8, .int (nI 2)), (0, .ref (g.1 158)), (1, .int (nI 2)), (2, .int (nI 3)), (3, .int (nI 2))] dX6_ordered_104 rfl (by decide) rfl ?_
  refine x_goto h 12 dX6_ordered_107 (by decide) ?_
  refine x_iload h 0 dX6_ordered_12 rfl ?_
  refine x_iload_n h 9 dX6_ordered_14 rfl rfl ?_
  refine x_icmp_gt h 110 dX6_ordered_15 (by decide) (fun c => absurd c (by decide)) (fun _ => ?_)
  refine x_iload_n h 8 dX6_ordered_18 rfl rfl ?_
  refine x_iconst h (nI 1) dX6_ordered_19 (by decide) ?_
  refine x_isub h dX6_ordered_20 ?_
  refine x_top (nI 2) (by decide) ?_
  refine x_iload h 0 dX6_ordered_21 rfl ?_
  refine x_isub h dX6_ordered_23 ?_
  refine x_top (nI 1) (by decide) ?_
  refine x_iconst h (nI 2) dX6_ordered_24 (by decide) ?_
  refine x_icmp_ne h 32 dX6_ordered_25 (by decide) (fun _ => ?_) (fun c => absurd c (by decide))
  refine x_iconst h (nI 1) dX6_ordered_32 (by decide) ?_
  refine x_istore h [(8, .int (nI 1)), (7, .int (nI 1)), (4, .int (nI 2)), (6, .int (nI 1)), (9, .int (nI 0)), (5, .int (nI 0)), (0, .ref (g.1 158)), (1, .int (nI 2)), (2, .int (nI 3)), (3, .int (nI 2))] dX6_ordered_33 (by decide) rfl ?_
  refine x_iload h 5 dX6_ordered_35 rfl ?_
  refine x_iload h 0 dX6_ordered_37 rfl ?_
  refine x_idiv h dX6_ordered_39 (by decide) ?_
  refine x_top (nI 0) (by decide) ?_
  refine x_istore h [(9, .int (nI 0)), (8, .int (nI 1)), (7, .int (nI 1)), (4, .int (nI 2)), (6, .int (nI 1)), (5, .int (nI 0)), (0, .ref (g.1 158)), (1, .int (nI 2)), (2, .int (nI 3)), (3, .int (nI 2))] dX6_ordered_40 (by decide) rfl ?_
  refine x_iload h 5 dX6_ordered_42 rfl ?_
  refine x_iload h 1 dX6_ordered_44 rfl ?_
  refine x_irem h dX6_ordered_46 (by decide) ?_
  refine x_top (nI 0) (by decide) ?_
  refine x_istore h [(5, .int (nI 0)), (9, .int (nI 0)), (8, .int (nI 1)), (7, .int (nI 1)), (4, .int (nI 2)), (6, .int (nI 1)), (0, .ref (g.1 158)), (1, .int (nI 2)), (2, .int (nI 3)), (3, .int (nI 2))] dX6_ordered_47 (by decide) rfl ?_
  refine x_iconst h (nI 0) dX6_ordered_49 (by decide) ?_
  refine x_istore h [(6, .int (nI 0)), (5, .int (nI 0)), (9, .int (nI 0)), (8, .int (nI 1)), (7, .int (nI 1)), (4, .int (nI 2)), (0, .ref (g.1 158)), (1, .int (nI 2)), (2, .int (nI 3)), (3, .int (nI 2))] dX6_ordered_50 (by decide) rfl ?_
  refine x_iload h 5 dX6_ordered_52 rfl ?_
  refine x_iload h 0 dX6_ordered_54 rfl ?_
  refine x_ishr h dX6_ordered_56 ?_
  refine x_top (nI 2) (by decide) ?_
  refine x_iconst h (nI 1) dX6_ordered_57 (by decide) ?_
  refine x_iand h dX6_ordered_58 ?_
  refine x_top (nI 0) (by decide) ?_
  refine x_iconst h (nI 1) dX6_ordered_59 (by decide) ?_
  refine x_icmp_eq h 68 dX6_ordered_60 (by decide) (fun c => absurd c (by decide)) (fun _ => ?_)
  refine x_iload h 2 dX6_ordered_63 rfl ?_
  refine x_if_le h 95 dX6_ordered_65 (by decide) (fun _ => ?_) (fun c => absurd (by decide) c)
  refine x_iload h 5 dX6_ordered_95 rfl ?_
  refine x_iconst h (nI 1) dX6_ordered_97 (by decide) ?_
  refine x_iload h 0 dX6_ordered_98 rfl ?_
  refine x_ishl h dX6_ordered_100 ?_
  refine x_top (nI 1) (by decide) ?_
  refine x_ior h dX6_ordered_101 ?_
  refine x_top (nI 3) (by decide) ?_
  refine x_istore h [(4, .int (nI 3)), (6, .int (nI 0)), (5, .int (nI 0)), (9, .int (nI 0)), (8, .int (nI 1)), (7, .int (nI 1)), (0, .ref (g.1 158)), (1, .int (nI 2)), (2, .int (nI 3)), (3, .int (nI 2))] dX6_ordered_102 (by decide) rfl ?_
  refine x_iinc_n h 5 (n := 1) [(7, .int (nI 2)), (4, .int (nI 3)), (6, .int (nI 0)), (5, .int (nI 0)), (9, .int (nI 0)), (8, .int (nI 1)), (0, .ref (g.1 158)), (1, .int (nI 2)), (2, .int (nI 3)), (3, .int (nI 2))] dX6_ordered_104 rfl (by decide) rfl ?_
  refine x_goto h 12 dX6_ordered_107 (by decide) ?_
  refine x_iload h 0 dX6_ordered_12 rfl ?_
  refine x_iload_n h 9 dX6_ordered_14 rfl rfl ?_
  refine x_icmp_gt h 110 dX6_ordered_15 (by decide) (fun c => absurd c (by decide)) (fun _ => ?_)
  refine x_iload_n h 8 dX6_ordered_18 rfl rfl ?_
  refine x_iconst h (nI 1) dX6_ordered_19 (by decide) ?_
  refine x_isub h dX6_ordered_20 ?_
  refine x_top (nI 2) (by decide) ?_
  refine x_iload h 0 dX6_ordered_21 rfl ?_
  refine x_isub h dX6_ordered_23 ?_
  refine x_top (nI 0) (by decide) ?_
  refine x_iconst h (nI 2) dX6_ordered_24 (by decide) ?_
  refine x_icmp_ne h 32 dX6_ordered_25 (by decide) (fun _ => ?_) (fun c => absurd c (by decide))
  refine x_iconst h (nI 1) dX6_ordered_32 (by decide) ?_
  refine x_istore h [(8, .int (nI 1)), (7, .int (nI 2)), (4, .int (nI 3)), (6, .int (nI 0)), (5, .int (nI 0)), (9, .int (nI 0)), (0, .ref (g.1 158)), (1, .int (nI 2)), (2, .int (nI 3)), (3, .int (nI 2))] dX6_ordered_33 (by decide) rfl ?_
  refine x_iload h 4 dX6_ordered_35 rfl ?_
  refine x_iload h 0 dX6_ordered_37 rfl ?_
  refine x_idiv h dX6_ordered_39 (by decide) ?_
  refine x_top (nI 0) (by decide) ?_
  refine x_istore h [(9, .int (nI 0)), (8, .int (nI 1)), (7, .int (nI 2)), (4, .int (nI 3)), (6, .int (nI 0)), (5, .int (nI 0)), (0, .ref (g.1 158)), (1, .int (nI 2)), (2, .int (nI 3)), (3, .int (nI 2))] dX6_ordered_40 (by decide) rfl ?_
  refine x_iload h 5 dX6_ordered_42 rfl ?_
  refine x_iload h 1 dX6_ordered_44 rfl ?_
  refine x_irem h dX6_ordered_46 (by decide) ?_
  refine x_top (nI 0) (by decide) ?_
  refine x_istore h [(5, .int (nI 0)), (9, .int (nI 0)), (8, .int (nI 1)), (7, .int (nI 2)), (4, .int (nI 3)), (6, .int (nI 0)), (0, .ref (g.1 158)), (1, .int (nI 2)), (2, .int (nI 3)), (3, .int (nI 2))] dX6_ordered_47 (by decide) rfl ?_
  refine x_iconst h (nI 0) dX6_ordered_49 (by decide) ?_
  refine x_istore h [(6, .int (nI 0)), (5, .int (nI 0)), (9, .int (nI 0)), (8, .int (nI 1)), (7, .int (nI 2)), (4, .int (nI 3)), (0, .ref (g.1 158)), (1, .int (nI 2)), (2, .int (nI 3)), (3, .int (nI 2))] dX6_ordered_50 (by decide) rfl ?_
  refine x_iload h 5 dX6_ordered_52 rfl ?_
  refine x_iload h 0 dX6_ordered_54 rfl ?_
  refine x_ishr h dX6_ordered_56 ?_
  refine x_top (nI 3) (by decide) ?_
  refine x_iconst h (nI 1) dX6_ordered_57 (by decide) ?_
  refine x_iand h dX6_ordered_58 ?_
  refine x_top (nI 1) (by decide) ?_
  refine x_iconst h (nI 1) dX6_ordered_59 (by decide) ?_
  refine x_icmp_eq h 68 dX6_ordered_60 (by decide) (fun _ => ?_) (fun c => absurd (by decide) c)
  refine x_iload h 2 dX6_ordered_68 rfl ?_
  refine x_iload h 5 dX6_ordered_70 rfl ?_
  refine x_iload h 0 dX6_ordered_72 rfl ?_
  refine x_ishr h dX6_ordered_74 ?_
  refine x_top (nI 3) (by decide) ?_
  refine x_iconst h (nI 1) dX6_ordered_75 (by decide) ?_
  refine x_iand h dX6_ordered_76 ?_
  refine x_top (nI 1) (by decide) ?_
  refine x_iconst h (nI 1) dX6_ordered_77 (by decide) ?_
  refine x_icmp_ne h 85 dX6_ordered_78 (by decide) (fun c => absurd c (by decide)) (fun _ => ?_)
  refine x_iconst h (nI 0) dX6_ordered_81 (by decide) ?_
  refine x_goto h 86 dX6_ordered_82 (by decide) ?_
  refine x_isub h dX6_ordered_86 ?_
  refine x_top (nI 0) (by decide) ?_
  refine x_istore h [(9, .int (nI 0)), (6, .int (nI 0)), (5, .int (nI 0)), (8, .int (nI 1)), (7, .int (nI 2)), (4, .int (nI 3)), (0, .ref (g.1 158)), (1, .int (nI 2)), (2, .int (nI 3)), (3, .int (nI 2))] dX6_ordered_87 (by decide) rfl ?_
  refine x_iinc_n h 1 (n := 1) [(6, .int (nI 1)), (9, .int (nI 0)), (5, .int (nI 0)), (8, .int (nI 1)), (7, .int (nI 2)), (4, .int (nI 3)), (0, .ref (g.1 158)), (1, .int (nI 2)), (2, .int (nI 3)), (3, .int (nI 2))] dX6_ordered_89 rfl (by decide) rfl ?_
  refine x_goto h 52 dX6_ordered_92 (by decide) ?_
  refine x_iload h 5 dX6_ordered_52 rfl ?_
  refine x_iload h 0 dX6_ordered_54 rfl ?_
  refine x_ishr h dX6_ordered_56 ?_
  refine x_top (nI 1) (by decide) ?_
  refine x_iconst h (nI 1) dX6_ordered_57 (by decide) ?_
  refine x_iand h dX6_ordered_58 ?_
  refine x_top (nI 1) (by decide) ?_
  refine x_iconst h (nI 1) dX6_ordered_59 (by decide) ?_
  refine x_icmp_eq h 68 dX6_ordered_60 (by decide) (fun _ => ?_) (fun c => absurd (by decide) c)
  refine x_iload h 1 dX6_ordered_68 rfl ?_
  refine x_iload h 5 dX6_ordered_70 rfl ?_
  refine x_iload h 0 dX6_ordered_72 rfl ?_
  refine x_ishr h dX6_ordered_74 ?_
  refine x_top (nI 1) (by decide) ?_
  refine x_iconst h (nI 1) dX6_ordered_75 (by decide) ?_
  refine x_iand h dX6_ordered_76 ?_
  refine x_top (nI 1) (by decide) ?_
  refine x_iconst h (nI 1) dX6_ordered_77 (by decide) ?_
  refine x_icmp_ne h 85 dX6_ordered_78 (by decide) (fun c => absurd c (by decide)) (fun _ => ?_)
  refine x_iconst h (nI 0) dX6_ordered_81 (by decide) ?_
  refine x_goto h 86 dX6_ordered_82 (by decide) ?_
  refine x_isub h dX6_ordered_86 ?_
  refine x_top (nI 0) (by decide) ?_
  refine x_istore h [(9, .int (nI 0)), (6, .int (nI 1)), (5, .int (nI 0)), (8, .int (nI 1)), (7, .int (nI 2)), (4, .int (nI 3)), (0, .ref (g.1 158)), (1, .int (nI 2)), (2, .int (nI 3)), (3, .int (nI 2))] dX6_ordered_87 (by decide) rfl ?_
  refine x_iinc_n h 1 (n := 1) [(6, .int (nI 2)), (9, .int (nI 0)), (5, .int (nI 0)), (8, .int (nI 1)), (7, .int (nI 2)), (4, .int (nI 3)), (0, .ref (g.1 158)), (1, .int (nI 2)), (2, .int (nI 3)), (3, .int (nI 2))] dX6_ordered_89 rfl (by decide) rfl ?_
  refine x_goto h 52 dX6_ordered_92 (by decide) ?_
  refine x_iload h 5 dX6_ordered_52 rfl ?_
  refine x_iload h 0 dX6_ordered_54 rfl ?_
  refine x_ishr h dX6_ordered_56 ?_
  refine x_top (nI 0) (by decide) ?_
  refine x_iconst h (nI 1) dX6_ordered_57 (by decide) ?_
  refine x_iand h dX6_ordered_58 ?_
  refine x_top (nI 0) (by decide) ?_
  refine x_iconst h (nI 1) dX6_ordered_59 (by decide) ?_
  refine x_icmp_eq h 68 dX6_ordered_60 (by decide) (fun c => absurd c (by decide)) (fun _ => ?_)
  refine x_iload h 1 dX6_ordered_63 rfl ?_
  refine x_if_le h 95 dX6_ordered_65 (by decide) (fun _ => ?_) (fun c => absurd (by decide) c)
  refine x_iload h 5 dX6_ordered_95 rfl ?_
  refine x_iconst h (nI 1) dX6_ordered_97 (by decide) ?_
  refine x_iload h 0 dX6_ordered_98 rfl ?_
  refine x_ishl h dX6_ordered_100 ?_
  refine x_top (nI 4) (by decide) ?_
  refine x_ior h dX6_ordered_101 ?_
  refine x_top (nI 7) (by decide) ?_
  refine x_istore h [(4, .int (nI 7)), (6, .int (nI 2)), (9, .int (nI 0)), (5, .int (nI 0)), (8, .int (nI 1)), (7, .int (nI 2)), (0, .ref (g.1 158)), (1, .int (nI 2)), (2, .int (nI 3)), (3, .int (nI 2))] dX6_ordered_102 (by decide) rfl ?_
  refine x_iinc_n h 5 (n := 1) [(7, .int (nI 3)), (4, .int (nI 7)), (6, .int (nI 2)), (9, .int (nI 0)), (5, .int (nI 0)), (8, .int (nI 1)), (0, .ref (g.1 158)), (1, .int (nI 2)), (2, .int (nI 3)), (3, .int (nI 2))] dX6_ordered_104 rfl (by decide) rfl ?_
  refine x_goto h 12 dX6_ordered_107 (by decide) ?_
  refine x_iload h 0 dX6_ordered_12 rfl ?_
  refine x_iload_n h 9 dX6_ordered_14 rfl rfl ?_
  refine x_icmp_gt h 110 dX6_ordered_15 (by decide) (fun _ => ?_) (fun c => absurd (by decide) c)
  refine x_aload_n h 6 dX6_ordered_110 rfl rfl ?_
  refine xg_X6_14 h in_X6_ordered_X6 (by decide +kernel) dX6_ordered_111 ?_
  refine x_iload h 2 dX6_ordered_114 rfl ?_
  refine xl_167 h dX6_ordered_116 (by decide) ?_
  exact hret _ _ _ _ _ dX6_ordered_117 (by exact ⟨⟨rfl, rfl⟩, congrArg (M 167) (by decide)⟩)

set_option maxRecDepth 100000 in
set_option maxHeartbeats 4000000 in
theorem c_X6_ordered_330 {l : Launch} {g : Geo} {M : Nat → Nat → Int32} {P : Nat → Nat}  : Met l yX6_ordered wsX6_ordered rmX6_ordered (cPre g [.ref (g.1 158), .int (nI 3), .int (nI 3), .int (nI 0)] M P) (cQi g (fun r M' P' => (P = P' ∧ M = M') ∧ r = M 167 (pmM 3 3 0))) 0 0 (gA g) := by
  refine met_i (cc := cX6_ordered) (maxL := 10) (by decide) rfl ⟨rfl, rfl⟩ (Nat.le_of_ble_eq_true rfl) (fun x hx h hret => ?_)
  replace h : Cxk x g cX6_ordered 10 wsX6_ordered RX6 rmX6_ordered := h
  show X x 0 [(0, .ref (g.1 158)), (1, .int (nI 3)), (2, .int (nI 3)), (3, .int (nI 0))] [] M P
  refine x_iconst h (nI 0) dX6_ordered_0 (by decide) ?_
  refine x_istore h [(4, .int (nI 0)), (0, .ref (g.1 158)), (1, .int (nI 3)), (2, .int (nI 3)), (3, .int (nI 0))] dX6_ordered_1 (by decide) rfl ?_
  refine x_iload_n h 2 dX6_ordered_3 rfl rfl ?_
  refine x_istore h [(5, .int (nI 3)), (4, .int (nI 0)), (0, .ref (g.1 158)), (1, .int (nI 3)), (2, .int (nI 3)), (3, .int (nI 0))] dX6_ordered_4 (by decide) rfl ?_
  refine x_iconst h (nI 0) dX6_ordered_6 (by decide) ?_
  refine x_istore h [(6, .int (nI 0)), (5, .int (nI 3)), (4, .int (nI 0)), (0, .ref (g.1 158)), (1, .int (nI 3)), (2, .int (nI 3)), (3, .int (nI 0))] dX6_ordered_7 (by decide) rfl ?_
  refine x_iconst h (nI 0) dX6_ordered_9 (by decide) ?_
  refine x_istore h [(7, .int (nI 0)), (6, .int (nI 0)), (5, .int (nI 3)), (4, .int (nI 0)), (0, .ref (g.1 158)), (1, .int (nI 3)), (2, .int (nI 3)), (3, .int (nI 0))] dX6_ordered_10 (by decide) rfl ?_
  refine x_iload h 0 dX6_ordered_12 rfl ?_
  refine x_iload_n h 7 dX6_ordered_14 rfl rfl ?_
  refine x_icmp_gt h 110 dX6_ordered_15 (by decide) (fun c => absurd c (by decide)) (fun _ => ?_)
  refine x_iload_n h 6 dX6_ordered_18 rfl rfl ?_
  refine x_iconst h (nI 1) dX6_ordered_19 (by decide) ?_
  refine x_isub h dX6_ordered_20 ?_
  refine x_top (nI 2) (by decide) ?_
  refine x_iload h 0 dX6_ordered_21 rfl ?_
  refine x_isub h dX6_ordered_23 ?_
  refine x_top (nI 2) (by decide) ?_
  refine x_iconst h (nI 2) dX6_ordered_24 (by decide) ?_
  refine x_icmp_ne h 32 dX6_ordered_25 (by decide) (fun c => absurd c (by decide)) (fun _ => ?_)
  refine x_iconst h (nI 2) dX6_ordered_28 (by decide) ?_
  refine x_goto h 33 dX6_ordered_29 (by decide) ?_
  refine x_istore h [(8, .int (nI 2)), (7, .int (nI 0)), (6, .int (nI 0)), (5, .int (nI 3)), (4, .int (nI 0)), (0, .ref (g.1 158)), (1, .int (nI 3)), (2, .int (nI 3)), (3, .int (nI 0))] dX6_ordered_33 (by decide) rfl ?_
  refine x_iload h 3 dX6_ordered_35 rfl ?_
  refine x_iload h 0 dX6_ordered_37 rfl ?_
  refine x_idiv h dX6_ordered_39 (by decide) ?_
  refine x_top (nI 1) (by decide) ?_
  refine x_istore h [(9, .int (nI 1)), (8, .int (nI 2)), (7, .int (nI 0)), (6, .int (nI 0)), (5, .int (nI 3)), (4, .int (nI 0)), (0, .ref (g.1 158)), (1, .int (nI 3)), (2, .int (nI 3)), (3, .int (nI 0))] dX6_ordered_40 (by decide) rfl ?_
  refine x_iload h 4 dX6_ordered_42 rfl ?_
  refine x_iload h 1 dX6_ordered_44 rfl ?_
  refine x_irem h dX6_ordered_46 (by decide) ?_
  refine x_top (nI 1) (by decide) ?_
  refine x_istore h [(5, .int (nI 1)), (9, .int (nI 1)), (8, .int (nI 2)), (7, .int (nI 0)), (6, .int (nI 0)), (4, .int (nI 0)), (0, .ref (g.1 158)), (1, .int (nI 3)), (2, .int (nI 3)), (3, .int (nI 0))] dX6_ordered_47 (by decide) rfl ?_
  refine x_iconst h (nI 0) dX6_ordered_49 (by decide) ?_
  refine x_istore h [(6, .int (nI 0)), (5, .int (nI 1)), (9, .int (nI 1)), (8, .int (nI 2)), (7, .int (nI 0)), (4, .int (nI 0)), (0, .ref (g.1 158)), (1, .int (nI 3)), (2, .int (nI 3)), (3, .int (nI 0))] dX6_ordered_50 (by decide) rfl ?_
  refine x_iload h 5 dX6_ordered_52 rfl ?_
  refine x_iload h 0 dX6_ordered_54 rfl ?_
  refine x_ishr h dX6_ordered_56 ?_
  refine x_top (nI 0) (by decide) ?_
  refine x_iconst h (nI 1) dX6_ordered_57 (by decide) ?_
  refine x_iand h dX6_ordered_58 ?_
  refine x_top (nI 0) (by decide) ?_
  refine x_iconst h (nI 1) dX6_ordered_59 (by decide) ?_
  refine x_icmp_eq h 68 dX6_ordered_60 (by decide) (fun c => absurd c (by decide)) (fun _ => ?_)
  refine x_iload h 2 dX6_ordered_63 rfl ?_
  refine x_if_le h 95 dX6_ordered_65 (by decide) (fun c => absurd c (by decide)) (fun _ => ?_)
  refine x_iload h 2 dX6_ordered_68 rfl ?_
  refine x_iload h 5 dX6_ordered_70 rfl ?_
  refine x_iload h 0 dX6_ordered_72 rfl ?_
  refine x_ishr h dX6_ordered_74 ?_
  refine x_top (nI 0) (by decide) ?_
  refine x_iconst h (nI 1) dX6_ordered_75 (by decide) ?_
  refine x_iand h dX6_ordered_76 ?_
  refine x_top (nI 0) (by decide) ?_
  refine x_iconst h (nI 1) dX6_ordered_77 (by decide) ?_
  refine x_icmp_ne h 85 dX6_ordered_78 (by decide) (fun _ => ?_) (fun c => absurd c (by decide))
  refine x_iconst h (nI 1) dX6_ordered_85 (by decide) ?_
  refine x_isub h dX6_ordered_86 ?_
  refine x_top (nI 0) (by decide) ?_
  refine x_istore h [(9, .int (nI 0)), (6, .int (nI 0)), (5, .int (nI 1)), (8, .int (nI 2)), (7, .int (nI 0)), (4, .int (nI 0)), (0, .ref (g.1 158)), (1, .int (nI 3)), (2, .int (nI 3)), (3, .int (nI 0))] dX6_ordered_87 (by decide) rfl ?_
  refine x_iinc_n h 1 (n := 1) [(6, .int (nI 1)), (9, .int (nI 0)), (5, .int (nI 1)), (8, .int (nI 2)), (7, .int (nI 0)), (4, .int (nI 0)), (0, .ref (g.1 158)), (1, .int (nI 3)), (2, .int (nI 3)), (3, .int (nI 0))] dX6_ordered_89 rfl (by decide) rfl ?_
  refine x_goto h 52 dX6_ordered_92 (by decide) ?_
  refine x_iload h 5 dX6_ordered_52 rfl ?_
  refine x_iload h 0 dX6_ordered_54 rfl ?_
  refine x_ishr h dX6_ordered_56 ?_
  refine x_top (nI 0) (by decide) ?_
  refine x_iconst h (nI 1) dX6_ordered_57 (by decide) ?_
  refine x_iand h dX6_ordered_58 ?_
  refine x_top (nI 0) (by decide) ?_
  refine x_iconst h (nI 1) dX6_ordered_59 (by decide) ?_
  refine x_icmp_eq h 68 dX6_ordered_60 (by decide) (fun c => absurd c (by decide)) (fun _ => ?_)
  refine x_iload h 1 dX6_ordered_63 rfl ?_
  refine x_if_le h 95 dX6_ordered_65 (by decide) (fun _ => ?_) (fun c => absurd (by decide) c)
  refine x_iload h 5 dX6_ordered_95 rfl ?_
  refine x_iconst h (nI 1) dX6_ordered_97 (by decide) ?_
  refine x_iload h 0 dX6_ordered_98 rfl ?_
  refine x_ishl h dX6_ordered_100 ?_
  refine x_top (nI 2) (by decide) ?_
  refine x_ior h dX6_ordered_101 ?_
  refine x_top (nI 2) (by decide) ?_
  refine x_istore h [(4, .int (nI 2)), (6, .int (nI 1)), (9, .int (nI 0)), (5, .int (nI 1)), (8, .int (nI 2)), (7, .int (nI 0)), (0, .ref (g.1 158)), (1, .int (nI 3)), (2, .int (nI 3)), (3, .int (nI 0))] dX6_ordered_102 (by decide) rfl ?_
  refine x_iinc_n h 5 (n := 1) [(7, .int (nI 1)), (4, .int (nI 2)), (6, .int (nI 1)), (9, .int (nI 0)), (5, .int (nI 1)), (8, .int (nI 2)), (0, .ref (g.1 158)), (1, .int (nI 3)), (2, .int (nI 3)), (3, .int (nI 0))] dX6_ordered_104 rfl (by decide) rfl ?_
  refine x_goto h 12 dX6_ordered_107 (by decide) ?_
  refine x_iload h 0 dX6_ordered_12 rfl ?_
  refine x_iload_n h 9 dX6_ordered_14 rfl rfl ?_
  refine x_icmp_gt h 110 dX6_ordered_15 (by decide) (fun _ => ?_) (fun c => absurd (by decide) c)
  refine x_aload_n h 6 dX6_ordered_110 rfl rfl ?_
  refine xg_X6_14 h in_X6_ordered_X6 (by decide +kernel) dX6_ordered_111 ?_
  refine x_iload h 2 dX6_ordered_114 rfl ?_
  refine xl_167 h dX6_ordered_116 (by decide) ?_
  exact hret _ _ _ _ _ dX6_ordered_117 (by exact ⟨⟨rfl, rfl⟩, congrArg (M 167) (by decide)⟩)

set_option maxRecDepth 100000 in
set_option maxHeartbeats 4000000 in
theorem c_X6_ordered_331 {l : Launch} {g : Geo} {M : Nat → Nat → Int32} {P : Nat → Nat}  : Met l yX6_ordered wsX6_ordered rmX6_ordered (cPre g [.ref (g.1 158), .int (nI 3), .int (nI 3), .int (nI 1)] M P) (cQi g (fun r M' P' => (P = P' ∧ M = M') ∧ r = M 167 (pmM 3 3 1))) 0 0 (gA g) := by
  refine met_i (cc := cX6_ordered) (maxL := 10) (by decide) rfl ⟨rfl, rfl⟩ (Nat.le_of_ble_eq_true rfl) (fun x hx h hret => ?_)
  replace h : Cxk x g cX6_ordered 10 wsX6_ordered RX6 rmX6_ordered := h
  show X x 0 [(0, .ref (g.1 158)), (1, .int (nI 3)), (2, .int (nI 3)), (3, .int (nI 1))] [] M P
  refine x_iconst h (nI 0) dX6_ordered_0 (by decide) ?_
  refine x_istore h [(4, .int (nI 0)), (0, .ref (g.1 158)), (1, .int (nI 3)), (2, .int (nI 3)), (3, .int (nI 1))] dX6_ordered_1 (by decide) rfl ?_
  refine x_iload_n h 2 dX6_ordered_3 rfl rfl ?_
  refine x_istore h [(5, .int (nI 3)), (4, .int (nI 0)), (0, .ref (g.1 158)), (1, .int (nI 3)), (2, .int (nI 3)), (3, .int (nI 1))] dX6_ordered_4 (by decide) rfl ?_
  refine x_iconst h (nI 0) dX6_ordered_6 (by decide) ?_
  refine x_istore h [(6, .int (nI 0)), (5, .int (nI 3)), (4, .int (nI 0)), (0, .ref (g.1 158)), (1, .int (nI 3)), (2, .int (nI 3)), (3, .int (nI 1))] dX6_ordered_7 (by decide) rfl ?_
  refine x_iconst h (nI 0) dX6_ordered_9 (by decide) ?_
  refine x_istore h [(7, .int (nI 0)), (6, .int (nI 0)), (5, .int (nI 3)), (4, .int (nI 0)), (0, .ref (g.1 158)), (1, .int (nI 3)), (2, .int (nI 3)), (3, .int (nI 1))] dX6_ordered_10 (by decide) rfl ?_
  refine x_iload h 0 dX6_ordered_12 rfl ?_
  refine x_iload_n h 7 dX6_ordered_14 rfl rfl ?_
  refine x_icmp_gt h 110 dX6_ordered_15 (by decide) (fun c => absurd c (by decide)) (fun _ => ?_)
  refine x_iload_n h 6 dX6_ordered_18 rfl rfl ?_
  refine x_iconst h (nI 1) dX6_ordered_19 (by decide) ?_
  refine x_isub h dX6_ordered_20 ?_
  refine x_top (nI 2) (by decide) ?_
  refine x_iload h 0 dX6_ordered_21 rfl ?_
  refine x_isub h dX6_ordered_23 ?_
  refine x_top (nI 2) (by decide) ?_
  refine x_iconst h (nI 2) dX6_ordered_24 (by decide) ?_
  refine x_icmp_ne h 32 dX6_ordered_25 (by decide) (fun c => absurd c (by decide)) (fun _ => ?_)
  refine x_iconst h (nI 2) dX6_ordered_28 (by decide) ?_
  refine x_goto h 33 dX6_ordered_29 (by decide) ?_
  refine x_istore h [(8, .int (nI 2)), (7, .int (nI 0)), (6, .int (nI 0)), (5, .int (nI 3)), (4, .int (nI 0)), (0, .ref (g.1 158)), (1, .int (nI 3)), (2, .int (nI 3)), (3, .int (nI 1))] dX6_ordered_33 (by decide) rfl ?_
  refine x_iload h 3 dX6_ordered_35 rfl ?_
  refine x_iload h 0 dX6_ordered_37 rfl ?_
  refine x_idiv h dX6_ordered_39 (by decide) ?_
  refine x_top (nI 1) (by decide) ?_
  refine x_istore h [(9, .int (nI 1)), (8, .int (nI 2)), (7, .int (nI 0)), (6, .int (nI 0)), (5, .int (nI 3)), (4, .int (nI 0)), (0, .ref (g.1 158)), (1, .int (nI 3)), (2, .int (nI 3)), (3, .int (nI 1))] dX6_ordered_40 (by decide) rfl ?_
  refine x_iload h 4 dX6_ordered_42 rfl ?_
  refine x_iload h 1 dX6_ordered_44 rfl ?_
  refine x_irem h dX6_ordered_46 (by decide) ?_
  refine x_top (nI 1) (by decide) ?_
  refine x_istore h [(5, .int (nI 1)), (9, .int (nI 1)), (8, .int (nI 2)), (7, .int (nI 0)), (6, .int (nI 0)), (4, .int (nI 0)), (0, .ref (g.1 158)), (1, .int (nI 3)), (2, .int (nI 3)), (3, .int (nI 1))] dX6_ordered_47 (by decide) rfl ?_
  refine x_iconst h (nI 0) dX6_ordered_49 (by decide) ?_
  refine x_istore h [(6, .int (nI 0)), (5, .int (nI 1)), (9, .int (nI 1)), (8, .int (nI 2)), (7, .int (nI 0)), (4, .int (nI 0)), (0, .ref (g.1 158)), (1, .int (nI 3)), (2, .int (nI 3)), (3, .int (nI 1))] dX6_ordered_50 (by decide) rfl ?_
  refine x_iload h 5 dX6_ordered_52 rfl ?_
  refine x_iload h 0 dX6_ordered_54 rfl ?_
  refine x_ishr h dX6_ordered_56 ?_
  refine x_top (nI 0) (by decide) ?_
  refine x_iconst h (nI 1) dX6_ordered_57 (by decide) ?_
  refine x_iand h dX6_ordered_58 ?_
  refine x_top (nI 0) (by decide) ?_
  refine x_iconst h (nI 1) dX6_ordered_59 (by decide) ?_
  refine x_icmp_eq h 68 dX6_ordered_60 (by decide) (fun c => absurd c (by decide)) (fun _ => ?_)
  refine x_iload h 2 dX6_ordered_63 rfl ?_
  refine x_if_le h 95 dX6_ordered_65 (by decide) (fun c => absurd c (by decide)) (fun _ => ?_)
  refine x_iload h 2 dX6_ordered_68 rfl ?_
  refine x_iload h 5 dX6_ordered_70 rfl ?_
  refine x_iload h 0 dX6_ordered_72 rfl ?_
  refine x_ishr h dX6_ordered_74 ?_
  refine x_top (nI 0) (by decide) ?_
  refine x_iconst h (nI 1) dX6_ordered_75 (by decide) ?_
  refine x_iand h dX6_ordered_76 ?_
  refine x_top (nI 0) (by decide) ?_
  refine x_iconst h (nI 1) dX6_ordered_77 (by decide) ?_
  refine x_icmp_ne h 85 dX6_ordered_78 (by decide) (fun _ => ?_) (fun c => absurd c (by decide))
  refine x_iconst h (nI 1) dX6_ordered_85 (by decide) ?_
  refine x_isub h dX6_ordered_86 ?_
  refine x_top (nI 0) (by decide) ?_
  refine x_istore h [(9, .int (nI 0)), (6, .int (nI 0)), (5, .int (nI 1)), (8, .int (nI 2)), (7, .int (nI 0)), (4, .int (nI 0)), (0, .ref (g.1 158)), (1, .int (nI 3)), (2, .int (nI 3)), (3, .int (nI 1))] dX6_ordered_87 (by decide) rfl ?_
  refine x_iinc_n h 1 (n := 1) [(6, .int (nI 1)), (9, .int (nI 0)), (5, .int (nI 1)), (8, .int (nI 2)), (7, .int (nI 0)), (4, .int (nI 0)), (0, .ref (g.1 158)), (1, .int (nI 3)), (2, .int (nI 3)), (3, .int (nI 1))] dX6_ordered_89 rfl (by decide) rfl ?_
  refine x_goto h 52 dX6_ordered_92 (by decide) ?_
  refine x_iload h 5 dX6_ordered_52 rfl ?_
  refine x_iload h 0 dX6_ordered_54 rfl ?_
  refine x_ishr h dX6_ordered_56 ?_
  refine x_top (nI 0) (by decide) ?_
  refine x_iconst h (nI 1) dX6_ordered_57 (by decide) ?_
  refine x_iand h dX6_ordered_58 ?_
  refine x_top (nI 0) (by decide) ?_
  refine x_iconst h (nI 1) dX6_ordered_59 (by decide) ?_
  refine x_icmp_eq h 68 dX6_ordered_60 (by decide) (fun c => absurd c (by decide)) (fun _ => ?_)
  refine x_iload h 1 dX6_ordered_63 rfl ?_
  refine x_if_le h 95 dX6_ordered_65 (by decide) (fun _ => ?_) (fun c => absurd (by decide) c)
  refine x_iload h 5 dX6_ordered_95 rfl ?_
  refine x_iconst h (nI 1) dX6_ordered_97 (by decide) ?_
  refine x_iload h 0 dX6_ordered_98 rfl ?_
  refine x_ishl h dX6_ordered_100 ?_
  refine x_top (nI 2) (by decide) ?_
  refine x_ior h dX6_ordered_101 ?_
  refine x_top (nI 2) (by decide) ?_
  refine x_istore h [(4, .int (nI 2)), (6, .int (nI 1)), (9, .int (nI 0)), (5, .int (nI 1)), (8, .int (nI 2)), (7, .int (nI 0)), (0, .ref (g.1 158)), (1, .int (nI 3)), (2, .int (nI 3)), (3, .int (nI 1))] dX6_ordered_102 (by decide) rfl ?_
  refine x_iinc_n h 5 (n := 1) [(7, .int (nI 1)), (4, .int (nI 2)), (6, .int (nI 1)), (9, .int (nI 0)), (5, .int (nI 1)), (8, .int (nI 2)), (0, .ref (g.1 158)), (1, .int (nI 3)), (2, .int (nI 3)), (3, .int (nI 1))] dX6_ordered_104 rfl (by decide) rfl ?_
  refine x_goto h 12 dX6_ordered_107 (by decide) ?_
  refine x_iload h 0 dX6_ordered_12 rfl ?_
  refine x_iload_n h 9 dX6_ordered_14 rfl rfl ?_
  refine x_icmp_gt h 110 dX6_ordered_15 (by decide) (fun c => absurd c (by decide)) (fun _ => ?_)
  refine x_iload_n h 8 dX6_ordered_18 rfl rfl ?_
  refine x_iconst h (nI 1) dX6_ordered_19 (by decide) ?_
  refine x_isub h dX6_ordered_20 ?_
  refine x_top (nI 2) (by decide) ?_
  refine x_iload h 0 dX6_ordered_21 rfl ?_
  refine x_isub h dX6_ordered_23 ?_
  refine x_top (nI 1) (by decide) ?_
  refine x_iconst h (nI 2) dX6_ordered_24 (by decide) ?_
  refine x_icmp_ne h 32 dX6_ordered_25 (by decide) (fun _ => ?_) (fun c => absurd c (by decide))
  refine x_iconst h (nI 1) dX6_ordered_32 (by decide) ?_
  refine x_istore h [(8, .int (nI 1)), (7, .int (nI 1)), (4, .int (nI 2)), (6, .int (nI 1)), (9, .int (nI 0)), (5, .int (nI 1)), (0, .ref (g.1 158)), (1, .int (nI 3)), (2, .int (nI 3)), (3, .int (nI 1))] dX6_ordered_33 (by decide) rfl ?_
  refine x_iload h 5 dX6_ordered_35 rfl ?_
  refine x_iload h 0 dX6_ordered_37 rfl ?_
  refine x_idiv h dX6_ordered_39 (by decide) ?_
  refine x_top (nI 1) (by decide) ?_
  refine x_istore h [(9, .int (nI 1)), (8, .int (nI 1)), (7, .int (nI 1)), (4, .int (nI 2)), (6, .int (nI 1)), (5, .int (nI 1)), (0, .ref (g.1 158)), (1, .int (nI 3)), (2, .int (nI 3)), (3, .int (nI 1))] dX6_ordered_40 (by decide) rfl ?_
  refine x_iload h 5 dX6_ordered_42 rfl ?_
  refine x_iload h 1 dX6_ordered_44 rfl ?_
  refine x_irem h dX6_ordered_46 (by decide) ?_
  refine x_top (nI 0) (by decide) ?_
  refine x_istore h [(5, .int (nI 0)), (9, .int (nI 1)), (8, .int (nI 1)), (7, .int (nI 1)), (4, .int (nI 2)), (6, .int (nI 1)), (0, .ref (g.1 158)), (1, .int (nI 3)), (2, .int (nI 3)), (3, .int (nI 1))] dX6_ordered_47 (by decide) rfl ?_
  refine x_iconst h (nI 0) dX6_ordered_49 (by decide) ?_
  refine x_istore h [(6, .int (nI 0)), (5, .int (nI 0)), (9, .int (nI 1)), (8, .int (nI 1)), (7, .int (nI 1)), (4, .int (nI 2)), (0, .ref (g.1 158)), (1, .int (nI 3)), (2, .int (nI 3)), (3, .int (nI 1))] dX6_ordered_50 (by decide) rfl ?_
  refine x_iload h 5 dX6_ordered_52 rfl ?_
  refine x_iload h 0 dX6_ordered_54 rfl ?_
  refine x_ishr h dX6_ordered_56 ?_
  refine x_top (nI 2) (by decide) ?_
  refine x_iconst h (nI 1) dX6_ordered_57 (by decide) ?_
  refine x_iand h dX6_ordered_58 ?_
  refine x_top (nI 0) (by decide) ?_
  refine x_iconst h (nI 1) dX6_ordered_59 (by decide) ?_
  refine x_icmp_eq h 68 dX6_ordered_60 (by decide) (fun c => absurd c (by decide)) (fun _ => ?_)
  refine x_iload h 2 dX6_ordered_63 rfl ?_
  refine x_if_le h 95 dX6_ordered_65 (by decide) (fun c => absurd c (by decide)) (fun _ => ?_)
  refine x_iload h 2 dX6_ordered_68 rfl ?_
  refine x_iload h 5 dX6_ordered_70 rfl ?_
  refine x_iload h 0 dX6_ordered_72 rfl ?_
  refine x_ishr h dX6_ordered_74 ?_
  refine x_top (nI 2) (by decide) ?_
  refine x_iconst h (nI 1) dX6_ordered_75 (by decide) ?_
  refine x_iand h dX6_ordered_76 ?_
  refine x_top (nI 0) (by decide) ?_
  refine x_iconst h (nI 1) dX6_ordered_77 (by decide) ?_
  refine x_icmp_ne h 85 dX6_ordered_78 (by decide) (fun _ => ?_) (fun c => absurd c (by decide))
  refine x_iconst h (nI 1) dX6_ordered_85 (by decide) ?_
  refine x_isub h dX6_ordered_86 ?_
  refine x_top (nI 0) (by decide) ?_
  refine x_istore h [(9, .int (nI 0)), (6, .int (nI 0)), (5, .int (nI 0)), (8, .int (nI 1)), (7, .int (nI 1)), (4, .int (nI 2)), (0, .ref (g.1 158)), (1, .int (nI 3)), (2, .int (nI 3)), (3, .int (nI 1))] dX6_ordered_87 (by decide) rfl ?_
  refine x_iinc_n h 1 (n := 1) [(6, .int (nI 1)), (9, .int (nI 0)), (5, .int (nI 0)), (8, .int (nI 1)), (7, .int (nI 1)), (4, .int (nI 2)), (0, .ref (g.1 158)), (1, .int (nI 3)), (2, .int (nI 3)), (3, .int (nI 1))] dX6_ordered_89 rfl (by decide) rfl ?_
  refine x_goto h 52 dX6_ordered_92 (by decide) ?_
  refine x_iload h 5 dX6_ordered_52 rfl ?_
  refine x_iload h 0 dX6_ordered_54 rfl ?_
  refine x_ishr h dX6_ordered_56 ?_
  refine x_top (nI 1) (by decide) ?_
  refine x_iconst h (nI 1) dX6_ordered_57 (by decide) ?_
  refine x_iand h dX6_ordered_58 ?_
  refine x_top (nI 1) (by decide) ?_
  refine x_iconst h (nI 1) dX6_ordered_59 (by decide) ?_
  refine x_icmp_eq h 68 dX6_ordered_60 (by decide) (fun _ => ?_) (fun c => absurd (by decide) c)
  refine x_iload h 1 dX6_ordered_68 rfl ?_
  refine x_iload h 5 dX6_ordered_70 rfl ?_
  refine x_iload h 0 dX6_ordered_72 rfl ?_
  refine x_ishr h dX6_ordered_74 ?_
  refine x_top (nI 1) (by decide) ?_
  refine x_iconst h (nI 1) dX6_ordered_75 (by decide) ?_
  refine x_iand h dX6_ordered_76 ?_
  refine x_top (nI 1) (by decide) ?_
  refine x_iconst h (nI 1) dX6_ordered_77 (by decide) ?_
  refine x_icmp_ne h 85 dX6_ordered_78 (by decide) (fun c => absurd c (by decide)) (fun _ => ?_)
  refine x_iconst h (nI 0) dX6_ordered_81 (by decide) ?_
  refine x_goto h 86 dX6_ordered_82 (by decide) ?_
  refine x_isub h dX6_ordered_86 ?_
  refine x_top (nI 0) (by decide) ?_
  refine x_istore h [(9, .int (nI 0)), (6, .int (nI 1)), (5, .int (nI 0)), (8, .int (nI 1)), (7, .int (nI 1)), (4, .int (nI 2)), (0, .ref (g.1 158)), (1, .int (nI 3)), (2, .int (nI 3)), (3, .int (nI 1))] dX6_ordered_87 (by decide) rfl ?_
  refine x_iinc_n h 1 (n := 1) [(6, .int (nI 2)), (9, .int (nI 0)), (5, .int (nI 0)), (8, .int (nI 1)), (7, .int (nI 1)), (4, .int (nI 2)), (0, .ref (g.1 158)), (1, .int (nI 3)), (2, .int (nI 3)), (3, .int (nI 1))] dX6_ordered_89 rfl (by decide) rfl ?_
  refine x_goto h 52 dX6_ordered_92 (by decide) ?_
  refine x_iload h 5 dX6_ordered_52 rfl ?_
  refine x_iload h 0 dX6_ordered_54 rfl ?_
  refine x_ishr h dX6_ordered_56 ?_
  refine x_top (nI 0) (by decide) ?_
  refine x_iconst h (nI 1) dX6_ordered_57 (by decide) ?_
  refine x_iand h dX6_ordered_58 ?_
  refine x_top (nI 0) (by decide) ?_
  refine x_iconst h (nI 1) dX6_ordered_59 (by decide) ?_
  refine x_icmp_eq h 68 dX6_ordered_60 (by decide) (fun c => absurd c (by decide)) (fun _ => ?_)
  refine x_iload h 1 dX6_ordered_63 rfl ?_
  refine x_if_le h 95 dX6_ordered_65 (by decide) (fun _ => ?_) (fun c => absurd (by decide) c)
  refine x_iload h 5 dX6_ordered_95 rfl ?_
  refine x_iconst h (nI 1) dX6_ordered_97 (by decide) ?_
  refine x_iload h 0 dX6_ordered_98 rfl ?_
  refine x_ishl h dX6_ordered_100 ?_
  refine x_top (nI 4) (by decide) ?_
  refine x_ior h dX6_ordered_101 ?_
  refine x_top (nI 6) (by decide) ?_
  refine x_istore h [(4, .int (nI 6)), (6, .int (nI 2)), (9, .int (nI 0)), (5, .int (nI 0)), (8, .int (nI 1)), (7, .int (nI 1)), (0, .ref (g.1 158)), (1, .int (nI 3)), (2, .int (nI 3)), (3, .int (nI 1))] dX6_ordered_102 (by decide) rfl ?_
  refine x_iinc_n h 5 (n := 1) [(7, .int (nI 2)), (4, .int (nI 6)), (6, .int (nI 2)), (9, .int (nI 0)), (5, .int (nI 0)), (8, .int (nI 1)), (0, .ref (g.1 158)), (1, .int (nI 3)), (2, .int (nI 3)), (3, .int (nI 1))] dX6_ordered_104 rfl (by decide) rfl ?_
  refine x_goto h 12 dX6_ordered_107 (by decide) ?_
  refine x_iload h 0 dX6_ordered_12 rfl ?_
  refine x_iload_n h 9 dX6_ordered_14 rfl rfl ?_
  refine x_icmp_gt h 110 dX6_ordered_15 (by decide) (fun _ => ?_) (fun c => absurd (by decide) c)
  refine x_aload_n h 6 dX6_ordered_110 rfl rfl ?_
  refine xg_X6_14 h in_X6_ordered_X6 (by decide +kernel) dX6_ordered_111 ?_
  refine x_iload h 2 dX6_ordered_114 rfl ?_
  refine xl_167 h dX6_ordered_116 (by decide) ?_
  exact hret _ _ _ _ _ dX6_ordered_117 (by exact ⟨⟨rfl, rfl⟩, congrArg (M 167) (by decide)⟩)

set_option maxRecDepth 100000 in
set_option maxHeartbeats 4000000 in
theorem c_X6_ordered_332 {l : Launch} {g : Geo} {M : Nat → Nat → Int32} {P : Nat → Nat}  : Met l yX6_ordered wsX6_ordered rmX6_ordered (cPre g [.ref (g.1 158), .int (nI 3), .int (nI 3), .int (nI 2)] M P) (cQi g (fun r M' P' => (P = P' ∧ M = M') ∧ r = M 167 (pmM 3 3 2))) 0 0 (gA g) := by
  refine met_i (cc := cX6_ordered) (maxL := 10) (by decide) rfl ⟨rfl, rfl⟩ (Nat.le_of_ble_eq_true rfl) (fun x hx h hret => ?_)
  replace h : Cxk x g cX6_ordered 10 wsX6_ordered RX6 rmX6_ordered := h
  show X x 0 [(0, .ref (g.1 158)), (1, .int (nI 3)), (2, .int (nI 3)), (3, .int (nI 2))] [] M P
  refine x_iconst h (nI 0) dX6_ordered_0 (by decide) ?_
  refine x_istore h [(4, .int (nI 0)), (0, .ref (g.1 158)), (1, .int (nI 3)), (2, .int (nI 3)), (3, .int (nI 2))] dX6_ordered_1 (by decide) rfl ?_
  refine x_iload_n h 2 dX6_ordered_3 rfl rfl ?_
  refine x_istore h [(5, .int (nI 3)), (4, .int (nI 0)), (0, .ref (g.1 158)), (1, .int (nI 3)), (2, .int (nI 3)), (3, .int (nI 2))] dX6_ordered_4 (by decide) rfl ?_
  refine x_iconst h (nI 0) dX6_ordered_6 (by decide) ?_
  refine x_istore h [(6, .int (nI 0)), (5, .int (nI 3)), (4, .int (nI 0)), (0, .ref (g.1 158)), (1, .int (nI 3)), (2, .int (nI 3)), (3, .int (nI 2))] dX6_ordered_7 (by decide) rfl ?_
  refine x_iconst h (nI 0) dX6_ordered_9 (by decide) ?_
  refine x_istore h [(7, .int (nI 0)), (6, .int (nI 0)), (5, .int (nI 3)), (4, .int (nI 0)), (0, .ref (g.1 158)), (1, .int (nI 3)), (2, .int (nI 3)), (3, .int (nI 2))] dX6_ordered_10 (by decide) rfl ?_
  refine x_iload h 0 dX6_ordered_12 rfl ?_
  refine x_iload_n h 7 dX6_ordered_14 rfl rfl ?_
  refine x_icmp_gt h 110 dX6_ordered_15 (by decide) (fun c => absurd c (by decide)) (fun _ => ?_)
  refine x_iload_n h 6 dX6_ordered_18 rfl rfl ?_
  refine x_iconst h (nI 1) dX6_ordered_19 (by decide) ?_
  refine x_isub h dX6_ordered_20 ?_
  refine x_top (nI 2) (by decide) ?_
  refine x_iload h 0 dX6_ordered_21 rfl ?_
  refine x_isub h dX6_ordered_23 ?_
  refine x_top (nI 2) (by decide) ?_
  refine x_iconst h (nI 2) dX6_ordered_24 (by decide) ?_
  refine x_icmp_ne h 32 dX6_ordered_25 (by decide) (fun c => absurd c (by decide)) (fun _ => ?_)
  refine x_iconst h (nI 2) dX6_ordered_28 (by decide) ?_
  refine x_goto h 33 dX6_ordered_29 (by decide) ?_
  refine x_istore h [(8, .int (nI 2)), (7, .int (nI 0)), (6, .int (nI 0)), (5, .int (nI 3)), (4, .int (nI 0)), (0, .ref (g.1 158)), (1, .int (nI 3)), (2, .int (nI 3)), (3, .int (nI 2))] dX6_ordered_33 (by decide) rfl ?_
  refine x_iload h 3 dX6_ordered_35 rfl ?_
  refine x_iload h 0 dX6_ordered_37 rfl ?_
  refine x_idiv h dX6_ordered_39 (by decide) ?_
  refine x_top (nI 1) (by decide) ?_
  refine x_istore h [(9, .int (nI 1)), (8, .int (nI 2)), (7, .int (nI 0)), (6, .int (nI 0)), (5, .int (nI 3)), (4, .int (nI 0)), (0, .ref (g.1 158)), (1, .int (nI 3)), (2, .int (nI 3)), (3, .int (nI 2))] dX6_ordered_40 (by decide) rfl ?_
  refine x_iload h 4 dX6_ordered_42 rfl ?_
  refine x_iload h 1 dX6_ordered_44 rfl ?_
  refine x_irem h dX6_ordered_46 (by decide) ?_
  refine x_top (nI 1) (by decide) ?_
  refine x_istore h [(5, .int (nI 1)), (9, .int (nI 1)), (8, .int (nI 2)), (7, .int (nI 0)), (6, .int (nI 0)), (4, .int (nI 0)), (0, .ref (g.1 158)), (1, .int (nI 3)), (2, .int (nI 3)), (3, .int (nI 2))] dX6_ordered_47 (by decide) rfl ?_
  refine x_iconst h (nI 0) dX6_ordered_49 (by decide) ?_
  refine x_istore h [(6, .int (nI 0)), (5, .int (nI 1)), (9, .int (nI 1)), (8, .int (nI 2)), (7, .int (nI 0)), (4, .int (nI 0)), (0, .ref (g.1 158)), (1, .int (nI 3)), (2, .int (nI 3)), (3, .int (nI 2))] dX6_ordered_50 (by decide) rfl ?_
  refine x_iload h 5 dX6_ordered_52 rfl ?_
  refine x_iload h 0 dX6_ordered_54 rfl ?_
  refine x_ishr h dX6_ordered_56 ?_
  refine x_top (nI 0) (by decide) ?_
  refine x_iconst h (nI 1) dX6_ordered_57 (by decide) ?_
  refine x_iand h dX6_ordered_58 ?_
  refine x_top (nI 0) (by decide) ?_
  refine x_iconst h (nI 1) dX6_ordered_59 (by decide) ?_
  refine x_icmp_eq h 68 dX6_ordered_60 (by decide) (fun c => absurd c (by decide)) (fun _ => ?_)
  refine x_iload h 2 dX6_ordered_63 rfl ?_
  refine x_if_le h 95 dX6_ordered_65 (by decide) (fun c => absurd c (by decide)) (fun _ => ?_)
  refine x_iload h 2 dX6_ordered_68 rfl ?_
  refine x_iload h 5 dX6_ordered_70 rfl ?_
  refine x_iload h 0 dX6_ordered_72 rfl ?_
  refine x_ishr h dX6_ordered_74 ?_
  refine x_top (nI 0) (by decide) ?_
  refine x_iconst h (nI 1) dX6_ordered_75 (by decide) ?_
  refine x_iand h dX6_ordered_76 ?_
  refine x_top (nI 0) (by decide) ?_
  refine x_iconst h (nI 1) dX6_ordered_77 (by decide) ?_
  refine x_icmp_ne h 85 dX6_ordered_78 (by decide) (fun _ => ?_) (fun c => absurd c (by decide))
  refine x_iconst h (nI 1) dX6_ordered_85 (by decide) ?_
  refine x_isub h dX6_ordered_86 ?_
  refine x_top (nI 0) (by decide) ?_
  refine x_istore h [(9, .int (nI 0)), (6, .int (nI 0)), (5, .int (nI 1)), (8, .int (nI 2)), (7, .int (nI 0)), (4, .int (nI 0)), (0, .ref (g.1 158)), (1, .int (nI 3)), (2, .int (nI 3)), (3, .int (nI 2))] dX6_ordered_87 (by decide) rfl ?_
  refine x_iinc_n h 1 (n := 1) [(6, .int (nI 1)), (9, .int (nI 0)), (5, .int (nI 1)), (8, .int (nI 2)), (7, .int (nI 0)), (4, .int (nI 0)), (0, .ref (g.1 158)), (1, .int (nI 3)), (2, .int (nI 3)), (3, .int (nI 2))] dX6_ordered_89 rfl (by decide) rfl ?_
  refine x_goto h 52 dX6_ordered_92 (by decide) ?_
  refine x_iload h 5 dX6_ordered_52 rfl ?_
  refine x_iload h 0 dX6_ordered_54 rfl ?_
  refine x_ishr h dX6_ordered_56 ?_
  refine x_top (nI 0) (by decide) ?_
  refine x_iconst h (nI 1) dX6_ordered_57 (by decide) ?_
  refine x_iand h dX6_ordered_58 ?_
  refine x_top (nI 0) (by decide) ?_
  refine x_iconst h (nI 1) dX6_ordered_59 (by decide) ?_
  refine x_icmp_eq h 68 dX6_ordered_60 (by decide) (fun c => absurd c (by decide)) (fun _ => ?_)
  refine x_iload h 1 dX6_ordered_63 rfl ?_
  refine x_if_le h 95 dX6_ordered_65 (by decide) (fun _ => ?_) (fun c => absurd (by decide) c)
  refine x_iload h 5 dX6_ordered_95 rfl ?_
  refine x_iconst h (nI 1) dX6_ordered_97 (by decide) ?_
  refine x_iload h 0 dX6_ordered_98 rfl ?_
  refine x_ishl h dX6_ordered_100 ?_
  refine x_top (nI 2) (by decide) ?_
  refine x_ior h dX6_ordered_101 ?_
  refine x_top (nI 2) (by decide) ?_
  refine x_istore h [(4, .int (nI 2)), (6, .int (nI 1)), (9, .int (nI 0)), (5, .int (nI 1)), (8, .int (nI 2)), (7, .int (nI 0)), (0, .ref (g.1 158)), (1, .int (nI 3)), (2, .int (nI 3)), (3, .int (nI 2))] dX6_ordered_102 (by decide) rfl ?_
  refine x_iinc_n h 5 (n := 1) [(7, .int (nI 1)), (4, .int (nI 2)), (6, .int (nI 1)), (9, .int (nI 0)), (5, .int (nI 1)), (8, .int (nI 2)), (0, .ref (g.1 158)), (1, .int (nI 3)), (2, .int (nI 3)), (3, .int (nI 2))] dX6_ordered_104 rfl (by decide) rfl ?_
  refine x_goto h 12 dX6_ordered_107 (by decide) ?_
  refine x_iload h 0 dX6_ordered_12 rfl ?_
  refine x_iload_n h 9 dX6_ordered_14 rfl rfl ?_
  refine x_icmp_gt h 110 dX6_ordered_15 (by decide) (fun c => absurd c (by decide)) (fun _ => ?_)
  refine x_iload_n h 8 dX6_ordered_18 rfl rfl ?_
  refine x_iconst h (nI 1) dX6_ordered_19 (by decide) ?_
  refine x_isub h dX6_ordered_20 ?_
  refine x_top (nI 2) (by decide) ?_
  refine x_iload h 0 dX6_ordered_21 rfl ?_
  refine x_isub h dX6_ordered_23 ?_
  refine x_top (nI 1) (by decide) ?_
  refine x_iconst h (nI 2) dX6_ordered_24 (by decide) ?_
  refine x_icmp_ne h 32 dX6_ordered_25 (by decide) (fun _ => ?_) (fun c => absurd c (by decide))
  refine x_iconst h (nI 1) dX6_ordered_32 (by decide) ?_
  refine x_istore h [(8, .int (nI 1)), (7, .int (nI 1)), (4, .int (nI 2)), (6, .int (nI 1)), (9, .int (nI 0)), (5, .int (nI 1)), (0, .ref (g.1 158)), (1, .int (nI 3)), (2, .int (nI 3)), (3, .int (nI 2))] dX6_ordered_33 (by decide) rfl ?_
  refine x_iload h 5 dX6_ordered_35 rfl ?_
  refine x_iload h 0 dX6_ordered_37 rfl ?_
  refine x_idiv h dX6_ordered_39 (by decide) ?_
  refine x_top (nI 1) (by decide) ?_
  refine x_istore h [(9, .int (nI 1)), (8, .int (nI 1)), (7, .int (nI 1)), (4, .int (nI 2)), (6, .int (nI 1)), (5, .int (nI 1)), (0, .ref (g.1 158)), (1, .int (nI 3)), (2, .int (nI 3)), (3, .int (nI 2))] dX6_ordered_40 (by decide) rfl ?_
  refine x_iload h 5 dX6_ordered_42 rfl ?_
  refine x_iload h 1 dX6_ordered_44 rfl ?_
  refine x_irem h dX6_ordered_46 (by decide) ?_
  refine x_top (nI 0) (by decide) ?_
  refine x_istore h [(5, .int (nI 0)), (9, .int (nI 1)), (8, .int (nI 1)), (7, .int (nI 1)), (4, .int (nI 2)), (6, .int (nI 1)), (0, .ref (g.1 158)), (1, .int (nI 3)), (2, .int (nI 3)), (3, .int (nI 2))] dX6_ordered_47 (by decide) rfl ?_
  refine x_iconst h (nI 0) dX6_ordered_49 (by decide) ?_
  refine x_istore h [(6, .int (nI 0)), (5, .int (nI 0)), (9, .int (nI 1)), (8, .int (nI 1)), (7, .int (nI 1)), (4, .int (nI 2)), (0, .ref (g.1 158)), (1, .int (nI 3)), (2, .int (nI 3)), (3, .int (nI 2))] dX6_ordered_50 (by decide) rfl ?_
  refine x_iload h 5 dX6_ordered_52 rfl ?_
  refine x_iload h 0 dX6_ordered_54 rfl ?_
  refine x_ishr h dX6_ordered_56 ?_
  refine x_top (nI 2) (by decide) ?_
  refine x_iconst h (nI 1) dX6_ordered_57 (by decide) ?_
  refine x_iand h dX6_ordered_58 ?_
  refine x_top (nI 0) (by decide) ?_
  refine x_iconst h (nI 1) dX6_ordered_59 (by decide) ?_
  refine x_icmp_eq h 68 dX6_ordered_60 (by decide) (fun c => absurd c (by decide)) (fun _ => ?_)
  refine x_iload h 2 dX6_ordered_63 rfl ?_
  refine x_if_le h 95 dX6_ordered_65 (by decide) (fun c => absurd c (by decide)) (fun _ => ?_)
  refine x_iload h 2 dX6_ordered_68 rfl ?_
  refine x_iload h 5 dX6_ordered_70 rfl ?_
  refine x_iload h 0 dX6_ordered_72 rfl ?_
  refine x_ishr h dX6_ordered_74 ?_
  refine x_top (nI 2) (by decide) ?_
  refine x_iconst h (nI 1) dX6_ordered_75 (by decide) ?_
  refine x_iand h dX6_ordered_76 ?_
  refine x_top (nI 0) (by decide) ?_
  refine x_iconst h (nI 1) dX6_ordered_77 (by decide) ?_
  refine x_icmp_ne h 85 dX6_ordered_78 (by decide) (fun _ => ?_) (fun c => absurd c (by decide))
  refine x_iconst h (nI 1) dX6_ordered_85 (by decide) ?_
  refine x_isub h dX6_ordered_86 ?_
  refine x_top (nI 0) (by decide) ?_
  refine x_istore h [(9, .int (nI 0)), (6, .int (nI 0)), (5, .int (nI 0)), (8, .int (nI 1)), (7, .int (nI 1)), (4, .int (nI 2)), (0, .ref (g.1 158)), (1, .int (nI 3)), (2, .int (nI 3)), (3, .int (nI 2))] dX6_ordered_87 (by decide) rfl ?_
  refine x_iinc_n h 1 (n := 1) [(6, .int (nI 1)), (9, .int (nI 0)), (5, .int (nI 0)), (8, .int (nI 1)), (7, .int (nI 1)), (4, .int (nI 2)), (0, .ref (g.1 158)), (1, .int (nI 3)), (2, .int (nI 3)), (3, .int (nI 2))] dX6_ordered_89 rfl (by decide) rfl ?_
  refine x_goto h 52 dX6_ordered_92 (by decide) ?_
  refine x_iload h 5 dX6_ordered_52 rfl ?_
  refine x_iload h 0 dX6_ordered_54 rfl ?_
  refine x_ishr h dX6_ordered_56 ?_
  refine x_top (nI 1) (by decide) ?_
  refine x_iconst h (nI 1) dX6_ordered_57 (by decide) ?_
  refine x_iand h dX6_ordered_58 ?_
  refine x_top (nI 1) (by decide) ?_
  refine x_iconst h (nI 1) dX6_ordered_59 (by decide) ?_
  refine x_icmp_eq h 68 dX6_ordered_60 (by decide) (fun _ => ?_) (fun c => absurd (by decide) c)
  refine x_iload h 1 dX6_ordered_68 rfl ?_
  refine x_iload h 5 dX6_ordered_70 rfl ?_
  refine x_iload h 0 dX6_ordered_72 rfl ?_
  refine x_ishr h dX6_ordered_74 ?_
  refine x_top (nI 1) (by decide) ?_
  refine x_iconst h (nI 1) dX6_ordered_75 (by decide) ?_
  refine x_iand h dX6_ordered_76 ?_
  refine x_top (nI 1) (by decide) ?_
  refine x_iconst h (nI 1) dX6_ordered_77 (by decide) ?_
  refine x_icmp_ne h 85 dX6_ordered_78 (by decide) (fun c => absurd c (by decide)) (fun _ => ?_)
  refine x_iconst h (nI 0) dX6_ordered_81 (by decide) ?_
  refine x_goto h 86 dX6_ordered_82 (by decide) ?_
  refine x_isub h dX6_ordered_86 ?_
  refine x_top (nI 0) (by decide) ?_
  refine x_istore h [(9, .int (nI 0)), (6, .int (nI 1)), (5, .int (nI 0)), (8, .int (nI 1)), (7, .int (nI 1)), (4, .int (nI 2)), (0, .ref (g.1 158)), (1, .int (nI 3)), (2, .int (nI 3)), (3, .int (nI 2))] dX6_ordered_87 (by decide) rfl ?_
  refine x_iinc_n h 1 (n := 1) [(6, .int (nI 2)), (9, .int (nI 0)), (5, .int (nI 0)), (8, .int (nI 1)), (7, .int (nI 1)), (4, .int (nI 2)), (0, .ref (g.1 158)), (1, .int (nI 3)), (2, .int (nI 3)), (3, .int (nI 2))] dX6_ordered_89 rfl (by decide) rfl ?_
  refine x_goto h 52 dX6_ordered_92 (by decide) ?_
  refine x_iload h 5 dX6_ordered_52 rfl ?_
  refine x_iload h 0 dX6_ordered_54 rfl ?_
  refine x_ishr h dX6_ordered_56 ?_
  refine x_top (nI 0) (by decide) ?_
  refine x_iconst h (nI 1) dX6_ordered_57 (by decide) ?_
  refine x_iand h dX6_ordered_58 ?_
  refine x_top (nI 0) (by decide) ?_
  refine x_iconst h (nI 1) dX6_ordered_59 (by decide) ?_
  refine x_icmp_eq h 68 dX6_ordered_60 (by decide) (fun c => absurd c (by decide)) (fun _ => ?_)
  refine x_iload h 1 dX6_ordered_63 rfl ?_
  refine x_if_le h 95 dX6_ordered_65 (by decide) (fun _ => ?_) (fun c => absurd (by decide) c)
  refine x_iload h 5 dX6_ordered_95 rfl ?_
  refine x_iconst h (nI 1) dX6_ordered_97 (by decide) ?_
  refine x_iload h 0 dX6_ordered_98 rfl ?_
  refine x_ishl h dX6_ordered_100 ?_
  refine x_top (nI 4) (by decide) ?_
  refine x_ior h dX6_ordered_101 ?_
  refine x_top (nI 6) (by decide) ?_
  refine x_istore h [(4, .int (nI 6)), (6, .int (nI 2)), (9, .int (nI 0)), (5, .int (nI 0)), (8, .int (nI 1)), (7, .int (nI 1)), (0, .ref (g.1 158)), (1, .int (nI 3)), (2, .int (nI 3)), (3, .int (nI 2))] dX6_ordered_102 (by decide) rfl ?_
  refine x_iinc_n h 5 (n := 1) [(7, .int (nI 2)), (4, .int (nI 6)), (6, .int (nI 2)), (9, .int (nI 0)), (5, .int (nI 0)), (8, .int (nI 1)), (0, .ref (g.1 158)), (1, .int (nI 3)), (2, .int (nI 3)), (3, .int (nI 2))] dX6_ordered_104 rfl (by decide) rfl ?_
  refine x_goto h 12 dX6_ordered_107 (by decide) ?_
  refine x_iload h 0 dX6_ordered_12 rfl ?_
  refine x_iload_n h 9 dX6_ordered_14 rfl rfl ?_
  refine x_icmp_gt h 110 dX6_ordered_15 (by decide) (fun c => absurd c (by decide)) (fun _ => ?_)
  refine x_iload_n h 8 dX6_ordered_18 rfl rfl ?_
  refine x_iconst h (nI 1) dX6_ordered_19 (by decide) ?_
  refine x_isub h dX6_ordered_20 ?_
  refine x_top (nI 2) (by decide) ?_
  refine x_iload h 0 dX6_ordered_21 rfl ?_
  refine x_isub h dX6_ordered_23 ?_
  refine x_top (nI 0) (by decide) ?_
  refine x_iconst h (nI 2) dX6_ordered_24 (by decide) ?_
  refine x_icmp_ne h 32 dX6_ordered_25 (by decide) (fun _ => ?_) (fun c => absurd c (by decide))
  refine x_iconst h (nI 1) dX6_ordered_32 (by decide) ?_
  refine x_istore h [(8, .int (nI 1)), (7, .int (nI 2)), (4, .int (nI 6)), (6, .int (nI 2)), (9, .int (nI 0)), (5, .int (nI 0)), (0, .ref (g.1 158)), (1, .int (nI 3)), (2, .int (nI 3)), (3, .int (nI 2))] dX6_ordered_33 (by decide) rfl ?_
  refine x_iload h 5 dX6_ordered_35 rfl ?_
  refine x_iload h 0 dX6_ordered_37 rfl ?_
  refine x_idiv h dX6_ordered_39 (by decide) ?_
  refine x_top (nI 0) (by decide) ?_
  refine x_istore h [(9, .int (nI 0)), (8, .int (nI 1)), (7, .int (nI 2)), (4, .int (nI 6)), (6, .int (nI 2)), (5, .int (nI 0)), (0, .ref (g.1 158)), (1, .int (nI 3)), (2, .int (nI 3)), (3, .int (nI 2))] dX6_ordered_40 (by decide) rfl ?_
  refine x_iload h 5 dX6_ordered_42 rfl ?_
  refine x_iload h 1 dX6_ordered_44 rfl ?_
  refine x_irem h dX6_ordered_46 (by decide) ?_
  refine x_top (nI 0) (by decide) ?_
  refine x_istore h [(5, .int (nI 0)), (9, .int (nI 0)), (8, .int (nI 1)), (7, .int (nI 2)), (4, .int (nI 6)), (6, .int (nI 2)), (0, .ref (g.1 158)), (1, .int (nI 3)), (2, .int (nI 3)), (3, .int (nI 2))] dX6_ordered_47 (by decide) rfl ?_
  refine x_iconst h (nI 0) dX6_ordered_49 (by decide) ?_
  refine x_istore h [(6, .int (nI 0)), (5, .int (nI 0)), (9, .int (nI 0)), (8, .int (nI 1)), (7, .int (nI 2)), (4, .int (nI 6)), (0, .ref (g.1 158)), (1, .int (nI 3)), (2, .int (nI 3)), (3, .int (nI 2))] dX6_ordered_50 (by decide) rfl ?_
  refine x_iload h 5 dX6_ordered_52 rfl ?_
  refine x_iload h 0 dX6_ordered_54 rfl ?_
  refine x_ishr h dX6_ordered_56 ?_
  refine x_top (nI 6) (by decide) ?_
  refine x_iconst h (nI 1) dX6_ordered_57 (by decide) ?_
  refine x_iand h dX6_ordered_58 ?_
  refine x_top (nI 0) (by decide) ?_
  refine x_iconst h (nI 1) dX6_ordered_59 (by decide) ?_
  refine x_icmp_eq h 68 dX6_ordered_60 (by decide) (fun c => absurd c (by decide)) (fun _ => ?_)
  refine x_iload h 2 dX6_ordered_63 rfl ?_
  refine x_if_le h 95 dX6_ordered_65 (by decide) (fun _ => ?_) (fun c => absurd (by decide) c)
  refine x_iload h 5 dX6_ordered_95 rfl ?_
  refine x_iconst h (nI 1) dX6_ordered_97 (by decide) ?_
  refine x_iload h 0 dX6_ordered_98 rfl ?_
  refine x_ishl h dX6_ordered_100 ?_
  refine x_top (nI 1) (by decide) ?_
  refine x_ior h dX6_ordered_101 ?_
  refine x_top (nI 7) (by decide) ?_
  refine x_istore h [(4, .int (nI 7)), (6, .int (nI 0)), (5, .int (nI 0)), (9, .int (nI 0)), (8, .int (nI 1)), (7, .int (nI 2)), (0, .ref (g.1 158)), (1, .int (nI 3)), (2, .int (nI 3)), (3, .int (nI 2))] dX6_ordered_102 (by decide) rfl ?_
  refine x_iinc_n h 5 (n := 1) [(7, .int (nI 3)), (4, .int (nI 7)), (6, .int (nI 0)), (5, .int (nI 0)), (9, .int (nI 0)), (8, .int (nI 1)), (0, .ref (g.1 158)), (1, .int (nI 3)), (2, .int (nI 3)), (3, .int (nI 2))] dX6_ordered_104 rfl (by decide) rfl ?_
  refine x_goto h 12 dX6_ordered_107 (by decide) ?_
  refine x_iload h 0 dX6_ordered_12 rfl ?_
  refine x_iload_n h 9 dX6_ordered_14 rfl rfl ?_
  refine x_icmp_gt h 110 dX6_ordered_15 (by decide) (fun _ => ?_) (fun c => absurd (by decide) c)
  refine x_aload_n h 6 dX6_ordered_110 rfl rfl ?_
  refine xg_X6_14 h in_X6_ordered_X6 (by decide +kernel) dX6_ordered_111 ?_
  refine x_iload h 2 dX6_ordered_114 rfl ?_
  refine xl_167 h dX6_ordered_116 (by decide) ?_
  exact hret _ _ _ _ _ dX6_ordered_117 (by exact ⟨⟨rfl, rfl⟩, congrArg (M 167) (by decide)⟩)

set_option maxRecDepth 100000 in
set_option maxHeartbeats 4000000 in
theorem c_X6_ordered_340 {l : Launch} {g : Geo} {M : Nat → Nat → Int32} {P : Nat → Nat}  : Met l yX6_ordered wsX6_ordered rmX6_ordered (cPre g [.ref (g.1 158), .int (nI 4), .int (nI 3), .int (nI 0)] M P) (cQi g (fun r M' P' => (P = P' ∧ M = M') ∧ r = M 167 (pmM 3 4 0))) 0 0 (gA g) := by
  refine met_i (cc := cX6_ordered) (maxL := 10) (by decide) rfl ⟨rfl, rfl⟩ (Nat.le_of_ble_eq_true rfl) (fun x hx h hret => ?_)
  replace h : Cxk x g cX6_ordered 10 wsX6_ordered RX6 rmX6_ordered := h
  show X x 0 [(0, .ref (g.1 158)), (1, .int (nI 4)), (2, .int (nI 3)), (3, .int (nI 0))] [] M P
  refine x_iconst h (nI 0) dX6_ordered_0 (by decide) ?_
  refine x_istore h [(4, .int (nI 0)), (0, .ref (g.1 158)), (1, .int (nI 4)), (2, .int (nI 3)), (3, .int (nI 0))] dX6_ordered_1 (by decide) rfl ?_
  refine x_iload_n h 2 dX6_ordered_3 rfl rfl ?_
  refine x_istore h [(5, .int (nI 4)), (4, .int (nI 0)), (0, .ref (g.1 158)), (1, .int (nI 4)), (2, .int (nI 3)), (3, .int (nI 0))] dX6_ordered_4 (by decide) rfl ?_
  refine x_iconst h (nI 0) dX6_ordered_6 (by decide) ?_
  refine x_istore h [(6, .int (nI 0)), (5, .int (nI 4)), (4, .int (nI 0)), (0, .ref (g.1 158)), (1, .int (nI 4)), (2, .int (nI 3)), (3, .int (nI 0))] dX6_ordered_7 (by decide) rfl ?_
  refine x_iconst h (nI 0) dX6_ordered_9 (by decide) ?_
  refine x_istore h [(7, .int (nI 0)), (6, .int (nI 0)), (5, .int (nI 4)), (4, .int (nI 0)), (0, .ref (g.1 158)), (1, .int (nI 4)), (2, .int (nI 3)), (3, .int (nI 0))] dX6_ordered_10 (by decide) rfl ?_
  refine x_iload h 0 dX6_ordered_12 rfl ?_
  refine x_iload_n h 7 dX6_ordered_14 rfl rfl ?_
  refine x_icmp_gt h 110 dX6_ordered_15 (by decide) (fun c => absurd c (by decide)) (fun _ => ?_)
  refine x_iload_n h 6 dX6_ordered_18 rfl rfl ?_
  refine x_iconst h (nI 1) dX6_ordered_19 (by decide) ?_
  refine x_isub h dX6_ordered_20 ?_
  refine x_top (nI 2) (by decide) ?_
  refine x_iload h 0 dX6_ordered_21 rfl ?_
  refine x_isub h dX6_ordered_23 ?_
  refine x_top (nI 2) (by decide) ?_
  refine x_iconst h (nI 2) dX6_ordered_24 (by decide) ?_
  refine x_icmp_ne h 32 dX6_ordered_25 (by decide) (fun c => absurd c (by decide)) (fun _ => ?_)
  refine x_iconst h (nI 2) dX6_ordered_28 (by decide) ?_
  refine x_goto h 33 dX6_ordered_29 (by decide) ?_
  refine x_istore h [(8, .int (nI 2)), (7, .int (nI 0)), (6, .int (nI 0)), (5, .int (nI 4)), (4, .int (nI 0)), (0, .ref (g.1 158)), (1, .int (nI 4)), (2, .int (nI 3)), (3, .int (nI 0))] dX6_ordered_33 (by decide) rfl ?_
  refine x_iload h 3 dX6_ordered_35 rfl ?_
  refine x_iload h 0 dX6_ordered_37 rfl ?_
  refine x_idiv h dX6_ordered_39 (by decide) ?_
  refine x_top (nI 2) (by decide) ?_
  refine x_istore h [(9, .int (nI 2)), (8, .int (nI 2)), (7, .int (nI 0)), (6, .int (nI 0)), (5, .int (nI 4)), (4, .int (nI 0)), (0, .ref (g.1 158)), (1, .int (nI 4)), (2, .int (nI 3)), (3, .int (nI 0))] dX6_ordered_40 (by decide) rfl ?_
  refine x_iload h 4 dX6_ordered_42 rfl ?_
  refine x_iload h 1 dX6_ordered_44 rfl ?_
  refine x_irem h dX6_ordered_46 (by decide) ?_
  refine x_top (nI 0) (by decide) ?_
  refine x_istore h [(5, .int (nI 0)), (9, .int (nI 2)), (8, .int (nI 2)), (7, .int (nI 0)), (6, .int (nI 0)), (4, .int (nI 0)), (0, .ref (g.1 158)), (1, .int (nI 4)), (2, .int (nI 3)), (3, .int (nI 0))] dX6_ordered_47 (by decide) rfl ?_
  refine x_iconst h (nI 0) dX6_ordered_49 (by decide) ?_
  refine x_istore h [(6, .int (nI 0)), (5, .int (nI 0)), (9, .int (nI 2)), (8, .int (nI 2)), (7, .int (nI 0)), (4, .int (nI 0)), (0, .ref (g.1 158)), (1, .int (nI 4)), (2, .int (nI 3)), (3, .int (nI 0))] dX6_ordered_50 (by decide) rfl ?_
  refine x_iload h 5 dX6_ordered_52 rfl ?_
  refine x_iload h 0 dX6_ordered_54 rfl ?_
  refine x_ishr h dX6_ordered_56 ?_
  refine x_top (nI 0) (by decide) ?_
  refine x_iconst h (nI 1) dX6_ordered_57 (by decide) ?_
  refine x_iand h dX6_ordered_58 ?_
  refine x_top (nI 0) (by decide) ?_
  refine x_iconst h (nI 1) dX6_ordered_59 (by decide) ?_
  refine x_icmp_eq h 68 dX6_ordered_60 (by decide) (fun c => absurd c (by decide)) (fun _ => ?_)
  refine x_iload h 2 dX6_ordered_63 rfl ?_
  refine x_if_le h 95 dX6_ordered_65 (by decide) (fun c => absurd c (by decide)) (fun _ => ?_)
  refine x_iload h 2 dX6_ordered_68 rfl ?_
  refine x_iload h 5 dX6_ordered_70 rfl ?_
  refine x_iload h 0 dX6_ordered_72 rfl ?_
  refine x_ishr h dX6_ordered_74 ?_
  refine x_top (nI 0) (by decide) ?_
  refine x_iconst h (nI 1) dX6_ordered_75 (by decide) ?_
  refine x_iand h dX6_ordered_76 ?_
  refine x_top (nI 0) (by decide) ?_
  refine x_iconst h (nI 1) dX6_ordered_77 (by decide) ?_
  refine x_icmp_ne h 85 dX6_ordered_78 (by decide) (fun _ => ?_) (fun c => absurd c (by decide))
  refine x_iconst h (nI 1) dX6_ordered_85 (by decide) ?_
  refine x_isub h dX6_ordered_86 ?_
  refine x_top (nI 1) (by decide) ?_
  refine x_istore h [(9, .int (nI 1)), (6, .int (nI 0)), (5, .int (nI 0)), (8, .int (nI 2)), (7, .int (nI 0)), (4, .int (nI 0)), (0, .ref (g.1 158)), (1, .int (nI 4)), (2, .int (nI 3)), (3, .int (nI 0))] dX6_ordered_87 (by decide) rfl ?_
  refine x_iinc_n h 1 (n := 1) [(6, .int (nI 1)), (9, .int (nI 1)), (5, .int (nI 0)), (8, .int (nI 2)), (7, .int (nI 0)), (4, .int (nI 0)), (0, .ref (g.1 158)), (1, .int (nI 4)), (2, .int (nI 3)), (3, .int (nI 0))] dX6_ordered_89 rfl (by decide) rfl ?_
  refine x_goto h 52 dX6_ordered_92 (by decide) ?_
  refine x_iload h 5 dX6_ordered_52 rfl ?_
  refine x_iload h 0 dX6_ordered_54 rfl ?_
  refine x_ishr h dX6_ordered_56 ?_
  refine x_top (nI 0) (by decide) ?_
  refine x_iconst h (nI 1) dX6_ordered_57 (by decide) ?_
  refine x_iand h dX6_ordered_58 ?_
  refine x_top (nI 0) (by decide) ?_
  refine x_iconst h (nI 1) dX6_ordered_59 (by decide) ?_
  refine x_icmp_eq h 68 dX6_ordered_60 (by decide) (fun c => absurd c (by decide)) (fun _ => ?_)
  refine x_iload h 1 dX6_ordered_63 rfl ?_
  refine x_if_le h 95 dX6_ordered_65 (by decide) (fun c => absurd c (by decide)) (fun _ => ?_)
  refine x_iload h 1 dX6_ordered_68 rfl ?_
  refine x_iload h 5 dX6_ordered_70 rfl ?_
  refine x_iload h 0 dX6_ordered_72 rfl ?_
  refine x_ishr h dX6_ordered_74 ?_
  refine x_top (nI 0) (by decide) ?_
  refine x_iconst h (nI 1) dX6_ordered_75 (by decide) ?_
  refine x_iand h dX6_ordered_76 ?_
  refine x_top (nI 0) (by decide) ?_
  refine x_iconst h (nI 1) dX6_ordered_77 (by decide) ?_
  refine x_icmp_ne h 85 dX6_ordered_78 (by decide) (fun _ => ?_) (fun c => absurd c (by decide))
  refine x_iconst h (nI 1) dX6_ordered_85 (by decide) ?_
  refine x_isub h dX6_ordered_86 ?_
  refine x_top (nI 0) (by decide) ?_
  refine x_istore h [(9, .int (nI 0)), (6, .int (nI 1)), (5, .int (nI 0)), (8, .int (nI 2)), (7, .int (nI 0)), (4, .int (nI 0)), (0, .ref (g.1 158)), (1, .int (nI 4)), (2, .int (nI 3)), (3, .int (nI 0))] dX6_ordered_87 (by decide) rfl ?_
  refine x_iinc_n h 1 (n := 1) [(6, .int (nI 2)), (9, .int (nI 0)), (5, .int (nI 0)), (8, .int (nI 2)), (7, .int (nI 0)), (4, .int (nI 0)), (0, .ref (g.1 158)), (1, .int (nI 4)), (2, .int (nI 3)), (3, .int (nI 0))] dX6_ordered_89 rfl (by decide) rfl ?_
  refine x_goto h 52 dX6_ordered_92 (by decide) ?_
  refine x_iload h 5 dX6_ordered_52 rfl ?_
  refine x_iload h 0 dX6_ordered_54 rfl ?_
  refine x_ishr h dX6_ordered_56 ?_
  refine x_top (nI 0) (by decide) ?_
  refine x_iconst h (nI 1) dX6_ordered_57 (by decide) ?_
  refine x_iand h dX6_ordered_58 ?_
  refine x_top (nI 0) (by decide) ?_
  refine x_iconst h (nI 1) dX6_ordered_59 (by decide) ?_
  refine x_icmp_eq h 68 dX6_ordered_60 (by decide) (fun c => absurd c (by decide)) (fun _ => ?_)
  refine x_iload h 1 dX6_ordered_63 rfl ?_
  refine x_if_le h 95 dX6_ordered_65 (by decide) (fun _ => ?_) (fun c => absurd (by decide) c)
  refine x_iload h 5 dX6_ordered_95 rfl ?_
  refine x_iconst h (nI 1) dX6_ordered_97 (by decide) ?_
  refine x_iload h 0 dX6_ordered_98 rfl ?_
  refine x_ishl h dX6_ordered_100 ?_
  refine x_top (nI 4) (by decide) ?_
  refine x_ior h dX6_ordered_101 ?_
  refine x_top (nI 4) (by decide) ?_
  refine x_istore h [(4, .int (nI 4)), (6, .int (nI 2)), (9, .int (nI 0)), (5, .int (nI 0)), (8, .int (nI 2)), (7, .int (nI 0)), (0, .ref (g.1 158)), (1, .int (nI 4)), (2, .int (nI 3)), (3, .int (nI 0))] dX6_ordered_102 (by decide) rfl ?_
  refine x_iinc_n h 5 (n := 1) [(7, .int (nI 1)), (4, .int (nI 4)), (6, .int (nI 2)), (9, .int (nI 0)), (5, .int (nI 0)), (8, .int (nI 2)), (0, .ref (g.1 158)), (1, .int (nI 4)), (2, .int (nI 3)), (3, .int (nI 0))] dX6_ordered_104 rfl (by decide) rfl ?_
  refine x_goto h 12 dX6_ordered_107 (by decide) ?_
  refine x_iload h 0 dX6_ordered_12 rfl ?_
  refine x_iload_n h 9 dX6_ordered_14 rfl rfl ?_
  refine x_icmp_gt h 110 dX6_ordered_15 (by decide) (fun _ => ?_) (fun c => absurd (by decide) c)
  refine x_aload_n h 6 dX6_ordered_110 rfl rfl ?_
  refine xg_X6_14 h in_X6_ordered_X6 (by decide +kernel) dX6_ordered_111 ?_
  refine x_iload h 2 dX6_ordered_114 rfl ?_
  refine xl_167 h dX6_ordered_116 (by decide) ?_
  exact hret _ _ _ _ _ dX6_ordered_117 (by exact ⟨⟨rfl, rfl⟩, congrArg (M 167) (by decide)⟩)

set_option maxRecDepth 100000 in
set_option maxHeartbeats 4000000 in
theorem c_X6_ordered_341 {l : Launch} {g : Geo} {M : Nat → Nat → Int32} {P : Nat → Nat}  : Met l yX6_ordered wsX6_ordered rmX6_ordered (cPre g [.ref (g.1 158), .int (nI 4), .int (nI 3), .int (nI 1)] M P) (cQi g (fun r M' P' => (P = P' ∧ M = M') ∧ r = M 167 (pmM 3 4 1))) 0 0 (gA g) := by
  refine met_i (cc := cX6_ordered) (maxL := 10) (by decide) rfl ⟨rfl, rfl⟩ (Nat.le_of_ble_eq_true rfl) (fun x hx h hret => ?_)
  replace h : Cxk x g cX6_ordered 10 wsX6_ordered RX6 rmX6_ordered := h
  show X x 0 [(0, .ref (g.1 158)), (1, .int (nI 4)), (2, .int (nI 3)), (3, .int (nI 1))] [] M P
  refine x_iconst h (nI 0) dX6_ordered_0 (by decide) ?_
  refine x_istore h [(4, .int (nI 0)), (0, .ref (g.1 158)), (1, .int (nI 4)), (2, .int (nI 3)), (3, .int (nI 1))] dX6_ordered_1 (by decide) rfl ?_
  refine x_iload_n h 2 dX6_ordered_3 rfl rfl ?_
  refine x_istore h [(5, .int (nI 4)), (4, .int (nI 0)), (0, .ref (g.1 158)), (1, .int (nI 4)), (2, .int (nI 3)), (3, .int (nI 1))] dX6_ordered_4 (by decide) rfl ?_
  refine x_iconst h (nI 0) dX6_ordered_6 (by decide) ?_
  refine x_istore h [(6, .int (nI 0)), (5, .int (nI 4)), (4, .int (nI 0)), (0, .ref (g.1 158)), (1, .int (nI 4)), (2, .int (nI 3)), (3, .int (nI 1))] dX6_ordered_7 (by decide) rfl ?_
  refine x_iconst h (nI 0) dX6_ordered_9 (by decide) ?_
  refine x_istore h [(7, .int (nI 0)), (6, .int (nI 0)), (5, .int (nI 4)), (4, .int (nI 0)), (0, .ref (g.1 158)), (1, .int (nI 4)), (2, .int (nI 3)), (3, .int (nI 1))] dX6_ordered_10 (by decide) rfl ?_
  refine x_iload h 0 dX6_ordered_12 rfl ?_
  refine x_iload_n h 7 dX6_ordered_14 rfl rfl ?_
  refine x_icmp_gt h 110 dX6_ordered_15 (by decide) (fun c => absurd c (by decide)) (fun _ => ?_)
  refine x_iload_n h 6 dX6_ordered_18 rfl rfl ?_
  refine x_iconst h (nI 1) dX6_ordered_19 (by decide) ?_
  refine x_isub h dX6_ordered_20 ?_
  refine x_top (nI 2) (by decide) ?_
  refine x_iload h 0 dX6_ordered_21 rfl ?_
  refine x_isub h dX6_ordered_23 ?_
  refine x_top (nI 2) (by decide) ?_
  refine x_iconst h (nI 2) dX6_ordered_24 (by decide) ?_
  refine x_icmp_ne h 32 dX6_ordered_25 (by decide) (fun c => absurd c (by decide)) (fun _ => ?_)
  refine x_iconst h (nI 2) dX6_ordered_28 (by decide) ?_
  refine x_goto h 33 dX6_ordered_29 (by decide) ?_
  refine x_istore h [(8, .int (nI 2)), (7, .int (nI 0)), (6, .int (nI 0)), (5, .int (nI 4)), (4, .int (nI 0)), (0, .ref (g.1 158)), (1, .int (nI 4)), (2, .int (nI 3)), (3, .int (nI 1))] dX6_ordered_33 (by decide) rfl ?_
  refine x_iload h 3 dX6_ordered_35 rfl ?_
  refine x_iload h 0 dX6_ordered_37 rfl ?_
  refine x_idiv h dX6_ordered_39 (by decide) ?_
  refine x_top (nI 2) (by decide) ?_
  refine x_istore h [(9, .int (nI 2)), (8, .int (nI 2)), (7, .int (nI 0)), (6, .int (nI 0)), (5, .int (nI 4)), (4, .int (nI 0)), (0, .ref (g.1 158)), (1, .int (nI 4)), (2, .int (nI 3)), (3, .int (nI 1))] dX6_ordered_40 (by decide) rfl ?_
  refine x_iload h 4 dX6_ordered_42 rfl ?_
  refine x_iload h 1 dX6_ordered_44 rfl ?_
  refine x_irem h dX6_ordered_46 (by decide) ?_
  refine x_top (nI 0) (by decide) ?_
  refine x_istore h [(5, .int (nI 0)), (9, .int (nI 2)), (8, .int (nI 2)), (7, .int (nI 0)), (6, .int (nI 0)), (4, .int (nI 0)), (0, .ref (g.1 158)), (1, .int (nI 4)), (2, .int (nI 3)), (3, .int (nI 1))] dX6_ordered_47 (by decide) rfl ?_
  refine x_iconst h (nI 0) dX6_ordered_49 (by decide) ?_
  refine x_istore h [(6, .int (nI 0)), (5, .int (nI 0)), (9, .int (nI 2)), (8, .int (nI 2)), (7, .int (nI 0)), (4, .int (nI 0)), (0, .ref (g.1 158)), (1, .int (nI 4)), (2, .int (nI 3)), (3, .int (nI 1))] dX6_ordered_50 (by decide) rfl ?_
  refine x_iload h 5 dX6_ordered_52 rfl ?_
  refine x_iload h 0 dX6_ordered_54 rfl ?_
  refine x_ishr h dX6_ordered_56 ?_
  refine x_top (nI 0) (by decide) ?_
  refine x_iconst h (nI 1) dX6_ordered_57 (by decide) ?_
  refine x_iand h dX6_ordered_58 ?_
  refine x_top (nI 0) (by decide) ?_
  refine x_iconst h (nI 1) dX6_ordered_59 (by decide) ?_
  refine x_icmp_eq h 68 dX6_ordered_60 (by decide) (fun c => absurd c (by decide)) (fun _ => ?_)
  refine x_iload h 2 dX6_ordered_63 rfl ?_
  refine x_if_le h 95 dX6_ordered_65 (by decide) (fun c => absurd c (by decide)) (fun _ => ?_)
  refine x_iload h 2 dX6_ordered_68 rfl ?_
  refine x_iload h 5 dX6_ordered_70 rfl ?_
  refine x_iload h 0 dX6_ordered_72 rfl ?_
  refine x_ishr h dX6_ordered_74 ?_
  refine x_top (nI 0) (by decide) ?_
  refine x_iconst h (nI 1) dX6_ordered_75 (by decide) ?_
  refine x_iand h dX6_ordered_76 ?_
  refine x_top (nI 0) (by decide) ?_
  refine x_iconst h (nI 1) dX6_ordered_77 (by decide) ?_
  refine x_icmp_ne h 85 dX6_ordered_78 (by decide) (fun _ => ?_) (fun c => absurd c (by decide))
  refine x_iconst h (nI 1) dX6_ordered_85 (by decide) ?_
  refine x_isub h dX6_ordered_86 ?_
  refine x_top (nI 1) (by decide) ?_
  refine x_istore h [(9, .int (nI 1)), (6, .int (nI 0)), (5, .int (nI 0)), (8, .int (nI 2)), (7, .int (nI 0)), (4, .int (nI 0)), (0, .ref (g.1 158)), (1, .int (nI 4)), (2, .int (nI 3)), (3, .int (nI 1))] dX6_ordered_87 (by decide) rfl ?_
  refine x_iinc_n h 1 (n := 1) [(6, .int (nI 1)), (9, .int (nI 1)), (5, .int (nI 0)), (8, .int (nI 2)), (7, .int (nI 0)), (4, .int (nI 0)), (0, .ref (g.1 158)), (1, .int (nI 4)), (2, .int (nI 3)), (3, .int (nI 1))] dX6_ordered_89 rfl (by decide) rfl ?_
  refine x_goto h 52 dX6_ordered_92 (by decide) ?_
  refine x_iload h 5 dX6_ordered_52 rfl ?_
  refine x_iload h 0 dX6_ordered_54 rfl ?_
  refine x_ishr h dX6_ordered_56 ?_
  refine x_top (nI 0) (by decide) ?_
  refine x_iconst h (nI 1) dX6_ordered_57 (by decide) ?_
  refine x_iand h dX6_ordered_58 ?_
  refine x_top (nI 0) (by decide) ?_
  refine x_iconst h (nI 1) dX6_ordered_59 (by decide) ?_
  refine x_icmp_eq h 68 dX6_ordered_60 (by decide) (fun c => absurd c (by decide)) (fun _ => ?_)
  refine x_iload h 1 dX6_ordered_63 rfl ?_
  refine x_if_le h 95 dX6_ordered_65 (by decide) (fun c => absurd c (by decide)) (fun _ => ?_)
  refine x_iload h 1 dX6_ordered_68 rfl ?_
  refine x_iload h 5 dX6_ordered_70 rfl ?_
  refine x_iload h 0 dX6_ordered_72 rfl ?_
  refine x_ishr h dX6_ordered_74 ?_
  refine x_top (nI 0) (by decide) ?_
  refine x_iconst h (nI 1) dX6_ordered_75 (by decide) ?_
  refine x_iand h dX6_ordered_76 ?_
  refine x_top (nI 0) (by decide) ?_
  refine x_iconst h (nI 1) dX6_ordered_77 (by decide) ?_
  refine x_icmp_ne h 85 dX6_ordered_78 (by decide) (fun _ => ?_) (fun c => absurd c (by decide))
  refine x_iconst h (nI 1) dX6_ordered_85 (by decide) ?_
  refine x_isub h dX6_ordered_86 ?_
  refine x_top (nI 0) (by decide) ?_
  refine x_istore h [(9, .int (nI 0)), (6, .int (nI 1)), (5, .int (nI 0)), (8, .int (nI 2)), (7, .int (nI 0)), (4, .int (nI 0)), (0, .ref (g.1 158)), (1, .int (nI 4)), (2, .int (nI 3)), (3, .int (nI 1))] dX6_ordered_87 (by decide) rfl ?_
  refine x_iinc_n h 1 (n := 1) [(6, .int (nI 2)), (9, .int (nI 0)), (5, .int (nI 0)), (8, .int (nI 2)), (7, .int (nI 0)), (4, .int (nI 0)), (0, .ref (g.1 158)), (1, .int (nI 4)), (2, .int (nI 3)), (3, .int (nI 1))] dX6_ordered_89 rfl (by decide) rfl ?_
  refine x_goto h 52 dX6_ordered_92 (by decide) ?_
  refine x_iload h 5 dX6_ordered_52 rfl ?_
  refine x_iload h 0 dX6_ordered_54 rfl ?_
  refine x_ishr h dX6_ordered_56 ?_
  refine x_top (nI 0) (by decide) ?_
  refine x_iconst h (nI 1) dX6_ordered_57 (by decide) ?_
  refine x_iand h dX6_ordered_58 ?_
  refine x_top (nI 0) (by decide) ?_
  refine x_iconst h (nI 1) dX6_ordered_59 (by decide) ?_
  refine x_icmp_eq h 68 dX6_ordered_60 (by decide) (fun c => absurd c (by decide)) (fun _ => ?_)
  refine x_iload h 1 dX6_ordered_63 rfl ?_
  refine x_if_le h 95 dX6_ordered_65 (by decide) (fun _ => ?_) (fun c => absurd (by decide) c)
  refine x_iload h 5 dX6_ordered_95 rfl ?_
  refine x_iconst h (nI 1) dX6_ordered_97 (by decide) ?_
  refine x_iload h 0 dX6_ordered_98 rfl ?_
  refine x_ishl h dX6_ordered_100 ?_
  refine x_top (nI 4) (by decide) ?_
  refine x_ior h dX6_ordered_101 ?_
  refine x_top (nI 4) (by decide) ?_
  refine x_istore h [(4, .int (nI 4)), (6, .int (nI 2)), (9, .int (nI 0)), (5, .int (nI 0)), (8, .int (nI 2)), (7, .int (nI 0)), (0, .ref (g.1 158)), (1, .int (nI 4)), (2, .int (nI 3)), (3, .int (nI 1))] dX6_ordered_102 (by decide) rfl ?_
  refine x_iinc_n h 5 (n := 1) [(7, .int (nI 1)), (4, .int (nI 4)), (6, .int (nI 2)), (9, .int (nI 0)), (5, .int (nI 0)), (8, .int (nI 2)), (0, .ref (g.1 158)), (1, .int (nI 4)), (2, .int (nI 3)), (3, .int (nI 1))] dX6_ordered_104 rfl (by decide) rfl ?_
  refine x_goto h 12 dX6_ordered_107 (by decide) ?_
  refine x_iload h 0 dX6_ordered_12 rfl ?_
  refine x_iload_n h 9 dX6_ordered_14 rfl rfl ?_
  refine x_icmp_gt h 110 dX6_ordered_15 (by decide) (fun c => absurd c (by decide)) (fun _ => ?_)
  refine x_iload_n h 8 dX6_ordered_18 rfl rfl ?_
  refine x_iconst h (nI 1) dX6_ordered_19 (by decide) ?_
  refine x_isub h dX6_ordered_20 ?_
  refine x_top (nI 2) (by decide) ?_
  refine x_iload h 0 dX6_ordered_21 rfl ?_
  refine x_isub h dX6_ordered_23 ?_
  refine x_top (nI 1) (by decide) ?_
  refine x_iconst h (nI 2) dX6_ordered_24 (by decide) ?_
  refine x_icmp_ne h 32 dX6_ordered_25 (by decide) (fun _ => ?_) (fun c => absurd c (by decide))
  refine x_iconst h (nI 1) dX6_ordered_32 (by decide) ?_
  refine x_istore h [(8, .int (nI 1)), (7, .int (nI 1)), (4, .int (nI 4)), (6, .int (nI 2)), (9, .int (nI 0)), (5, .int (nI 0)), (0, .ref (g.1 158)), (1, .int (nI 4)), (2, .int (nI 3)), (3, .int (nI 1))] dX6_ordered_33 (by decide) rfl ?_
  refine x_iload h 5 dX6_ordered_35 rfl ?_
  refine x_iload h 0 dX6_ordered_37 rfl ?_
  refine x_idiv h dX6_ordered_39 (by decide) ?_
  refine x_top (nI 0) (by decide) ?_
  refine x_istore h [(9, .int (nI 0)), (8, .int (nI 1)), (7, .int (nI 1)), (4, .int (nI 4)), (6, .int (nI 2)), (5, .int (nI 0)), (0, .ref (g.1 158)), (1, .int (nI 4)), (2, .int (nI 3)), (3, .int (nI 1))] dX6_ordered_40 (by decide) rfl ?_
  refine x_iload h 5 dX6_ordered_42 rfl ?_
  refine x_iload h 1 dX6_ordered_44 rfl ?_
  refine x_irem h dX6_ordered_46 (by decide) ?_
  refine x_top (nI 0) (by decide) ?_
  refine x_istore h [(5, .int (nI 0)), (9, .int (nI 0)), (8, .int (nI 1)), (7, .int (nI 1)), (4, .int (nI 4)), (6, .int (nI 2)), (0, .ref (g.1 158)), (1, .int (nI 4)), (2, .int (nI 3)), (3, .int (nI 1))] dX6_ordered_47 (by decide) rfl ?_
  refine x_iconst h (nI 0) dX6_ordered_49 (by decide) ?_
  refine x_istore h [(6, .int (nI 0)), (5, .int (nI 0)), (9, .int (nI 0)), (8, .int (nI 1)), (7, .int (nI 1)), (4, .int (nI 4)), (0, .ref (g.1 158)), (1, .int (nI 4)), (2, .int (nI 3)), (3, .int (nI 1))] dX6_ordered_50 (by decide) rfl ?_
  refine x_iload h 5 dX6_ordered_52 rfl ?_
  refine x_iload h 0 dX6_ordered_54 rfl ?_
  refine x_ishr h dX6_ordered_56 ?_
  refine x_top (nI 4) (by decide) ?_
  refine x_iconst h (nI 1) dX6_ordered_57 (by decide) ?_
  refine x_iand h dX6_ordered_58 ?_
  refine x_top (nI 0) (by decide) ?_
  refine x_iconst h (nI 1) dX6_ordered_59 (by decide) ?_
  refine x_icmp_eq h 68 dX6_ordered_60 (by decide) (fun c => absurd c (by decide)) (fun _ => ?_)
  refine x_iload h 2 dX6_ordered_63 rfl ?_
  refine x_if_le h 95 dX6_ordered_65 (by decide) (fun _ => ?_) (fun c => absurd (by decide) c)
  refine x_iload h 5 dX6_ordered_95 rfl ?_
  refine x_iconst h (nI 1) dX6_ordered_97 (by decide) ?_
  refine x_iload h 0 dX6_ordered_98 rfl ?_
  refine x_ishl h dX6_ordered_100 ?_
  refine x_top (nI 1) (by decide) ?_
  refine x_ior h dX6_ordered_101 ?_
  refine x_top (nI 5) (by decide) ?_
  refine x_istore h [(4, .int (nI 5)), (6, .int (nI 0)), (5, .int (nI 0)), (9, .int (nI 0)), (8, .int (nI 1)), (7, .int (nI 1)), (0, .ref (g.1 158)), (1, .int (nI 4)), (2, .int (nI 3)), (3, .int (nI 1))] dX6_ordered_102 (by decide) rfl ?_
  refine x_iinc_n h 5 (n := 1) [(7, .int (nI 2)), (4, .int (nI 5)), (6, .int (nI 0)), (5, .int (nI 0)), (9, .int (nI 0)), (8, .int (nI 1)), (0, .ref (g.1 158)), (1, .int (nI 4)), (2, .int (nI 3)), (3, .int (nI 1))] dX6_ordered_104 rfl (by decide) rfl ?_
  refine x_goto h 12 dX6_ordered_107 (by decide) ?_
  refine x_iload h 0 dX6_ordered_12 rfl ?_
  refine x_iload_n h 9 dX6_ordered_14 rfl rfl ?_
  refine x_icmp_gt h 110 dX6_ordered_15 (by decide) (fun _ => ?_) (fun c => absurd (by decide) c)
  refine x_aload_n h 6 dX6_ordered_110 rfl rfl ?_
  refine xg_X6_14 h in_X6_ordered_X6 (by decide +kernel) dX6_ordered_111 ?_
  refine x_iload h 2 dX6_ordered_114 rfl ?_
  refine xl_167 h dX6_ordered_116 (by decide) ?_
  exact hret _ _ _ _ _ dX6_ordered_117 (by exact ⟨⟨rfl, rfl⟩, congrArg (M 167) (by decide)⟩)

set_option maxRecDepth 100000 in
set_option maxHeartbeats 4000000 in
theorem c_X6_ordered_342 {l : Launch} {g : Geo} {M : Nat → Nat → Int32} {P : Nat → Nat}  : Met l yX6_ordered wsX6_ordered rmX6_ordered (cPre g [.ref (g.1 158), .int (nI 4), .int (nI 3), .int (nI 2)] M P) (cQi g (fun r M' P' => (P = P' ∧ M = M') ∧ r = M 167 (pmM 3 4 2))) 0 0 (gA g) := by
  refine met_i (cc := cX6_ordered) (maxL := 10) (by decide) rfl ⟨rfl, rfl⟩ (Nat.le_of_ble_eq_true rfl) (fun x hx h hret => ?_)
  replace h : Cxk x g cX6_ordered 10 wsX6_ordered RX6 rmX6_ordered := h
  show X x 0 [(0, .ref (g.1 158)), (1, .int (nI 4)), (2, .int (nI 3)), (3, .int (nI 2))] [] M P
  refine x_iconst h (nI 0) dX6_ordered_0 (by decide) ?_
  refine x_istore h [(4, .int (nI 0)), (0, .ref (g.1 158)), (1, .int (nI 4)), (2, .int (nI 3)), (3, .int (nI 2))] dX6_ordered_1 (by decide) rfl ?_
  refine x_iload_n h 2 dX6_ordered_3 rfl rfl ?_
  refine x_istore h [(5, .int (nI 4)), (4, .int (nI 0)), (0, .ref (g.1 158)), (1, .int (nI 4)), (2, .int (nI 3)), (3, .int (nI 2))] dX6_ordered_4 (by decide) rfl ?_
  refine x_iconst h (nI 0) dX6_ordered_6 (by decide) ?_
  refine x_istore h [(6, .int (nI 0)), (5, .int (nI 4)), (4, .int (nI 0)), (0, .ref (g.1 158)), (1, .int (nI 4)), (2, .int (nI 3)), (3, .int (nI 2))] dX6_ordered_7 (by decide) rfl ?_
  refine x_iconst h (nI 0) dX6_ordered_9 (by decide) ?_
  refine x_istore h [(7, .int (nI 0)), (6, .int (nI 0)), (5, .int (nI 4)), (4, .int (nI 0)), (0, .ref (g.1 158)), (1, .int (nI 4)), (2, .int (nI 3)), (3, .int (nI 2))] dX6_ordered_10 (by decide) rfl ?_
  refine x_iload h 0 dX6_ordered_12 rfl ?_
  refine x_iload_n h 7 dX6_ordered_14 rfl rfl ?_
  refine x_icmp_gt h 110 dX6_ordered_15 (by decide) (fun c => absurd c (by decide)) (fun _ => ?_)
  refine x_iload_n h 6 dX6_ordered_18 rfl rfl ?_
  refine x_iconst h (nI 1) dX6_ordered_19 (by decide) ?_
  refine x_isub h dX6_ordered_20 ?_
  refine x_top (nI 2) (by decide) ?_
  refine x_iload h 0 dX6_ordered_21 rfl ?_
  refine x_isub h dX6_ordered_23 ?_
  refine x_top (nI 2) (by decide) ?_
  refine x_iconst h (nI 2) dX6_ordered_24 (by decide) ?_
  refine x_icmp_ne h 32 dX6_ordered_25 (by decide) (fun c => absurd c (by decide)) (fun _ => ?_)
  refine x_iconst h (nI 2) dX6_ordered_28 (by decide) ?_
  refine x_goto h 33 dX6_ordered_29 (by decide) ?_
  refine x_istore h [(8, .int (nI 2)), (7, .int (nI 0)), (6, .int (nI 0)), (5, .int (nI 4)), (4, .int (nI 0)), (0, .ref (g.1 158)), (1, .int (nI 4)), (2, .int (nI 3)), (3, .int (nI 2))] dX6_ordered_33 (by decide) rfl ?_
  refine x_iload h 3 dX6_ordered_35 rfl ?_
  refine x_iload h 0 dX6_ordered_37 rfl ?_
  refine x_idiv h dX6_ordered_39 (by decide) ?_
  refine x_top (nI 2) (by decide) ?_
  refine x_istore h [(9, .int (nI 2)), (8, .int (nI 2)), (7, .int (nI 0)), (6, .int (nI 0)), (5, .int (nI 4)), (4, .int (nI 0)), (0, .ref (g.1 158)), (1, .int (nI 4)), (2, .int (nI 3)), (3, .int (nI 2))] dX6_ordered_40 (by decide) rfl ?_
  refine x_iload h 4 dX6_ordered_42 rfl ?_
  refine x_iload h 1 dX6_ordered_44 rfl ?_
  refine x_irem h dX6_ordered_46 (by decide) ?_
  refine x_top (nI 0) (by decide) ?_
  refine x_istore h [(5, .int (nI 0)), (9, .int (nI 2)), (8, .int (nI 2)), (7, .int (nI 0)), (6, .int (nI 0)), (4, .int (nI 0)), (0, .ref (g.1 158)), (1, .int (nI 4)), (2, .int (nI 3)), (3, .int (nI 2))] dX6_ordered_47 (by decide) rfl ?_
  refine x_iconst h (nI 0) dX6_ordered_49 (by decide) ?_
  refine x_istore h [(6, .int (nI 0)), (5, .int (nI 0)), (9, .int (nI 2)), (8, .int (nI 2)), (7, .int (nI 0)), (4, .int (nI 0)), (0, .ref (g.1 158)), (1, .int (nI 4)), (2, .int (nI 3)), (3, .int (nI 2))] dX6_ordered_50 (by decide) rfl ?_
  refine x_iload h 5 dX6_ordered_52 rfl ?_
  refine x_iload h 0 dX6_ordered_54 rfl ?_
  refine x_ishr h dX6_ordered_56 ?_
  refine x_top (nI 0) (by decide) ?_
  refine x_iconst h (nI 1) dX6_ordered_57 (by decide) ?_
  refine x_iand h dX6_ordered_58 ?_
  refine x_top (nI 0) (by decide) ?_
  refine x_iconst h (nI 1) dX6_ordered_59 (by decide) ?_
  refine x_icmp_eq h 68 dX6_ordered_60 (by decide) (fun c => absurd c (by decide)) (fun _ => ?_)
  refine x_iload h 2 dX6_ordered_63 rfl ?_
  refine x_if_le h 95 dX6_ordered_65 (by decide) (fun c => absurd c (by decide)) (fun _ => ?_)
  refine x_iload h 2 dX6_ordered_68 rfl ?_
  refine x_iload h 5 dX6_ordered_70 rfl ?_
  refine x_iload h 0 dX6_ordered_72 rfl ?_
  refine x_ishr h dX6_ordered_74 ?_
  refine x_top (nI 0) (by decide) ?_
  refine x_iconst h (nI 1) dX6_ordered_75 (by decide) ?_
  refine x_iand h dX6_ordered_76 ?_
  refine x_top (nI 0) (by decide) ?_
  refine x_iconst h (nI 1) dX6_ordered_77 (by decide) ?_
  refine x_icmp_ne h 85 dX6_ordered_78 (by decide) (fun _ => ?_) (fun c => absurd c (by decide))
  refine x_iconst h (nI 1) dX6_ordered_85 (by decide) ?_
  refine x_isub h dX6_ordered_86 ?_
  refine x_top (nI 1) (by decide) ?_
  refine x_istore h [(9, .int (nI 1)), (6, .int (nI 0)), (5, .int (nI 0)), (8, .int (nI 2)), (7, .int (nI 0)), (4, .int (nI 0)), (0, .ref (g.1 158)), (1, .int (nI 4)), (2, .int (nI 3)), (3, .int (nI 2))] dX6_ordered_87 (by decide) rfl ?_
  refine x_iinc_n h 1 (n := 1) [(6, .int (nI 1)), (9, .int (nI 1)), (5, .int (nI 0)), (8, .int (nI 2)), (7, .int (nI 0)), (4, .int (nI 0)), (0, .ref (g.1 158)), (1, .int (nI 4)), (2, .int (nI 3)), (3, .int (nI 2))] dX6_ordered_89 rfl (by decide) rfl ?_
  refine x_goto h 52 dX6_ordered_92 (by decide) ?_
  refine x_iload h 5 dX6_ordered_52 rfl ?_
  refine x_iload h 0 dX6_ordered_54 rfl ?_
  refine x_ishr h dX6_ordered_56 ?_
  refine x_top (nI 0) (by decide) ?_
  refine x_iconst h (nI 1) dX6_ordered_57 (by decide) ?_
  refine x_iand h dX6_ordered_58 ?_
  refine x_top (nI 0) (by decide) ?_
  refine x_iconst h (nI 1) dX6_ordered_59 (by decide) ?_
  refine x_icmp_eq h 68 dX6_ordered_60 (by decide) (fun c => absurd c (by decide)) (fun _ => ?_)
  refine x_iload h 1 dX6_ordered_63 rfl ?_
  refine x_if_le h 95 dX6_ordered_65 (by decide) (fun c => absurd c (by decide)) (fun _ => ?_)
  refine x_iload h 1 dX6_ordered_68 rfl ?_
  refine x_iload h 5 dX6_ordered_70 rfl ?_
  refine x_iload h 0 dX6_ordered_72 rfl ?_
  refine x_ishr h dX6_ordered_74 ?_
  refine x_top (nI 0) (by decide) ?_
  refine x_iconst h (nI 1) dX6_ordered_75 (by decide) ?_
  refine x_iand h dX6_ordered_76 ?_
  refine x_top (nI 0) (by decide) ?_
  refine x_iconst h (nI 1) dX6_ordered_77 (by decide) ?_
  refine x_icmp_ne h 85 dX6_ordered_78 (by decide) (fun _ => ?_) (fun c => absurd c (by decide))
  refine x_iconst h (nI 1) dX6_ordered_85 (by decide) ?_
  refine x_isub h dX6_ordered_86 ?_
  refine x_top (nI 0) (by decide) ?_
  refine x_istore h [(9, .int (nI 0)), (6, .int (nI 1)), (5, .int (nI 0)), (8, .int (nI 2)), (7, .int (nI 0)), (4, .int (nI 0)), (0, .ref (g.1 158)), (1, .int (nI 4)), (2, .int (nI 3)), (3, .int (nI 2))] dX6_ordered_87 (by decide) rfl ?_
  refine x_iinc_n h 1 (n := 1) [(6, .int (nI 2)), (9, .int (nI 0)), (5, .int (nI 0)), (8, .int (nI 2)), (7, .int (nI 0)), (4, .int (nI 0)), (0, .ref (g.1 158)), (1, .int (nI 4)), (2, .int (nI 3)), (3, .int (nI 2))] dX6_ordered_89 rfl (by decide) rfl ?_
  refine x_goto h 52 dX6_ordered_92 (by decide) ?_
  refine x_iload h 5 dX6_ordered_52 rfl ?_
  refine x_iload h 0 dX6_ordered_54 rfl ?_
  refine x_ishr h dX6_ordered_56 ?_
  refine x_top (nI 0) (by decide) ?_
  refine x_iconst h (nI 1) dX6_ordered_57 (by decide) ?_
  refine x_iand h dX6_ordered_58 ?_
  refine x_top (nI 0) (by decide) ?_
  refine x_iconst h (nI 1) dX6_ordered_59 (by decide) ?_
  refine x_icmp_eq h 68 dX6_ordered_60 (by decide) (fun c => absurd c (by decide)) (fun _ => ?_)
  refine x_iload h 1 dX6_ordered_63 rfl ?_
  refine x_if_le h 95 dX6_ordered_65 (by decide) (fun _ => ?_) (fun c => absurd (by decide) c)
  refine x_iload h 5 dX6_ordered_95 rfl ?_
  refine x_iconst h (nI 1) dX6_ordered_97 (by decide) ?_
  refine x_iload h 0 dX6_ordered_98 rfl ?_
  refine x_ishl h dX6_ordered_100 ?_
  refine x_top (nI 4) (by decide) ?_
  refine x_ior h dX6_ordered_101 ?_
  refine x_top (nI 4) (by decide) ?_
  refine x_istore h [(4, .int (nI 4)), (6, .int (nI 2)), (9, .int (nI 0)), (5, .int (nI 0)), (8, .int (nI 2)), (7, .int (nI 0)), (0, .ref (g.1 158)), (1, .int (nI 4)), (2, .int (nI 3)), (3, .int (nI 2))] dX6_ordered_102 (by decide) rfl ?_
  refine x_iinc_n h 5 (n := 1) [(7, .int (nI 1)), (4, .int (nI 4)), (6, .int (nI 2)), (9, .int (nI 0)), (5, .int (nI 0)), (8, .int (nI 2)), (0, .ref (g.1 158)), (1, .int (nI 4)), (2, .int (nI 3)), (3, .int (nI 2))] dX6_ordered_104 rfl (by decide) rfl ?_
  refine x_goto h 12 dX6_ordered_107 (by decide) ?_
  refine x_iload h 0 dX6_ordered_12 rfl ?_
  refine x_iload_n h 9 dX6_ordered_14 rfl rfl ?_
  refine x_icmp_gt h 110 dX6_ordered_15 (by decide) (fun c => absurd c (by decide)) (fun _ => ?_)
  refine x_iload_n h 8 dX6_ordered_18 rfl rfl ?_
  refine x_iconst h (nI 1) dX6_ordered_19 (by decide) ?_
  refine x_isub h dX6_ordered_20 ?_
  refine x_top (nI 2) (by decide) ?_
  refine x_iload h 0 dX6_ordered_21 rfl ?_
  refine x_isub h dX6_ordered_23 ?_
  refine x_top (nI 1) (by decide) ?_
  refine x_iconst h (nI 2) dX6_ordered_24 (by decide) ?_
  refine x_icmp_ne h 32 dX6_ordered_25 (by decide) (fun _ => ?_) (fun c => absurd c (by decide))
  refine x_iconst h (nI 1) dX6_ordered_32 (by decide) ?_
  refine x_istore h [(8, .int (nI 1)), (7, .int (nI 1)), (4, .int (nI 4)), (6, .int (nI 2)), (9, .int (nI 0)), (5, .int (nI 0)), (0, .ref (g.1 158)), (1, .int (nI 4)), (2, .int (nI 3)), (3, .int (nI 2))] dX6_ordered_33 (by decide) rfl ?_
  refine x_iload h 5 dX6_ordered_35 rfl ?_
  refine x_iload h 0 dX6_ordered_37 rfl ?_
  refine x_idiv h dX6_ordered_39 (by decide) ?_
  refine x_top (nI 0) (by decide) ?_
  refine x_istore h [(9, .int (nI 0)), (8, .int (nI 1)), (7, .int (nI 1)), (4, .int (nI 4)), (6, .int (nI 2)), (5, .int (nI 0)), (0, .ref (g.1 158)), (1, .int (nI 4)), (2, .int (nI 3)), (3, .int (nI 2))] dX6_ordered_40 (by decide) rfl ?_
  refine x_iload h 5 dX6_ordered_42 rfl ?_
  refine x_iload h 1 dX6_ordered_44 rfl ?_
  refine x_irem h dX6_ordered_46 (by decide) ?_
  refine x_top (nI 0) (by decide) ?_
  refine x_istore h [(5, .int (nI 0)), (9, .int (nI 0)), (8, .int (nI 1)), (7, .int (nI 1)), (4, .int (nI 4)), (6, .int (nI 2)), (0, .ref (g.1 158)), (1, .int (nI 4)), (2, .int (nI 3)), (3, .int (nI 2))] dX6_ordered_47 (by decide) rfl ?_
  refine x_iconst h (nI 0) dX6_ordered_49 (by decide) ?_
  refine x_istore h [(6, .int (nI 0)), (5, .int (nI 0)), (9, .int (nI 0)), (8, .int (nI 1)), (7, .int (nI 1)), (4, .int (nI 4)), (0, .ref (g.1 158)), (1, .int (nI 4)), (2, .int (nI 3)), (3, .int (nI 2))] dX6_ordered_50 (by decide) rfl ?_
  refine x_iload h 5 dX6_ordered_52 rfl ?_
  refine x_iload h 0 dX6_ordered_54 rfl ?_
  refine x_ishr h dX6_ordered_56 ?_
  refine x_top (nI 4) (by decide) ?_
  refine x_iconst h (nI 1) dX6_ordered_57 (by decide) ?_
  refine x_iand h dX6_ordered_58 ?_
  refine x_top (nI 0) (by decide) ?_
  refine x_iconst h (nI 1) dX6_ordered_59 (by decide) ?_
  refine x_icmp_eq h 68 dX6_ordered_60 (by decide) (fun c => absurd c (by decide)) (fun _ => ?_)
  refine x_iload h 2 dX6_ordered_63 rfl ?_
  refine x_if_le h 95 dX6_ordered_65 (by decide) (fun _ => ?_) (fun c => absurd (by decide) c)
  refine x_iload h 5 dX6_ordered_95 rfl ?_
  refine x_iconst h (nI 1) dX6_ordered_97 (by decide) ?_
  refine x_iload h 0 dX6_ordered_98 rfl ?_
  refine x_ishl h dX6_ordered_100 ?_
  refine x_top (nI 1) (by decide) ?_
  refine x_ior h dX6_ordered_101 ?_
  refine x_top (nI 5) (by decide) ?_
  refine x_istore h [(4, .int (nI 5)), (6, .int (nI 0)), (5, .int (nI 0)), (9, .int (nI 0)), (8, .int (nI 1)), (7, .int (nI 1)), (0, .ref (g.1 158)), (1, .int (nI 4)), (2, .int (nI 3)), (3, .int (nI 2))] dX6_ordered_102 (by decide) rfl ?_
  refine x_iinc_n h 5 (n := 1) [(7, .int (nI 2)), (4, .int (nI 5)), (6, .int (nI 0)), (5, .int (nI 0)), (9, .int (nI 0)), (8, .int (nI 1)), (0, .ref (g.1 158)), (1, .int (nI 4)), (2, .int (nI 3)), (3, .int (nI 2))] dX6_ordered_104 rfl (by decide) rfl ?_
  refine x_goto h 12 dX6_ordered_107 (by decide) ?_
  refine x_iload h 0 dX6_ordered_12 rfl ?_
  refine x_iload_n h 9 dX6_ordered_14 rfl rfl ?_
  refine x_icmp_gt h 110 dX6_ordered_15 (by decide) (fun c => absurd c (by decide)) (fun _ => ?_)
  refine x_iload_n h 8 dX6_ordered_18 rfl rfl ?_
  refine x_iconst h (nI 1) dX6_ordered_19 (by decide) ?_
  refine x_isub h dX6_ordered_20 ?_
  refine x_top (nI 2) (by decide) ?_
  refine x_iload h 0 dX6_ordered_21 rfl ?_
  refine x_isub h dX6_ordered_23 ?_
  refine x_top (nI 0) (by decide) ?_
  refine x_iconst h (nI 2) dX6_ordered_24 (by decide) ?_
  refine x_icmp_ne h 32 dX6_ordered_25 (by decide) (fun _ => ?_) (fun c => absurd c (by decide))
  refine x_iconst h (nI 1) dX6_ordered_32 (by decide) ?_
  refine x_istore h [(8, .int (nI 1)), (7, .int (nI 2)), (4, .int (nI 5)), (6, .int (nI 0)), (5, .int (nI 0)), (9, .int (nI 0)), (0, .ref (g.1 158)), (1, .int (nI 4)), (2, .int (nI 3)), (3, .int (nI 2))] dX6_ordered_33 (by decide) rfl ?_
  refine x_iload h 4 dX6_ordered_35 rfl ?_
  refine x_iload h 0 dX6_ordered_37 rfl ?_
  refine x_idiv h dX6_ordered_39 (by decide) ?_
  refine x_top (nI 0) (by decide) ?_
  refine x_istore h [(9, .int (nI 0)), (8, .int (nI 1)), (7, .int (nI 2)), (4, .int (nI 5)), (6, .int (nI 0)), (5, .int (nI 0)), (0, .ref (g.1 158)), (1, .int (nI 4)), (2, .int (nI 3)), (3, .int (nI 2))] dX6_ordered_40 (by decide) rfl ?_
  refine x_iload h 5 dX6_ordered_42 rfl ?_
  refine x_iload h 1 dX6_ordered_44 rfl ?_
  refine x_irem h dX6_ordered_46 (by decide) ?_
  refine x_top (nI 0) (by decide) ?_
  refine x_istore h [(5, .int (nI 0)), (9, .int (nI 0)), (8, .int (nI 1)), (7, .int (nI 2)), (4, .int (nI 5)), (6, .int (nI 0)), (0, .ref (g.1 158)), (1, .int (nI 4)), (2, .int (nI 3)), (3, .int (nI 2))] dX6_ordered_47 (by decide) rfl ?_
  refine x_iconst h (nI 0) dX6_ordered_49 (by decide) ?_
  refine x_istore h [(6, .int (nI 0)), (5, .int (nI 0)), (9, .int (nI 0)), (8, .int (nI 1)), (7, .int (nI 2)), (4, .int (nI 5)), (0, .ref (g.1 158)), (1, .int (nI 4)), (2, .int (nI 3)), (3, .int (nI 2))] dX6_ordered_50 (by decide) rfl ?_
  refine x_iload h 5 dX6_ordered_52 rfl ?_
  refine x_iload h 0 dX6_ordered_54 rfl ?_
  refine x_ishr h dX6_ordered_56 ?_
  refine x_top (nI 5) (by decide) ?_
  refine x_iconst h (nI 1) dX6_ordered_57 (by decide) ?_
  refine x_iand h dX6_ordered_58 ?_
  refine x_top (nI 1) (by decide) ?_
  refine x_iconst h (nI 1) dX6_ordered_59 (by decide) ?_
  refine x_icmp_eq h 68 dX6_ordered_60 (by decide) (fun _ => ?_) (fun c => absurd (by decide) c)
  refine x_iload h 2 dX6_ordered_68 rfl ?_
  refine x_iload h 5 dX6_ordered_70 rfl ?_
  refine x_iload h 0 dX6_ordered_72 rfl ?_
  refine x_ishr h dX6_ordered_74 ?_
  refine x_top (nI 5) (by decide) ?_
  refine x_iconst h (nI 1) dX6_ordered_75 (by decide) ?_
  refine x_iand h dX6_ordered_76 ?_
  refine x_top (nI 1) (by decide) ?_
  refine x_iconst h (nI 1) dX6_ordered_77 (by decide) ?_
  refine x_icmp_ne h 85 dX6_ordered_78 (by decide) (fun c => absurd c (by decide)) (fun _ => ?_)
  refine x_iconst h (nI 0) dX6_ordered_81 (by decide) ?_
  refine x_goto h 86 dX6_ordered_82 (by decide) ?_
  refine x_isub h dX6_ordered_86 ?_
  refine x_top (nI 0) (by decide) ?_
  refine x_istore h [(9, .int (nI 0)), (6, .int (nI 0)), (5, .int (nI 0)), (8, .int (nI 1)), (7, .int (nI 2)), (4, .int (nI 5)), (0, .ref (g.1 158)), (1, .int (nI 4)), (2, .int (nI 3)), (3, .int (nI 2))] dX6_ordered_87 (by decide) rfl ?_
  refine x_iinc_n h 1 (n := 1) [(6, .int (nI 1)), (9, .int (nI 0)), (5, .int (nI 0)), (8, .int (nI 1)), (7, .int (nI 2)), (4, .int (nI 5)), (0, .ref (g.1 158)), (1, .int (nI 4)), (2, .int (nI 3)), (3, .int (nI 2))] dX6_ordered_89 rfl (by decide) rfl ?_
  refine x_goto h 52 dX6_ordered_92 (by decide) ?_
  refine x_iload h 5 dX6_ordered_52 rfl ?_
  refine x_iload h 0 dX6_ordered_54 rfl ?_
  refine x_ishr h dX6_ordered_56 ?_
  refine x_top (nI 2) (by decide) ?_
  refine x_iconst h (nI 1) dX6_ordered_57 (by decide) ?_
  refine x_iand h dX6_ordered_58 ?_
  refine x_top (nI 0) (by decide) ?_
  refine x_iconst h (nI 1) dX6_ordered_59 (by decide) ?_
  refine x_icmp_eq h 68 dX6_ordered_60 (by decide) (fun c => absurd c (by decide)) (fun _ => ?_)
  refine x_iload h 1 dX6_ordered_63 rfl ?_
  refine x_if_le h 95 dX6_ordered_65 (by decide) (fun _ => ?_) (fun c => absurd (by decide) c)
  refine x_iload h 5 dX6_ordered_95 rfl ?_
  refine x_iconst h (nI 1) dX6_ordered_97 (by decide) ?_
  refine x_iload h 0 dX6_ordered_98 rfl ?_
  refine x_ishl h dX6_ordered_100 ?_
  refine x_top (nI 2) (by decide) ?_
  refine x_ior h dX6_ordered_101 ?_
  refine x_top (nI 7) (by decide) ?_
  refine x_istore h [(4, .int (nI 7)), (6, .int (nI 1)), (9, .int (nI 0)), (5, .int (nI 0)), (8, .int (nI 1)), (7, .int (nI 2)), (0, .ref (g.1 158)), (1, .int (nI 4)), (2, .int (nI 3)), (3, .int (nI 2))] dX6_ordered_102 (by decide) rfl ?_
  refine x_iinc_n h 5 (n := 1) [(7, .int (nI 3)), (4, .int (nI 7)), (6, .int (nI 1)), (9, .int (nI 0)), (5, .int (nI 0)), (8, .int (nI 1)), (0, .ref (g.1 158)), (1, .int (nI 4)), (2, .int (nI 3)), (3, .int (nI 2))] dX6_ordered_104 rfl (by decide) rfl ?_
  refine x_goto h 12 dX6_ordered_107 (by decide) ?_
  refine x_iload h 0 dX6_ordered_12 rfl ?_
  refine x_iload_n h 9 dX6_ordered_14 rfl rfl ?_
  refine x_icmp_gt h 110 dX6_ordered_15 (by decide) (fun _ => ?_) (fun c => absurd (by decide) c)
  refine x_aload_n h 6 dX6_ordered_110 rfl rfl ?_
  refine xg_X6_14 h in_X6_ordered_X6 (by decide +kernel) dX6_ordered_111 ?_
  refine x_iload h 2 dX6_ordered_114 rfl ?_
  refine xl_167 h dX6_ordered_116 (by decide) ?_
  exact hret _ _ _ _ _ dX6_ordered_117 (by exact ⟨⟨rfl, rfl⟩, congrArg (M 167) (by decide)⟩)

set_option maxRecDepth 100000 in
set_option maxHeartbeats 4000000 in
theorem c_X6_ordered_350 {l : Launch} {g : Geo} {M : Nat → Nat → Int32} {P : Nat → Nat}  : Met l yX6_ordered wsX6_ordered rmX6_ordered (cPre g [.ref (g.1 158), .int (nI 5), .int (nI 3), .int (nI 0)] M P) (cQi g (fun r M' P' => (P = P' ∧ M = M') ∧ r = M 167 (pmM 3 5 0))) 0 0 (gA g) := by
  refine met_i (cc := cX6_ordered) (maxL := 10) (by decide) rfl ⟨rfl, rfl⟩ (Nat.le_of_ble_eq_true rfl) (fun x hx h hret => ?_)
  replace h : Cxk x g cX6_ordered 10 wsX6_ordered RX6 rmX6_ordered := h
  show X x 0 [(0, .ref (g.1 158)), (1, .int (nI 5)), (2, .int (nI 3)), (3, .int (nI 0))] [] M P
  refine x_iconst h (nI 0) dX6_ordered_0 (by decide) ?_
  refine x_istore h [(4, .int (nI 0)), (0, .ref (g.1 158)), (1, .int (nI 5)), (2, .int (nI 3)), (3, .int (nI 0))] dX6_ordered_1 (by decide) rfl ?_
  refine x_iload_n h 2 dX6_ordered_3 rfl rfl ?_
  refine x_istore h [(5, .int (nI 5)), (4, .int (nI 0)), (0, .ref (g.1 158)), (1, .int (nI 5)), (2, .int (nI 3)), (3, .int (nI 0))] dX6_ordered_4 (by decide) rfl ?_
  refine x_iconst h (nI 0) dX6_ordered_6 (by decide) ?_
  refine x_istore h [(6, .int (nI 0)), (5, .int (nI 5)), (4, .int (nI 0)), (0, .ref (g.1 158)), (1, .int (nI 5)), (2, .int (nI 3)), (3, .int (nI 0))] dX6_ordered_7 (by decide) rfl ?_
  refine x_iconst h (nI 0) dX6_ordered_9 (by decide) ?_
  refine x_istore h [(7, .int (nI 0)), (6, .int (nI 0)), (5, .int (nI 5)), (4, .int (nI 0)), (0, .ref (g.1 158)), (1, .int (nI 5)), (2, .int (nI 3)), (3, .int (nI 0))] dX6_ordered_10 (by decide) rfl ?_
  refine x_iload h 0 dX6_ordered_12 rfl ?_
  refine x_iload_n h 7 dX6_ordered_14 rfl rfl ?_
  refine x_icmp_gt h 110 dX6_ordered_15 (by decide) (fun c => absurd c (by decide)) (fun _ => ?_)
  refine x_iload_n h 6 dX6_ordered_18 rfl rfl ?_
  refine x_iconst h (nI 1) dX6_ordered_19 (by decide) ?_
  refine x_isub h dX6_ordered_20 ?_
  refine x_top (nI 2) (by decide) ?_
  refine x_iload h 0 dX6_ordered_21 rfl ?_
  refine x_isub h dX6_ordered_23 ?_
  refine x_top (nI 2) (by decide) ?_
  refine x_iconst h (nI 2) dX6_ordered_24 (by decide) ?_
  refine x_icmp_ne h 32 dX6_ordered_25 (by decide) (fun c => absurd c (by decide)) (fun _ => ?_)
  refine x_iconst h (nI 2) dX6_ordered_28 (by decide) ?_
  refine x_goto h 33 dX6_ordered_29 (by decide) ?_
  refine x_istore h [(8, .int (nI 2)), (7, .int (nI 0)), (6, .int (nI 0)), (5, .int (nI 5)), (4, .int (nI 0)), (0, .ref (g.1 158)), (1, .int (nI 5)), (2, .int (nI 3)), (3, .int (nI 0))] dX6_ordered_33 (by decide) rfl ?_
  refine x_iload h 3 dX6_ordered_35 rfl ?_
  refine x_iload h 0 dX6_ordered_37 rfl ?_
  refine x_idiv h dX6_ordered_39 (by decide) ?_
  refine x_top (nI 2) (by decide) ?_
  refine x_istore h [(9, .int (nI 2)), (8, .int (nI 2)), (7, .int (nI 0)), (6, .int (nI 0)), (5, .int (nI 5)), (4, .int (nI 0)), (0, .ref (g.1 158)), (1, .int (nI 5)), (2, .int (nI 3)), (3, .int (nI 0))] dX6_ordered_40 (by decide) rfl ?_
  refine x_iload h 4 dX6_ordered_42 rfl ?_
  refine x_iload h 1 dX6_ordered_44 rfl ?_
  refine x_irem h dX6_ordered_46 (by decide) ?_
  refine x_top (nI 1) (by decide) ?_
  refine x_istore h [(5, .int (nI 1)), (9, .int (nI 2)), (8, .int (nI 2)), (7, .int (nI 0)), (6, .int (nI 0)), (4, .int (nI 0)), (0, .ref (g.1 158)), (1, .int (nI 5)), (2, .int (nI 3)), (3, .int (nI 0))] dX6_ordered_47 (by decide) rfl ?_
  refine x_iconst h (nI 0) dX6_ordered_49 (by decide) ?_
  refine x_istore h [(6, .int (nI 0)), (5, .int (nI 1)), (9, .int (nI 2)), (8, .int (nI 2)), (7, .int (nI 0)), (4, .int (nI 0)), (0, .ref (g.1 158)), (1, .int (nI 5)), (2, .int (nI 3)), (3, .int (nI 0))] dX6_ordered_50 (by decide) rfl ?_
  refine x_iload h 5 dX6_ordered_52 rfl ?_
  refine x_iload h 0 dX6_ordered_54 rfl ?_
  refine x_ishr h dX6_ordered_56 ?_
  refine x_top (nI 0) (by decide) ?_
  refine x_iconst h (nI 1) dX6_ordered_57 (by decide) ?_
  refine x_iand h dX6_ordered_58 ?_
  refine x_top (nI 0) (by decide) ?_
  refine x_iconst h (nI 1) dX6_ordered_59 (by decide) ?_
  refine x_icmp_eq h 68 dX6_ordered_60 (by decide) (fun c => absurd c (by decide)) (fun _ => ?_)
  refine x_iload h 2 dX6_ordered_63 rfl ?_
  refine x_if_le h 95 dX6_ordered_65 (by decide) (fun c => absurd c (by decide)) (fun _ => ?_)
  refine x_iload h 2 dX6_ordered_68 rfl ?_
  refine x_iload h 5 dX6_ordered_70 rfl ?_
  refine x_iload h 0 dX6_ordered_72 rfl ?_
  refine x_ishr h dX6_ordered_74 ?_
  refine x_top (nI 0) (by decide) ?_
  refine x_iconst h (nI 1) dX6_ordered_75 (by decide) ?_
  refine x_iand h dX6_ordered_76 ?_
  refine x_top (nI 0) (by decide) ?_
  refine x_iconst h (nI 1) dX6_ordered_77 (by decide) ?_
  refine x_icmp_ne h 85 dX6_ordered_78 (by decide) (fun _ => ?_) (fun c => absurd c (by decide))
  refine x_iconst h (nI 1) dX6_ordered_85 (by decide) ?_
  refine x_isub h dX6_ordered_86 ?_
  refine x_top (nI 1) (by decide) ?_
  refine x_istore h [(9, .int (nI 1)), (6, .int (nI 0)), (5, .int (nI 1)), (8, .int (nI 2)), (7, .int (nI 0)), (4, .int (nI 0)), (0, .ref (g.1 158)), (1, .int (nI 5)), (2, .int (nI 3)), (3, .int (nI 0))] dX6_ordered_87 (by decide) rfl ?_
  refine x_iinc_n h 1 (n := 1) [(6, .int (nI 1)), (9, .int (nI 1)), (5, .int (nI 1)), (8, .int (nI 2)), (7, .int (nI 0)), (4, .int (nI 0)), (0, .ref (g.1 158)), (1, .int (nI 5)), (2, .int (nI 3)), (3, .int (nI 0))] dX6_ordered_89 rfl (by decide) rfl ?_
  refine x_goto h 52 dX6_ordered_92 (by decide) ?_
  refine x_iload h 5 dX6_ordered_52 rfl ?_
  refine x_iload h 0 dX6_ordered_54 rfl ?_
  refine x_ishr h dX6_ordered_56 ?_
  refine x_top (nI 0) (by decide) ?_
  refine x_iconst h (nI 1) dX6_ordered_57 (by decide) ?_
  refine x_iand h dX6_ordered_58 ?_
  refine x_top (nI 0) (by decide) ?_
  refine x_iconst h (nI 1) dX6_ordered_59 (by decide) ?_
  refine x_icmp_eq h 68 dX6_ordered_60 (by decide) (fun c => absurd c (by decide)) (fun _ => ?_)
  refine x_iload h 1 dX6_ordered_63 rfl ?_
  refine x_if_le h 95 dX6_ordered_65 (by decide) (fun c => absurd c (by decide)) (fun _ => ?_)
  refine x_iload h 1 dX6_ordered_68 rfl ?_
  refine x_iload h 5 dX6_ordered_70 rfl ?_
  refine x_iload h 0 dX6_ordered_72 rfl ?_
  refine x_ishr h dX6_ordered_74 ?_
  refine x_top (nI 0) (by decide) ?_
  refine x_iconst h (nI 1) dX6_ordered_75 (by decide) ?_
  refine x_iand h dX6_ordered_76 ?_
  refine x_top (nI 0) (by decide) ?_
  refine x_iconst h (nI 1) dX6_ordered_77 (by decide) ?_
  refine x_icmp_ne h 85 dX6_ordered_78 (by decide) (fun _ => ?_) (fun c => absurd c (by decide))
  refine x_iconst h (nI 1) dX6_ordered_85 (by decide) ?_
  refine x_isub h dX6_ordered_86 ?_
  refine x_top (nI 0) (by decide) ?_
  refine x_istore h [(9, .int (nI 0)), (6, .int (nI 1)), (5, .int (nI 1)), (8, .int (nI 2)), (7, .int (nI 0)), (4, .int (nI 0)), (0, .ref (g.1 158)), (1, .int (nI 5)), (2, .int (nI 3)), (3, .int (nI 0))] dX6_ordered_87 (by decide) rfl ?_
  refine x_iinc_n h 1 (n := 1) [(6, .int (nI 2)), (9, .int (nI 0)), (5, .int (nI 1)), (8, .int (nI 2)), (7, .int (nI 0)), (4, .int (nI 0)), (0, .ref (g.1 158)), (1, .int (nI 5)), (2, .int (nI 3)), (3, .int (nI 0))] dX6_ordered_89 rfl (by decide) rfl ?_
  refine x_goto h 52 dX6_ordered_92 (by decide) ?_
  refine x_iload h 5 dX6_ordered_52 rfl ?_
  refine x_iload h 0 dX6_ordered_54 rfl ?_
  refine x_ishr h dX6_ordered_56 ?_
  refine x_top (nI 0) (by decide) ?_
  refine x_iconst h (nI 1) dX6_ordered_57 (by decide) ?_
  refine x_iand h dX6_ordered_58 ?_
  refine x_top (nI 0) (by decide) ?_
  refine x_iconst h (nI 1) dX6_ordered_59 (by decide) ?_
  refine x_icmp_eq h 68 dX6_ordered_60 (by decide) (fun c => absurd c (by decide)) (fun _ => ?_)
  refine x_iload h 1 dX6_ordered_63 rfl ?_
  refine x_if_le h 95 dX6_ordered_65 (by decide) (fun _ => ?_) (fun c => absurd (by decide) c)
  refine x_iload h 5 dX6_ordered_95 rfl ?_
  refine x_iconst h (nI 1) dX6_ordered_97 (by decide) ?_
  refine x_iload h 0 dX6_ordered_98 rfl ?_
  refine x_ishl h dX6_ordered_100 ?_
  refine x_top (nI 4) (by decide) ?_
  refine x_ior h dX6_ordered_101 ?_
  refine x_top (nI 4) (by decide) ?_
  refine x_istore h [(4, .int (nI 4)), (6, .int (nI 2)), (9, .int (nI 0)), (5, .int (nI 1)), (8, .int (nI 2)), (7, .int (nI 0)), (0, .ref (g.1 158)), (1, .int (nI 5)), (2, .int (nI 3)), (3, .int (nI 0))] dX6_ordered_102 (by decide) rfl ?_
  refine x_iinc_n h 5 (n := 1) [(7, .int (nI 1)), (4, .int (nI 4)), (6, .int (nI 2)), (9, .int (nI 0)), (5, .int (nI 1)), (8, .int (nI 2)), (0, .ref (g.1 158)), (1, .int (nI 5)), (2, .int (nI 3)), (3, .int (nI 0))] dX6_ordered_104 rfl (by decide) rfl ?_
  refine x_goto h 12 dX6_ordered_107 (by decide) ?_
  refine x_iload h 0 dX6_ordered_12 rfl ?_
  refine x_iload_n h 9 dX6_ordered_14 rfl rfl ?_
  refine x_icmp_gt h 110 dX6_ordered_15 (by decide) (fun _ => ?_) (fun c => absurd (by decide) c)
  refine x_aload_n h 6 dX6_ordered_110 rfl rfl ?_
  refine xg_X6_14 h in_X6_ordered_X6 (by decide +kernel) dX6_ordered_111 ?_
  refine x_iload h 2 dX6_ordered_114 rfl ?_
  refine xl_167 h dX6_ordered_116 (by decide) ?_
  exact hret _ _ _ _ _ dX6_ordered_117 (by exact ⟨⟨rfl, rfl⟩, congrArg (M 167) (by decide)⟩)

set_option maxRecDepth 100000 in
set_option maxHeartbeats 4000000 in
theorem c_X6_ordered_351 {l : Launch} {g : Geo} {M : Nat → Nat → Int32} {P : Nat → Nat}  : Met l yX6_ordered wsX6_ordered rmX6_ordered (cPre g [.ref (g.1 158), .int (nI 5), .int (nI 3), .int (nI 1)] M P) (cQi g (fun r M' P' => (P = P' ∧ M = M') ∧ r = M 167 (pmM 3 5 1))) 0 0 (gA g) := by
  refine met_i (cc := cX6_ordered) (maxL := 10) (by decide) rfl ⟨rfl, rfl⟩ (Nat.le_of_ble_eq_true rfl) (fun x hx h hret => ?_)
  replace h : Cxk x g cX6_ordered 10 wsX6_ordered RX6 rmX6_ordered := h
  show X x 0 [(0, .ref (g.1 158)), (1, .int (nI 5)), (2, .int (nI 3)), (3, .int (nI 1))] [] M P
  refine x_iconst h (nI 0) dX6_ordered_0 (by decide) ?_
  refine x_istore h [(4, .int (nI 0)), (0, .ref (g.1 158)), (1, .int (nI 5)), (2, .int (nI 3)), (3, .int (nI 1))] dX6_ordered_1 (by decide) rfl ?_
  refine x_iload_n h 2 dX6_ordered_3 rfl rfl ?_
  refine x_istore h [(5, .int (nI 5)), (4, .int (nI 0)), (0, .ref (g.1 158)), (1, .int (nI 5)), (2, .int (nI 3)), (3, .int (nI 1))] dX6_ordered_4 (by decide) rfl ?_
  refine x_iconst h (nI 0) dX6_ordered_6 (by decide) ?_
  refine x_istore h [(6, .int (nI 0)), (5, .int (nI 5)), (4, .int (nI 0)), (0, .ref (g.1 158)), (1, .int (nI 5)), (2, .int (nI 3)), (3, .int (nI 1))] dX6_ordered_7 (by decide) rfl ?_
  refine x_iconst h (nI 0) dX6_ordered_9 (by decide) ?_
  refine x_istore h [(7, .int (nI 0)), (6, .int (nI 0)), (5, .int (nI 5)), (4, .int (nI 0)), (0, .ref (g.1 158)), (1, .int (nI 5)), (2, .int (nI 3)), (3, .int (nI 1))] dX6_ordered_10 (by decide) rfl ?_
  refine x_iload h 0 dX6_ordered_12 rfl ?_
  refine x_iload_n h 7 dX6_ordered_14 rfl rfl ?_
  refine x_icmp_gt h 110 dX6_ordered_15 (by decide) (fun c => absurd c (by decide)) (fun _ => ?_)
  refine x_iload_n h 6 dX6_ordered_18 rfl rfl ?_
  refine x_iconst h (nI 1) dX6_ordered_19 (by decide) ?_
  refine x_isub h dX6_ordered_20 ?_
  refine x_top (nI 2) (by decide) ?_
  refine x_iload h 0 dX6_ordered_21 rfl ?_
  refine x_isub h dX6_ordered_23 ?_
  refine x_top (nI 2) (by decide) ?_
  refine x_iconst h (nI 2) dX6_ordered_24 (by decide) ?_
  refine x_icmp_ne h 32 dX6_ordered_25 (by decide) (fun c => absurd c (by decide)) (fun _ => ?_)
  refine x_iconst h (nI 2) dX6_ordered_28 (by decide) ?_
  refine x_goto h 33 dX6_ordered_29 (by decide) ?_
  refine x_istore h [(8, .int (nI 2)), (7, .int (nI 0)), (6, .int (nI 0)), (5, .int (nI 5)), (4, .int (nI 0)), (0, .ref (g.1 158)), (1, .int (nI 5)), (2, .int (nI 3)), (3, .int (nI 1))] dX6_ordered_33 (by decide) rfl ?_
  refine x_iload h 3 dX6_ordered_35 rfl ?_
  refine x_iload h 0 dX6_ordered_37 rfl ?_
  refine x_idiv h dX6_ordered_39 (by decide) ?_
  refine x_top (nI 2) (by decide) ?_
  refine x_istore h [(9, .int (nI 2)), (8, .int (nI 2)), (7, .int (nI 0)), (6, .int (nI 0)), (5, .int (nI 5)), (4, .int (nI 0)), (0, .ref (g.1 158)), (1, .int (nI 5)), (2, .int (nI 3)), (3, .int (nI 1))] dX6_ordered_40 (by decide) rfl ?_
  refine x_iload h 4 dX6_ordered_42 rfl ?_
  refine x_iload h 1 dX6_ordered_44 rfl ?_
  refine x_irem h dX6_ordered_46 (by decide) ?_
  refine x_top (nI 1) (by decide) ?_
  refine x_istore h [(5, .int (nI 1)), (9, .int (nI 2)), (8, .int (nI 2)), (7, .int (nI 0)), (6, .int (nI 0)), (4, .int (nI 0)), (0, .ref (g.1 158)), (1, .int (nI 5)), (2, .int (nI 3)), (3, .int (nI 1))] dX6_ordered_47 (by decide) rfl ?_
  refine x_iconst h (nI 0) dX6_ordered_49 (by decide) ?_
  refine x_istore h [(6, .int (nI 0)), (5, .int (nI 1)), (9, .int (nI 2)), (8, .int (nI 2)), (7, .int (nI 0)), (4, .int (nI 0)), (0, .ref (g.1 158)), (1, .int (nI 5)), (2, .int (nI 3)), (3, .int (nI 1))] dX6_ordered_50 (by decide) rfl ?_
  refine x_iload h 5 dX6_ordered_52 rfl ?_
  refine x_iload h 0 dX6_ordered_54 rfl ?_
  refine x_ishr h dX6_ordered_56 ?_
  refine x_top (nI 0) (by decide) ?_
  refine x_iconst h (nI 1) dX6_ordered_57 (by decide) ?_
  refine x_iand h dX6_ordered_58 ?_
  refine x_top (nI 0) (by decide) ?_
  refine x_iconst h (nI 1) dX6_ordered_59 (by decide) ?_
  refine x_icmp_eq h 68 dX6_ordered_60 (by decide) (fun c => absurd c (by decide)) (fun _ => ?_)
  refine x_iload h 2 dX6_ordered_63 rfl ?_
  refine x_if_le h 95 dX6_ordered_65 (by decide) (fun c => absurd c (by decide)) (fun _ => ?_)
  refine x_iload h 2 dX6_ordered_68 rfl ?_
  refine x_iload h 5 dX6_ordered_70 rfl ?_
  refine x_iload h 0 dX6_ordered_72 rfl ?_
  refine x_ishr h dX6_ordered_74 ?_
  refine x_top (nI 0) (by decide) ?_
  refine x_iconst h (nI 1) dX6_ordered_75 (by decide) ?_
  refine x_iand h dX6_ordered_76 ?_
  refine x_top (nI 0) (by decide) ?_
  refine x_iconst h (nI 1) dX6_ordered_77 (by decide) ?_
  refine x_icmp_ne h 85 dX6_ordered_78 (by decide) (fun _ => ?_) (fun c => absurd c (by decide))
  refine x_iconst h (nI 1) dX6_ordered_85 (by decide) ?_
  refine x_isub h dX6_ordered_86 ?_
  refine x_top (nI 1) (by decide) ?_
  refine x_istore h [(9, .int (nI 1)), (6, .int (nI 0)), (5, .int (nI 1)), (8, .int (nI 2)), (7, .int (nI 0)), (4, .int (nI 0)), (0, .ref (g.1 158)), (1, .int (nI 5)), (2, .int (nI 3)), (3, .int (nI 1))] dX6_ordered_87 (by decide) rfl ?_
  refine x_iinc_n h 1 (n := 1) [(6, .int (nI 1)), (9, .int (nI 1)), (5, .int (nI 1)), (8, .int (nI 2)), (7, .int (nI 0)), (4, .int (nI 0)), (0, .ref (g.1 158)), (1, .int (nI 5)), (2, .int (nI 3)), (3, .int (nI 1))] dX6_ordered_89 rfl (by decide) rfl ?_
  refine x_goto h 52 dX6_ordered_92 (by decide) ?_
  refine x_iload h 5 dX6_ordered_52 rfl ?_
  refine x_iload h 0 dX6_ordered_54 rfl ?_
  refine x_ishr h dX6_ordered_56 ?_
  refine x_top (nI 0) (by decide) ?_
  refine x_iconst h (nI 1) dX6_ordered_57 (by decide) ?_
  refine x_iand h dX6_ordered_58 ?_
  refine x_top (nI 0) (by decide) ?_
  refine x_iconst h (nI 1) dX6_ordered_59 (by decide) ?_
  refine x_icmp_eq h 68 dX6_ordered_60 (by decide) (fun c => absurd c (by decide)) (fun _ => ?_)
  refine x_iload h 1 dX6_ordered_63 rfl ?_
  refine x_if_le h 95 dX6_ordered_65 (by decide) (fun c => absurd c (by decide)) (fun _ => ?_)
  refine x_iload h 1 dX6_ordered_68 rfl ?_
  refine x_iload h 5 dX6_ordered_70 rfl ?_
  refine x_iload h 0 dX6_ordered_72 rfl ?_
  refine x_ishr h dX6_ordered_74 ?_
  refine x_top (nI 0) (by decide) ?_
  refine x_iconst h (nI 1) dX6_ordered_75 (by decide) ?_
  refine x_iand h dX6_ordered_76 ?_
  refine x_top (nI 0) (by decide) ?_
  refine x_iconst h (nI 1) dX6_ordered_77 (by decide) ?_
  refine x_icmp_ne h 85 dX6_ordered_78 (by decide) (fun _ => ?_) (fun c => absurd c (by decide))
  refine x_iconst h (nI 1) dX6_ordered_85 (by decide) ?_
  refine x_isub h dX6_ordered_86 ?_
  refine x_top (nI 0) (by decide) ?_
  refine x_istore h [(9, .int (nI 0)), (6, .int (nI 1)), (5, .int (nI 1)), (8, .int (nI 2)), (7, .int (nI 0)), (4, .int (nI 0)), (0, .ref (g.1 158)), (1, .int (nI 5)), (2, .int (nI 3)), (3, .int (nI 1))] dX6_ordered_87 (by decide) rfl ?_
  refine x_iinc_n h 1 (n := 1) [(6, .int (nI 2)), (9, .int (nI 0)), (5, .int (nI 1)), (8, .int (nI 2)), (7, .int (nI 0)), (4, .int (nI 0)), (0, .ref (g.1 158)), (1, .int (nI 5)), (2, .int (nI 3)), (3, .int (nI 1))] dX6_ordered_89 rfl (by decide) rfl ?_
  refine x_goto h 52 dX6_ordered_92 (by decide) ?_
  refine x_iload h 5 dX6_ordered_52 rfl ?_
  refine x_iload h 0 dX6_ordered_54 rfl ?_
  refine x_ishr h dX6_ordered_56 ?_
  refine x_top (nI 0) (by decide) ?_
  refine x_iconst h (nI 1) dX6_ordered_57 (by decide) ?_
  refine x_iand h dX6_ordered_58 ?_
  refine x_top (nI 0) (by decide) ?_
  refine x_iconst h (nI 1) dX6_ordered_59 (by decide) ?_
  refine x_icmp_eq h 68 dX6_ordered_60 (by decide) (fun c => absurd c (by decide)) (fun _ => ?_)
  refine x_iload h 1 dX6_ordered_63 rfl ?_
  refine x_if_le h 95 dX6_ordered_65 (by decide) (fun _ => ?_) (fun c => absurd (by decide) c)
  refine x_iload h 5 dX6_ordered_95 rfl ?_
  refine x_iconst h (nI 1) dX6_ordered_97 (by decide) ?_
  refine x_iload h 0 dX6_ordered_98 rfl ?_
  refine x_ishl h dX6_ordered_100 ?_
  refine x_top (nI 4) (by decide) ?_
  refine x_ior h dX6_ordered_101 ?_
  refine x_top (nI 4) (by decide) ?_
  refine x_istore h [(4, .int (nI 4)), (6, .int (nI 2)), (9, .int (nI 0)), (5, .int (nI 1)), (8, .int (nI 2)), (7, .int (nI 0)), (0, .ref (g.1 158)), (1, .int (nI 5)), (2, .int (nI 3)), (3, .int (nI 1))] dX6_ordered_102 (by decide) rfl ?_
  refine x_iinc_n h 5 (n := 1) [(7, .int (nI 1)), (4, .int (nI 4)), (6, .int (nI 2)), (9, .int (nI 0)), (5, .int (nI 1)), (8, .int (nI 2)), (0, .ref (g.1 158)), (1, .int (nI 5)), (2, .int (nI 3)), (3, .int (nI 1))] dX6_ordered_104 rfl (by decide) rfl ?_
  refine x_goto h 12 dX6_ordered_107 (by decide) ?_
  refine x_iload h 0 dX6_ordered_12 rfl ?_
  refine x_iload_n h 9 dX6_ordered_14 rfl rfl ?_
  refine x_icmp_gt h 110 dX6_ordered_15 (by decide) (fun c => absurd c (by decide)) (fun _ => ?_)
  refine x_iload_n h 8 dX6_ordered_18 rfl rfl ?_
  refine x_iconst h (nI 1) dX6_ordered_19 (by decide) ?_
  refine x_isub h dX6_ordered_20 ?_
  refine x_top (nI 2) (by decide) ?_
  refine x_iload h 0 dX6_ordered_21 rfl ?_
  refine x_isub h dX6_ordered_23 ?_
  refine x_top (nI 1) (by decide) ?_
  refine x_iconst h (nI 2) dX6_ordered_24 (by decide) ?_
  refine x_icmp_ne h 32 dX6_ordered_25 (by decide) (fun _ => ?_) (fun c => absurd c (by decide))
  refine x_iconst h (nI 1) dX6_ordered_32 (by decide) ?_
  refine x_istore h [(8, .int (nI 1)), (7, .int (nI 1)), (4, .int (nI 4)), (6, .int (nI 2)), (9, .int (nI 0)), (5, .int (nI 1)), (0, .ref (g.1 158)), (1, .int (nI 5)), (2, .int (nI 3)), (3, .int (nI 1))] dX6_ordered_33 (by decide) rfl ?_
  refine x_iload h 5 dX6_ordered_35 rfl ?_
  refine x_iload h 0 dX6_ordered_37 rfl ?_
  refine x_idiv h dX6_ordered_39 (by decide) ?_
  refine x_top (nI 1) (by decide) ?_
  refine x_istore h [(9, .int (nI 1)), (8, .int (nI 1)), (7, .int (nI 1)), (4, .int (nI 4)), (6, .int (nI 2)), (5, .int (nI 1)), (0, .ref (g.1 158)), (1, .int (nI 5)), (2, .int (nI 3)), (3, .int (nI 1))] dX6_ordered_40 (by decide) rfl ?_
  refine x_iload h 5 dX6_ordered_42 rfl ?_
  refine x_iload h 1 dX6_ordered_44 rfl ?_
  refine x_irem h dX6_ordered_46 (by decide) ?_
  refine x_top (nI 0) (by decide) ?_
  refine x_istore h [(5, .int (nI 0)), (9, .int (nI 1)), (8, .int (nI 1)), (7, .int (nI 1)), (4, .int (nI 4)), (6, .int (nI 2)), (0, .ref (g.1 158)), (1, .int (nI 5)), (2, .int (nI 3)), (3, .int (nI 1))] dX6_ordered_47 (by decide) rfl ?_
  refine x_iconst h (nI 0) dX6_ordered_49 (by decide) ?_
  refine x_istore h [(6, .int (nI 0)), (5, .int (nI 0)), (9, .int (nI 1)), (8, .int (nI 1)), (7, .int (nI 1)), (4, .int (nI 4)), (0, .ref (g.1 158)), (1, .int (nI 5)), (2, .int (nI 3)), (3, .int (nI 1))] dX6_ordered_50 (by decide) rfl ?_
  refine x_iload h 5 dX6_ordered_52 rfl ?_
  refine x_iload h 0 dX6_ordered_54 rfl ?_
  refine x_ishr h dX6_ordered_56 ?_
  refine x_top (nI 4) (by decide) ?_
  refine x_iconst h (nI 1) dX6_ordered_57 (by decide) ?_
  refine x_iand h dX6_ordered_58 ?_
  refine x_top (nI 0) (by decide) ?_
  refine x_iconst h (nI 1) dX6_ordered_59 (by decide) ?_
  refine x_icmp_eq h 68 dX6_ordered_60 (by decide) (fun c => absurd c (by decide)) (fun _ => ?_)
  refine x_iload h 2 dX6_ordered_63 rfl ?_
  refine x_if_le h 95 dX6_ordered_65 (by decide) (fun c => absurd c (by decide)) (fun _ => ?_)
  refine x_iload h 2 dX6_ordered_68 rfl ?_
  refine x_iload h 5 dX6_ordered_70 rfl ?_
  refine x_iload h 0 dX6_ordered_72 rfl ?_
  refine x_ishr h dX6_ordered_74 ?_
  refine x_top (nI 4) (by decide) ?_
  refine x_iconst h (nI 1) dX6_ordered_75 (by decide) ?_
  refine x_iand h dX6_ordered_76 ?_
  refine x_top (nI 0) (by decide) ?_
  refine x_iconst h (nI 1) dX6_ordered_77 (by decide) ?_
  refine x_icmp_ne h 85 dX6_ordered_78 (by decide) (fun _ => ?_) (fun c => absurd c (by decide))
  refine x_iconst h (nI 1) dX6_ordered_85 (by decide) ?_
  refine x_isub h dX6_ordered_86 ?_
  refine x_top (nI 0) (by decide) ?_
  refine x_istore h [(9, .int (nI 0)), (6, .int (nI 0)), (5, .int (nI 0)), (8, .int (nI 1)), (7, .int (nI 1)), (4, .int (nI 4)), (0, .ref (g.1 158)), (1, .int (nI 5)), (2, .int (nI 3)), (3, .int (nI 1))] dX6_ordered_87 (by decide) rfl ?_
  refine x_iinc_n h 1 (n := 1) [(6, .int (nI 1)), (9, .int (nI 0)), (5, .int (nI 0)), (8, .int (nI 1)), (7, .int (nI 1)), (4, .int (nI 4)), (0, .ref (g.1 158)), (1, .int (nI 5)), (2, .int (nI 3)), (3, .int (nI 1))] dX6_ordered_89 rfl (by decide) rfl ?_
  refine x_goto h 52 dX6_ordered_92 (by decide) ?_
  refine x_iload h 5 dX6_ordered_52 rfl ?_
  refine x_iload h 0 dX6_ordered_54 rfl ?_
  refine x_ishr h dX6_ordered_56 ?_
  refine x_top (nI 2) (by decide) ?_
  refine x_iconst h (nI 1) dX6_ordered_57 (by decide) ?_
  refine x_iand h dX6_ordered_58 ?_
  refine x_top (nI 0) (by decide) ?_
  refine x_iconst h (nI 1) dX6_ordered_59 (by decide) ?_
  refine x_icmp_eq h 68 dX6_ordered_60 (by decide) (fun c => absurd c (by decide)) (fun _ => ?_)
  refine x_iload h 1 dX6_ordered_63 rfl ?_
  refine x_if_le h 95 dX6_ordered_65 (by decide) (fun _ => ?_) (fun c => absurd (by decide) c)
  refine x_iload h 5 dX6_ordered_95 rfl ?_
  refine x_iconst h (nI 1) dX6_ordered_97 (by decide) ?_
  refine x_iload h 0 dX6_ordered_98 rfl ?_
  refine x_ishl h dX6_ordered_100 ?_
  refine x_top (nI 2) (by decide) ?_
  refine x_ior h dX6_ordered_101 ?_
  refine x_top (nI 6) (by decide) ?_
  refine x_istore h [(4, .int (nI 6)), (6, .int (nI 1)), (9, .int (nI 0)), (5, .int (nI 0)), (8, .int (nI 1)), (7, .int (nI 1)), (0, .ref (g.1 158)), (1, .int (nI 5)), (2, .int (nI 3)), (3, .int (nI 1))] dX6_ordered_102 (by decide) rfl ?_
  refine x_iinc_n h 5 (n := 1) [(7, .int (nI 2)), (4, .int (nI 6)), (6, .int (nI 1)), (9, .int (nI 0)), (5, .int (nI 0)), (8, .int (nI 1)), (0, .ref (g.1 158)), (1, .int (nI 5)), (2, .int (nI 3)), (3, .int (nI 1))] dX6_ordered_104 rfl (by decide) rfl ?_
  refine x_goto h 12 dX6_ordered_107 (by decide) ?_
  refine x_iload h 0 dX6_ordered_12 rfl ?_
  refine x_iload_n h 9 dX6_ordered_14 rfl rfl ?_
  refine x_icmp_gt h 110 dX6_ordered_15 (by decide) (fun _ => ?_) (fun c => absurd (by decide) c)
  refine x_aload_n h 6 dX6_ordered_110 rfl rfl ?_
  refine xg_X6_14 h in_X6_ordered_X6 (by decide +kernel) dX6_ordered_111 ?_
  refine x_iload h 2 dX6_ordered_114 rfl ?_
  refine xl_167 h dX6_ordered_116 (by decide) ?_
  exact hret _ _ _ _ _ dX6_ordered_117 (by exact ⟨⟨rfl, rfl⟩, congrArg (M 167) (by decide)⟩)

set_option maxRecDepth 100000 in
set_option maxHeartbeats 4000000 in
theorem c_X6_ordered_352 {l : Launch} {g : Geo} {M : Nat → Nat → Int32} {P : Nat → Nat}  : Met l yX6_ordered wsX6_ordered rmX6_ordered (cPre g [.ref (g.1 158), .int (nI 5), .int (nI 3), .int (nI 2)] M P) (cQi g (fun r M' P' => (P = P' ∧ M = M') ∧ r = M 167 (pmM 3 5 2))) 0 0 (gA g) := by
  refine met_i (cc := cX6_ordered) (maxL := 10) (by decide) rfl ⟨rfl, rfl⟩ (Nat.le_of_ble_eq_true rfl) (fun x hx h hret => ?_)
  replace h : Cxk x g cX6_ordered 10 wsX6_ordered RX6 rmX6_ordered := h
  show X x 0 [(0, .ref (g.1 158)), (1, .int (nI 5)), (2, .int (nI 3)), (3, .int (nI 2))] [] M P
  refine x_iconst h (nI 0) dX6_ordered_0 (by decide) ?_
  refine x_istore h [(4, .int (nI 0)), (0, .ref (g.1 158)), (1, .int (nI 5)), (2, .int (nI 3)), (3, .int (nI 2))] dX6_ordered_1 (by decide) rfl ?_
  refine x_iload_n h 2 dX6_ordered_3 rfl rfl ?_
  refine x_istore h [(5, .int (nI 5)), (4, .int (nI 0)), (0, .ref (g.1 158)), (1, .int (nI 5)), (2, .int (nI 3)), (3, .int (nI 2))] dX6_ordered_4 (by decide) rfl ?_
  refine x_iconst h (nI 0) dX6_ordered_6 (by decide) ?_
  refine x_istore h [(6, .int (nI 0)), (5, .int (nI 5)), (4, .int (nI 0)), (0, .ref (g.1 158)), (1, .int (nI 5)), (2, .int (nI 3)), (3, .int (nI 2))] dX6_ordered_7 (by decide) rfl ?_
  refine x_iconst h (nI 0) dX6_ordered_9 (by decide) ?_
  refine x_istore h [(7, .int (nI 0)), (6, .int (nI 0)), (5, .int (nI 5)), (4, .int (nI 0)), (0, .ref (g.1 158)), (1, .int (nI 5)), (2, .int (nI 3)), (3, .int (nI 2))] dX6_ordered_10 (by decide) rfl ?_
  refine x_iload h 0 dX6_ordered_12 rfl ?_
  refine x_iload_n h 7 dX6_ordered_14 rfl rfl ?_
  refine x_icmp_gt h 110 dX6_ordered_15 (by decide) (fun c => absurd c (by decide)) (fun _ => ?_)
  refine x_iload_n h 6 dX6_ordered_18 rfl rfl ?_
  refine x_iconst h (nI 1) dX6_ordered_19 (by decide) ?_
  refine x_isub h dX6_ordered_20 ?_
  refine x_top (nI 2) (by decide) ?_
  refine x_iload h 0 dX6_ordered_21 rfl ?_
  refine x_isub h dX6_ordered_23 ?_
  refine x_top (nI 2) (by decide) ?_
  refine x_iconst h (nI 2) dX6_ordered_24 (by decide) ?_
  refine x_icmp_ne h 32 dX6_ordered_25 (by decide) (fun c => absurd c (by decide)) (fun _ => ?_)
  refine x_iconst h (nI 2) dX6_ordered_28 (by decide) ?_
  refine x_goto h 33 dX6_ordered_29 (by decide) ?_
  refine x_istore h [(8, .int (nI 2)), (7, .int (nI 0)), (6, .int (nI 0)), (5, .int (nI 5)), (4, .int (nI 0)), (0, .ref (g.1 158)), (1, .int (nI 5)), (2, .int (nI 3)), (3, .int (nI 2))] dX6_ordered_33 (by decide) rfl ?_
  refine x_iload h 3 dX6_ordered_35 rfl ?_
  refine x_iload h 0 dX6_ordered_37 rfl ?_
  refine x_idiv h dX6_ordered_39 (by decide) ?_
  refine x_top (nI 2) (by decide) ?_
  refine x_istore h [(9, .int (nI 2)), (8, .int (nI 2)), (7, .int (nI 0)), (6, .int (nI 0)), (5, .int (nI 5)), (4, .int (nI 0)), (0, .ref (g.1 158)), (1, .int (nI 5)), (2, .int (nI 3)), (3, .int (nI 2))] dX6_ordered_40 (by decide) rfl ?_
  refine x_iload h 4 dX6_ordered_42 rfl ?_
  refine x_iload h 1 dX6_ordered_44 rfl ?_
  refine x_irem h dX6_ordered_46 (by decide) ?_
  refine x_top (nI 1) (by decide) ?_
  refine x_istore h [(5, .int (nI 1)), (9, .int (nI 2)), (8, .int (nI 2)), (7, .int (nI 0)), (6, .int (nI 0)), (4, .int (nI 0)), (0, .ref (g.1 158)), (1, .int (nI 5)), (2, .int (nI 3)), (3, .int (nI 2))] dX6_ordered_47 (by decide) rfl ?_
  refine x_iconst h (nI 0) dX6_ordered_49 (by decide) ?_
  refine x_istore h [(6, .int (nI 0)), (5, .int (nI 1)), (9, .int (nI 2)), (8, .int (nI 2)), (7, .int (nI 0)), (4, .int (nI 0)), (0, .ref (g.1 158)), (1, .int (nI 5)), (2, .int (nI 3)), (3, .int (nI 2))] dX6_ordered_50 (by decide) rfl ?_
  refine x_iload h 5 dX6_ordered_52 rfl ?_
  refine x_iload h 0 dX6_ordered_54 rfl ?_
  refine x_ishr h dX6_ordered_56 ?_
  refine x_top (nI 0) (by decide) ?_
  refine x_iconst h (nI 1) dX6_ordered_57 (by decide) ?_
  refine x_iand h dX6_ordered_58 ?_
  refine x_top (nI 0) (by decide) ?_
  refine x_iconst h (nI 1) dX6_ordered_59 (by decide) ?_
  refine x_icmp_eq h 68 dX6_ordered_60 (by decide) (fun c => absurd c (by decide)) (fun _ => ?_)
  refine x_iload h 2 dX6_ordered_63 rfl ?_
  refine x_if_le h 95 dX6_ordered_65 (by decide) (fun c => absurd c (by decide)) (fun _ => ?_)
  refine x_iload h 2 dX6_ordered_68 rfl ?_
  refine x_iload h 5 dX6_ordered_70 rfl ?_
  refine x_iload h 0 dX6_ordered_72 rfl ?_
  refine x_ishr h dX6_ordered_74 ?_
  refine x_top (nI 0) (by decide) ?_
  refine x_iconst h (nI 1) dX6_ordered_75 (by decide) ?_
  refine x_iand h dX6_ordered_76 ?_
  refine x_top (nI 0) (by decide) ?_
  refine x_iconst h (nI 1) dX6_ordered_77 (by decide) ?_
  refine x_icmp_ne h 85 dX6_ordered_78 (by decide) (fun _ => ?_) (fun c => absurd c (by decide))
  refine x_iconst h (nI 1) dX6_ordered_85 (by decide) ?_
  refine x_isub h dX6_ordered_86 ?_
  refine x_top (nI 1) (by decide) ?_
  refine x_istore h [(9, .int (nI 1)), (6, .int (nI 0)), (5, .int (nI 1)), (8, .int (nI 2)), (7, .int (nI 0)), (4, .int (nI 0)), (0, .ref (g.1 158)), (1, .int (nI 5)), (2, .int (nI 3)), (3, .int (nI 2))] dX6_ordered_87 (by decide) rfl ?_
  refine x_iinc_n h 1 (n := 1) [(6, .int (nI 1)), (9, .int (nI 1)), (5, .int (nI 1)), (8, .int (nI 2)), (7, .int (nI 0)), (4, .int (nI 0)), (0, .ref (g.1 158)), (1, .int (nI 5)), (2, .int (nI 3)), (3, .int (nI 2))] dX6_ordered_89 rfl (by decide) rfl ?_
  refine x_goto h 52 dX6_ordered_92 (by decide) ?_
  refine x_iload h 5 dX6_ordered_52 rfl ?_
  refine x_iload h 0 dX6_ordered_54 rfl ?_
  refine x_ishr h dX6_ordered_56 ?_
  refine x_top (nI 0) (by decide) ?_
  refine x_iconst h (nI 1) dX6_ordered_57 (by decide) ?_
  refine x_iand h dX6_ordered_58 ?_
  refine x_top (nI 0) (by decide) ?_
  refine x_iconst h (nI 1) dX6_ordered_59 (by decide) ?_
  refine x_icmp_eq h 68 dX6_ordered_60 (by decide) (fun c => absurd c (by decide)) (fun _ => ?_)
  refine x_iload h 1 dX6_ordered_63 rfl ?_
  refine x_if_le h 95 dX6_ordered_65 (by decide) (fun c => absurd c (by decide)) (fun _ => ?_)
  refine x_iload h 1 dX6_ordered_68 rfl ?_
  refine x_iload h 5 dX6_ordered_70 rfl ?_
  refine x_iload h 0 dX6_ordered_72 rfl ?_
  refine x_ishr h dX6_ordered_74 ?_
  refine x_top (nI 0) (by decide) ?_
  refine x_iconst h (nI 1) dX6_ordered_75 (by decide) ?_
  refine x_iand h dX6_ordered_76 ?_
  refine x_top (nI 0) (by decide) ?_
  refine x_iconst h (nI 1) dX6_ordered_77 (by decide) ?_
  refine x_icmp_ne h 85 dX6_ordered_78 (by decide) (fun _ => ?_) (fun c => absurd c (by decide))
  refine x_iconst h (nI 1) dX6_ordered_85 (by decide) ?_
  refine x_isub h dX6_ordered_86 ?_
  refine x_top (nI 0) (by decide) ?_
  refine x_istore h [(9, .int (nI 0)), (6, .int (nI 1)), (5, .int (nI 1)), (8, .int (nI 2)), (7, .int (nI 0)), (4, .int (nI 0)), (0, .ref (g.1 158)), (1, .int (nI 5)), (2, .int (nI 3)), (3, .int (nI 2))] dX6_ordered_87 (by decide) rfl ?_
  refine x_iinc_n h 1 (n := 1) [(6, .int (nI 2)), (9, .int (nI 0)), (5, .int (nI 1)), (8, .int (nI 2)), (7, .int (nI 0)), (4, .int (nI 0)), (0, .ref (g.1 158)), (1, .int (nI 5)), (2, .int (nI 3)), (3, .int (nI 2))] dX6_ordered_89 rfl (by decide) rfl ?_
  refine x_goto h 52 dX6_ordered_92 (by decide) ?_
  refine x_iload h 5 dX6_ordered_52 rfl ?_
  refine x_iload h 0 dX6_ordered_54 rfl ?_
  refine x_ishr h dX6_ordered_56 ?_
  refine x_top (nI 0) (by decide) ?_
  refine x_iconst h (nI 1) dX6_ordered_57 (by decide) ?_
  refine x_iand h dX6_ordered_58 ?_
  refine x_top (nI 0) (by decide) ?_
  refine x_iconst h (nI 1) dX6_ordered_59 (by decide) ?_
  refine x_icmp_eq h 68 dX6_ordered_60 (by decide) (fun c => absurd c (by decide)) (fun _ => ?_)
  refine x_iload h 1 dX6_ordered_63 rfl ?_
  refine x_if_le h 95 dX6_ordered_65 (by decide) (fun _ => ?_) (fun c => absurd (by decide) c)
  refine x_iload h 5 dX6_ordered_95 rfl ?_
  refine x_iconst h (nI 1) dX6_ordered_97 (by decide) ?_
  refine x_iload h 0 dX6_ordered_98 rfl ?_
  refine x_ishl h dX6_ordered_100 ?_
  refine x_top (nI 4) (by decide) ?_
  refine x_ior h dX6_ordered_101 ?_
  refine x_top (nI 4) (by decide) ?_
  refine x_istore h [(4, .int (nI 4)), (6, .int (nI 2)), (9, .int (nI 0)), (5, .int (nI 1)), (8, .int (nI 2)), (7, .int (nI 0)), (0, .ref (g.1 158)), (1, .int (nI 5)), (2, .int (nI 3)), (3, .int (nI 2))] dX6_ordered_102 (by decide) rfl ?_
  refine x_iinc_n h 5 (n := 1) [(7, .int (nI 1)), (4, .int (nI 4)), (6, .int (nI 2)), (9, .int (nI 0)), (5, .int (nI 1)), (8, .int (nI 2)), (0, .ref (g.1 158)), (1, .int (nI 5)), (2, .int (nI 3)), (3, .int (nI 2))] dX6_ordered_104 rfl (by decide) rfl ?_
  refine x_goto h 12 dX6_ordered_107 (by decide) ?_
  refine x_iload h 0 dX6_ordered_12 rfl ?_
  refine x_iload_n h 9 dX6_ordered_14 rfl rfl ?_
  refine x_icmp_gt h 110 dX6_ordered_15 (by decide) (fun c => absurd c (by decide)) (fun _ => ?_)
  refine x_iload_n h 8 dX6_ordered_18 rfl rfl ?_
  refine x_iconst h (nI 1) dX6_ordered_19 (by decide) ?_
  refine x_isub h dX6_ordered_20 ?_
  refine x_top (nI 2) (by decide) ?_
  refine x_iload h 0 dX6_ordered_21 rfl ?_
  refine x_isub h dX6_ordered_23 ?_
  refine x_top (nI 1) (by decide) ?_
  refine x_iconst h (nI 2) dX6_ordered_24 (by decide) ?_
  refine x_icmp_ne h 32 dX6_ordered_25 (by decide) (fun _ => ?_) (fun c => absurd c (by decide))
  refine x_iconst h (nI 1) dX6_ordered_32 (by decide) ?_
  refine x_istore h [(8, .int (nI 1)), (7, .int (nI 1)), (4, .int (nI 4)), (6, .int (nI 2)), (9, .int (nI 0)), (5, .int (nI 1)), (0, .ref (g.1 158)), (1, .int (nI 5)), (2, .int (nI 3)), (3, .int (nI 2))] dX6_ordered_33 (by decide) rfl ?_
  refine x_iload h 5 dX6_ordered_35 rfl ?_
  refine x_iload h 0 dX6_ordered_37 rfl ?_
  refine x_idiv h dX6_ordered_39 (by decide) ?_
  refine x_top (nI 1) (by decide) ?_
  refine x_istore h [(9, .int (nI 1)), (8, .int (nI 1)), (7, .int (nI 1)), (4, .int (nI 4)), (6, .int (nI 2)), (5, .int (nI 1)), (0, .ref (g.1 158)), (1, .int (nI 5)), (2, .int (nI 3)), (3, .int (nI 2))] dX6_ordered_40 (by decide) rfl ?_
  refine x_iload h 5 dX6_ordered_42 rfl ?_
  refine x_iload h 1 dX6_ordered_44 rfl ?_
  refine x_irem h dX6_ordered_46 (by decide) ?_
  refine x_top (nI 0) (by decide) ?_
  refine x_istore h [(5, .int (nI 0)), (9, .int (nI 1)), (8, .int (nI 1)), (7, .int (nI 1)), (4, .int (nI 4)), (6, .int (nI 2)), (0, .ref (g.1 158)), (1, .int (nI 5)), (2, .int (nI 3)), (3, .int (nI 2))] dX6_ordered_47 (by decide) rfl ?_
  refine x_iconst h (nI 0) dX6_ordered_49 (by decide) ?_
  refine x_istore h [(6, .int (nI 0)), (5, .int (nI 0)), (9, .int (nI 1)), (8, .int (nI 1)), (7, .int (nI 1)), (4, .int (nI 4)), (0, .ref (g.1 158)), (1, .int (nI 5)), (2, .int (nI 3)), (3, .int (nI 2))] dX6_ordered_50 (by decide) rfl ?_
  refine x_iload h 5 dX6_ordered_52 rfl ?_
  refine x_iload h 0 dX6_ordered_54 rfl ?_
  refine x_ishr h dX6_ordered_56 ?_
  refine x_top (nI 4) (by decide) ?_
  refine x_iconst h (nI 1) dX6_ordered_57 (by decide) ?_
  refine x_iand h dX6_ordered_58 ?_
  refine x_top (nI 0) (by decide) ?_
  refine x_iconst h (nI 1) dX6_ordered_59 (by decide) ?_
  refine x_icmp_eq h 68 dX6_ordered_60 (by decide) (fun c => absurd c (by decide)) (fun _ => ?_)
  refine x_iload h 2 dX6_ordered_63 rfl ?_
  refine x_if_le h 95 dX6_ordered_65 (by decide) (fun c => absurd c (by decide)) (fun _ => ?_)
  refine x_iload h 2 dX6_ordered_68 rfl ?_
  refine x_iload h 5 dX6_ordered_70 rfl ?_
  refine x_iload h 0 dX6_ordered_72 rfl ?_
  refine x_ishr h dX6_ordered_74 ?_
  refine x_top (nI 4) (by decide) ?_
  refine x_iconst h (nI 1) dX6_ordered_75 (by decide) ?_
  refine x_iand h dX6_ordered_76 ?_
  refine x_top (nI 0) (by decide) ?_
  refine x_iconst h (nI 1) dX6_ordered_77 (by decide) ?_
  refine x_icmp_ne h 85 dX6_ordered_78 (by decide) (fun _ => ?_) (fun c => absurd c (by decide))
  refine x_iconst h (nI 1) dX6_ordered_85 (by decide) ?_
  refine x_isub h dX6_ordered_86 ?_
  refine x_top (nI 0) (by decide) ?_
  refine x_istore h [(9, .int (nI 0)), (6, .int (nI 0)), (5, .int (nI 0)), (8, .int (nI 1)), (7, .int (nI 1)), (4, .int (nI 4)), (0, .ref (g.1 158)), (1, .int (nI 5)), (2, .int (nI 3)), (3, .int (nI 2))] dX6_ordered_87 (by decide) rfl ?_
  refine x_iinc_n h 1 (n := 1) [(6, .int (nI 1)), (9, .int (nI 0)), (5, .int (nI 0)), (8, .int (nI 1)), (7, .int (nI 1)), (4, .int (nI 4)), (0, .ref (g.1 158)), (1, .int (nI 5)), (2, .int (nI 3)), (3, .int (nI 2))] dX6_ordered_89 rfl (by decide) rfl ?_
  refine x_goto h 52 dX6_ordered_92 (by decide) ?_
  refine x_iload h 5 dX6_ordered_52 rfl ?_
  refine x_iload h 0 dX6_ordered_54 rfl ?_
  refine x_ishr h dX6_ordered_56 ?_
  refine x_top (nI 2) (by decide) ?_
  refine x_iconst h (nI 1) dX6_ordered_57 (by decide) ?_
  refine x_iand h dX6_ordered_58 ?_
  refine x_top (nI 0) (by decide) ?_
  refine x_iconst h (nI 1) dX6_ordered_59 (by decide) ?_
  refine x_icmp_eq h 68 dX6_ordered_60 (by decide) (fun c => absurd c (by decide)) (fun _ => ?_)
  refine x_iload h 1 dX6_ordered_63 rfl ?_
  refine x_if_le h 95 dX6_ordered_65 (by decide) (fun _ => ?_) (fun c => absurd (by decide) c)
  refine x_iload h 5 dX6_ordered_95 rfl ?_
  refine x_iconst h (nI 1) dX6_ordered_97 (by decide) ?_
  refine x_iload h 0 dX6_ordered_98 rfl ?_
  refine x_ishl h dX6_ordered_100 ?_
  refine x_top (nI 2) (by decide) ?_
  refine x_ior h dX6_ordered_101 ?_
  refine x_top (nI 6) (by decide) ?_
  refine x_istore h [(4, .int (nI 6)), (6, .int (nI 1)), (9, .int (nI 0)), (5, .int (nI 0)), (8, .int (nI 1)), (7, .int (nI 1)), (0, .ref (g.1 158)), (1, .int (nI 5)), (2, .int (nI 3)), (3, .int (nI 2))] dX6_ordered_102 (by decide) rfl ?_
  refine x_iinc_n h 5 (n := 1) [(7, .int (nI 2)), (4, .int (nI 6)), (6, .int (nI 1)), (9, .int (nI 0)), (5, .int (nI 0)), (8, .int (nI 1)), (0, .ref (g.1 158)), (1, .int (nI 5)), (2, .int (nI 3)), (3, .int (nI 2))] dX6_ordered_104 rfl (by decide) rfl ?_
  refine x_goto h 12 dX6_ordered_107 (by decide) ?_
  refine x_iload h 0 dX6_ordered_12 rfl ?_
  refine x_iload_n h 9 dX6_ordered_14 rfl rfl ?_
  refine x_icmp_gt h 110 dX6_ordered_15 (by decide) (fun c => absurd c (by decide)) (fun _ => ?_)
  refine x_iload_n h 8 dX6_ordered_18 rfl rfl ?_
  refine x_iconst h (nI 1) dX6_ordered_19 (by decide) ?_
  refine x_isub h dX6_ordered_20 ?_
  refine x_top (nI 2) (by decide) ?_
  refine x_iload h 0 dX6_ordered_21 rfl ?_
  refine x_isub h dX6_ordered_23 ?_
  refine x_top (nI 0) (by decide) ?_
  refine x_iconst h (nI 2) dX6_ordered_24 (by decide) ?_
  refine x_icmp_ne h 32 dX6_ordered_25 (by decide) (fun _ => ?_) (fun c => absurd c (by decide))
  refine x_iconst h (nI 1) dX6_ordered_32 (by decide) ?_
  refine x_istore h [(8, .int (nI 1)), (7, .int (nI 2)), (4, .int (nI 6)), (6, .int (nI 1)), (9, .int (nI 0)), (5, .int (nI 0)), (0, .ref (g.1 158)), (1, .int (nI 5)), (2, .int (nI 3)), (3, .int (nI 2))] dX6_ordered_33 (by decide) rfl ?_
  refine x_iload h 5 dX6_ordered_35 rfl ?_
  refine x_iload h 0 dX6_ordered_37 rfl ?_
  refine x_idiv h dX6_ordered_39 (by decide) ?_
  refine x_top (nI 0) (by decide) ?_
  refine x_istore h [(9, .int (nI 0)), (8, .int (nI 1)), (7, .int (nI 2)), (4, .int (nI 6)), (6, .int (nI 1)), (5, .int (nI 0)), (0, .ref (g.1 158)), (1, .int (nI 5)), (2, .int (nI 3)), (3, .int (nI 2))] dX6_ordered_40 (by decide) rfl ?_
  refine x_iload h 5 dX6_ordered_42 rfl ?_
  refine x_iload h 1 dX6_ordered_44 rfl ?_
  refine x_irem h dX6_ordered_46 (by decide) ?_
  refine x_top (nI 0) (by decide) ?_
  refine x_istore h [(5, .int (nI 0)), (9, .int (nI 0)), (8, .int (nI 1)), (7, .int (nI 2)), (4, .int (nI 6)), (6, .int (nI 1)), (0, .ref (g.1 158)), (1, .int (nI 5)), (2, .int (nI 3)), (3, .int (nI 2))] dX6_ordered_47 (by decide) rfl ?_
  refine x_iconst h (nI 0) dX6_ordered_49 (by decide) ?_
  refine x_istore h [(6, .int (nI 0)), (5, .int (nI 0)), (9, .int (nI 0)), (8, .int (nI 1)), (7, .int (nI 2)), (4, .int (nI 6)), (0, .ref (g.1 158)), (1, .int (nI 5)), (2, .int (nI 3)), (3, .int (nI 2))] dX6_ordered_50 (by decide) rfl ?_
  refine x_iload h 5 dX6_ordered_52 rfl ?_
  refine x_iload h 0 dX6_ordered_54 rfl ?_
  refine x_ishr h dX6_ordered_56 ?_
  refine x_top (nI 6) (by decide) ?_
  refine x_iconst h (nI 1) dX6_ordered_57 (by decide) ?_
  refine x_iand h dX6_ordered_58 ?_
  refine x_top (nI 0) (by decide) ?_
  refine x_iconst h (nI 1) dX6_ordered_59 (by decide) ?_
  refine x_icmp_eq h 68 dX6_ordered_60 (by decide) (fun c => absurd c (by decide)) (fun _ => ?_)
  refine x_iload h 2 dX6_ordered_63 rfl ?_
  refine x_if_le h 95 dX6_ordered_65 (by decide) (fun _ => ?_) (fun c => absurd (by decide) c)
  refine x_iload h 5 dX6_ordered_95 rfl ?_
  refine x_iconst h (nI 1) dX6_ordered_97 (by decide) ?_
  refine x_iload h 0 dX6_ordered_98 rfl ?_
  refine x_ishl h dX6_ordered_100 ?_
  refine x_top (nI 1) (by decide) ?_
  refine x_ior h dX6_ordered_101 ?_
  refine x_top (nI 7) (by decide) ?_
  refine x_istore h [(4, .int (nI 7)), (6, .int (nI 0)), (5, .int (nI 0)), (9, .int (nI 0)), (8, .int (nI 1)), (7, .int (nI 2)), (0, .ref (g.1 158)), (1, .int (nI 5)), (2, .int (nI 3)), (3, .int (nI 2))] dX6_ordered_102 (by decide) rfl ?_
  refine x_iinc_n h 5 (n := 1) [(7, .int (nI 3)), (4, .int (nI 7)), (6, .int (nI 0)), (5, .int (nI 0)), (9, .int (nI 0)), (8, .int (nI 1)), (0, .ref (g.1 158)), (1, .int (nI 5)), (2, .int (nI 3)), (3, .int (nI 2))] dX6_ordered_104 rfl (by decide) rfl ?_
  refine x_goto h 12 dX6_ordered_107 (by decide) ?_
  refine x_iload h 0 dX6_ordered_12 rfl ?_
  refine x_iload_n h 9 dX6_ordered_14 rfl rfl ?_
  refine x_icmp_gt h 110 dX6_ordered_15 (by decide) (fun _ => ?_) (fun c => absurd (by decide) c)
  refine x_aload_n h 6 dX6_ordered_110 rfl rfl ?_
  refine xg_X6_14 h in_X6_ordered_X6 (by decide +kernel) dX6_ordered_111 ?_
  refine x_iload h 2 dX6_ordered_114 rfl ?_
  refine xl_167 h dX6_ordered_116 (by decide) ?_
  exact hret _ _ _ _ _ dX6_ordered_117 (by exact ⟨⟨rfl, rfl⟩, congrArg (M 167) (by decide)⟩)
theorem c_X6_ordered {l : Launch} {g : Geo} {M : Nat → Nat → Int32} {P : Nat → Nat} {mn od k : Nat} (hod : OdR mn od) (hk : k < mn) : Met l yX6_ordered wsX6_ordered rmX6_ordered (cPre g [.ref (g.1 (158)), .int (nI od), .int (nI mn), .int (nI k)] M P) (cQi g (fun r M' P' => (P = P' ∧ M = M') ∧ r = M 167 (pmM mn od k))) 0 0 (gA g) := by
  rcases hod with ⟨rfl, h⟩ | ⟨rfl, h⟩ | ⟨rfl, h⟩
  · rcases (show od = 0 ∨ od = 1 ∨ od = 2 ∨ od = 3 ∨ od = 4 ∨ od = 5 by omega) with rfl | rfl | rfl | rfl | rfl | rfl
    · rcases (show k = 0 ∨ k = 1 ∨ k = 2 by omega) with rfl | rfl | rfl
      · exact c_X6_ordered_300
      · exact c_X6_ordered_301
      · exact c_X6_ordered_302
    · rcases (show k = 0 ∨ k = 1 ∨ k = 2 by omega) with rfl | rfl | rfl
      · exact c_X6_ordered_310
      · exact c_X6_ordered_311
      · exact c_X6_ordered_312
    · rcases (show k = 0 ∨ k = 1 ∨ k = 2 by omega) with rfl | rfl | rfl
      · exact c_X6_ordered_320
      · exact c_X6_ordered_321
      · exact c_X6_ordered_322
    · rcases (show k = 0 ∨ k = 1 ∨ k = 2 by omega) with rfl | rfl | rfl
      · exact c_X6_ordered_330
      · exact c_X6_ordered_331
      · exact c_X6_ordered_332
    · rcases (show k = 0 ∨ k = 1 ∨ k = 2 by omega) with rfl | rfl | rfl
      · exact c_X6_ordered_340
      · exact c_X6_ordered_341
      · exact c_X6_ordered_342
    · rcases (show k = 0 ∨ k = 1 ∨ k = 2 by omega) with rfl | rfl | rfl
      · exact c_X6_ordered_350
      · exact c_X6_ordered_351
      · exact c_X6_ordered_352
  · rcases (show od = 0 ∨ od = 1 by omega) with rfl | rfl
    · rcases (show k = 0 ∨ k = 1 by omega) with rfl | rfl
      · exact c_X6_ordered_200
      · exact c_X6_ordered_201
    · rcases (show k = 0 ∨ k = 1 by omega) with rfl | rfl
      · exact c_X6_ordered_210
      · exact c_X6_ordered_211
  · obtain rfl : od = 0 := by omega
    obtain rfl : k = 0 := by omega
    exact c_X6_ordered_100
