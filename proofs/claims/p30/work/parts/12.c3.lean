section COPY
variable {x : Ctx} {g : Geo} {cc : ByteArray} {nL : Nat} {Ts : List Cond} {own : String} {rm : Room} {pc index : Nat} {lv : List (Nat × Value)} {st : List Value} {M : Nat → Nat → Int32} {P : Nat → Nat} {c d : Nat}
/-- System.arraycopy of whole rows of ints between two chips -/
theorem x_copyc (h : Cxk x g cc nL Ts own rm) (o L b : Nat) (hc : c < 6) (hd6 : d < 6) (ho : o < 24) (hL : L < 2 ^ 31) (hE1 : enc g M P (24 * d + o) = .inl (g.2.2.1 0, L, .inl (fun j => if j < L then M d (b + j) else 0))) (hE2 : enc g M P (24 * c + o) = .inl (g.2.2.1 0, L, .inl (fun j => if j < L then M c (b + j) else 0))) (hdep : ∀ j, (b ≤ j ∧ j < b + L) → eDep o j) (heq : ∀ X : Nat → Int32, eChip g X c o = .inl (g.2.2.1 0, L, .inl (fun j => if j < L then X (b + j) else 0)))
    (hw : Cond.methodLink own index arraycopyName ∈ Ts ∧ Cond.native arraycopyName ∈ Ts ∧ Cond.static arraycopyName ∈ Ts ∧ Cond.initialized "java/lang/System" ∈ Ts) (hR : 1 ≤ rm.frames ∧ (st.map fun v => v.category).sum + (nativeFrameWords "java/lang/System" "arraycopy" 5 + 11) ≤ rm.locals) (hdg : decode cc pc = .ok (.invokestatic index, 3))
    (kk : X x (pc + 3) lv st (va_up M c (fun j => if b ≤ j ∧ j < b + L then M d j else M c j)) P) : X x pc lv (.int (nI L) :: .int (nI 0) :: .ref (g.1 (24 * c + o)) :: .int (nI 0) :: .ref (g.1 (24 * d + o)) :: st) M P := by
  have hU : va_up (enc g M P) (24 * c + o) (.inl (g.2.2.1 0, L, .inl (va_cpy (fun j => if j < L then M d (b + j) else 0) (fun j => if j < L then M c (b + j) else 0) 0 0 L))) = enc g (va_up M c (fun j => if b ≤ j ∧ j < b + L then M d j else M c j)) P := by
    refine enc_crow g M P hc ho (fun j hj => if_neg (fun e => hj (hdep j e))) ?_
    rw [heq]
    have e : (fun j => if j < L then (fun j => if b ≤ j ∧ j < b + L then M d j else M c j) (b + j) else 0) = va_cpy (fun j => if j < L then M d (b + j) else 0) (fun j => if j < L then M c (b + j) else 0) 0 0 L := by
      funext j
      unfold va_cpy
      by_cases hj : j < L
      · rw [if_pos hj, if_pos (by omega)]
        show (if b ≤ b + j ∧ b + j < b + L then M d (b + j) else M c (b + j)) = if 0 + (j - 0) < L then M d (b + (0 + (j - 0))) else 0
        rw [if_pos (by omega), if_pos (by omega), show 0 + (j - 0) = j by omega]
      · rw [if_neg hj, if_neg (by omega)]
        exact (if_neg hj).symm
    rw [e]
  obtain ⟨⟨p, l, e, R, s⟩, ⟨m, args, below, meth, c0⟩, g', nL', Q⟩ := x
  obtain ⟨h1, h2, h3, h4, h5⟩ := h
  obtain rfl : g = g' := h3.symm
  obtain rfl : nL = nL' := h4.symm
  obtain rfl : rm = R := h5.symm
  intro H locs ls hl hP hS
  have e0 : (nI 0).toNatClampNeg = 0 := nI_clamp (by decide)
  have eL : (nI L).toNatClampNeg = L := nI_clamp hL
  have q := va_copyi (m := m) (args := args) (H := H) (rest := st) (sp := nI 0) (dp := nI 0) (n := nI L) h1.1 h1.2.1 (h1.2.2.1.trans hl.1.symm) h1.2.2.2.1 (h1.2.2.2.2 _ hw.1) (h1.2.2.2.2 _ hw.2.1) (h1.2.2.2.2 _ hw.2.2.1) (h1.2.2.2.2 _ hw.2.2.2) h2.1 hP (gD h2.2.2.1 _) hS (24 * d + o) (24 * c + o) 0 0 (c0 := g.2.2.1 0) (c1 := g.2.2.1 0) (a0 := g.1 (24 * d + o)) (a := g.1 (24 * c + o)) (n0 := L) (n1 := L) (f := fun j => if j < L then M d (b + j) else 0) (g := fun j => if j < L then M c (b + j) else 0) (ty := .int) (by rw [wW_get (by omega), hE1]) (by rw [wW_get (by omega), hE2]) rfl rfl rfl (nI_pos (by decide)) (nI_pos (by decide)) (nI_pos hL) (by rw [e0, eL]; omega) (by rw [e0, eL]; omega) (fun _ _ => rfl) hR.1 hR.2 hdg (cells := 0) (slots := 0) (p := p) (l := l) (e := e) (below := below) (meth := meth) (Q := Q) (ls := ls)
  refine q (fun H1 locs1 hP1 _ hS1 => ?_)
  rw [e0, eL, wW_set (by omega), hU] at hP1
  exact kk H1 locs1 ls hl hP1 hS1
end COPY
def lostFree (e : Enc) (X : Nat → Int32) (i : Nat) : Prop := ∀ a, a < 162 → bit1 (X (400 + a)) i → X (7 + a) = e.1
def backF (e : Enc) (X : Nat → Int32) (i k : Nat) : Nat → Int32 := upd (scan 7 X (fun a v => if bit1 (X (400 + a)) i then e.2.1 k else v) 162) (169 + 9 * k + 5) (nI 1)
def spendX (X : Nat → Int32) (i : Nat) (a : Int32) : Nat → Int32 := upd (upd X (169 + 9 * i + 4) (X (169 + 9 * i + 4) - a)) (169 + 9 * i + 7) (X (169 + 9 * i + 7) + a)
def recvX (X : Nat → Int32) (i : Nat) (a : Int32) : Nat → Int32 := upd (upd X (169 + 9 * i + 4) (X (169 + 9 * i + 4) + a)) (169 + 9 * i + 8) (X (169 + 9 * i + 8) + a)
def part (b L : Nat) (X Y : Nat → Int32) : Nat → Int32 := fun j => if b ≤ j ∧ j < b + L then Y j else X j
def blkQ (e : Enc) (X : Nat → Int32) (p s r : Int32) (X' : Nat → Int32) : Prop := (¬ (InR 81 p ∧ InR 2 s) ∧ r = -1000001 ∧ X' = X) ∨ ∃ j b, j < 81 ∧ b < 2 ∧ p = nI j ∧ s = nI b ∧ ((¬ (X (7 + j) = (if b = 1 then e.1 else nI 20) ∧ X (7 + (j + 81)) = (if b = 1 then e.1 else nI 20)) ∧ r = -1000002 ∧ X' = X) ∨ (X (7 + j) = (if b = 1 then e.1 else nI 20) ∧ X (7 + (j + 81)) = (if b = 1 then e.1 else nI 20) ∧ X' = upd (upd X (7 + j) (if b = 1 then nI 20 else e.1)) (7 + (j + 81)) (if b = 1 then nI 20 else e.1) ∧ r = nI (wir X' (nI 20) / 2)))
def pinE (e : Enc) (k j : Nat) (X : Nat → Int32) : Nat → Int32 := upd (upd X (7 + j) (e.2.2 k)) (7 + (j + 81)) (e.2.2 k)
def netRow (X : Nat → Int32) (k : Nat) (p0 p1 p2 s u : Int32) : Nat → Int32 := upd (upd (upd (upd (upd (upd (upd (upd (upd X (169 + 9 * k) p0) (169 + 9 * k + 1) p1) (169 + 9 * k + 2) p2) (169 + 9 * k + 3) s) (169 + 9 * k + 4) u) (169 + 9 * k + 5) (nI 0)) (169 + 9 * k + 6) (nI 0)) (169 + 9 * k + 7) (nI 0)) (169 + 9 * k + 8) (nI 0)
def netGood (p0 p1 p2 s u : Int32) : Prop := InR 81 p0 ∧ InR 81 p1 ∧ (p2 = -1 ∨ InR 81 p2) ∧ ¬ p0 = p1 ∧ ¬ p0 = p2 ∧ ¬ p1 = p2 ∧ ¬ s < 0 ∧ s ≤ nI 9 ∧ ¬ u < 0 ∧ u ≤ nI 9999
def FPe (e : Enc) (X : Nat → Int32) (p : Int32) : Prop := ∃ j : Nat, j < 81 ∧ p = nI j ∧ X (7 + j) = e.1 ∧ X (7 + (j + 81)) = e.1
def netQ (e : Enc) (X : Nat → Int32) (N : Nat) (p0 p1 p2 s u r : Int32) (X' : Nat → Int32) : Prop := (¬ netGood p0 p1 p2 s u ∧ r = -1000001 ∧ X' = X) ∨ (netGood p0 p1 p2 s u ∧ ((¬ (FPe e X p0 ∧ FPe e X p1 ∧ (p2 = -1 ∨ FPe e X p2)) ∧ r = -1000002 ∧ X' = X) ∨ ((FPe e X p0 ∧ FPe e X p1 ∧ (p2 = -1 ∨ FPe e X p2)) ∧ ((6 ≤ N ∧ r = -1000003 ∧ X' = X) ∨ (N < 6 ∧ r = nI N ∧ ∃ j0 j1, j0 < 81 ∧ j1 < 81 ∧ p0 = nI j0 ∧ p1 = nI j1 ∧ ((p2 = -1 ∧ X' = netRow (pinE e N j1 (pinE e N j0 (upd X 5 (nI (N + 1))))) N p0 p1 p2 s u) ∨ ∃ j2, j2 < 81 ∧ p2 = nI j2 ∧ X' = netRow (pinE e N j2 (pinE e N j1 (pinE e N j0 (upd X 5 (nI (N + 1)))))) N p0 p1 p2 s u))))))
def fCnt (e : Enc) (X : Nat → Int32) (N K : Nat) : Nat → Int32
  | 0 => nI N
  | 1 => nI (joinedN X N)
  | 2 => nI (wir X (nI 20) / 2)
  | 3 => nI (wir X e.1)
  | 4 => nI K
  | 5 => nI (appl X K)
  | 6 => X 4
  | 7 => sumI (fun k => X (169 + 9 * k + 4)) N
  | 8 => nI (wires e X N)
  | 9 => nI (cross e X N)
  | 20 => X 0
  | 21 => X 1
  | 22 => X 2
  | 23 => X 3
  | _ => -1000001

set_option maxRecDepth 20000 in
theorem ggX0_appealsAheadOf_X0_lossOf : GoodIn wsX0_appealsAheadOf wsX0_lossOf := goodIn_r _ [8, 9, 10, 11, 12, 13, 14, 15, 16, 17, 18, 19, 20, 21, 22, 23, 24, 25, 26] (by decide +kernel) (by decide +kernel)
set_option maxRecDepth 20000 in
theorem gX0_appealsAheadOf_X0_lossOf : GoodIn wsX0_appealsAheadOf (wsV RX0 197 RX0 yX0_lossOf wsX0_lossOf) := goodIn_app (goodIn_of _ (by decide +kernel)) ggX0_appealsAheadOf_X0_lossOf
theorem dX0_appealsAheadOf_0 : decode cX0_appealsAheadOf 0 = .ok (.aload_n 0, 1) := by decide +kernel
theorem dX0_appealsAheadOf_1 : decode cX0_appealsAheadOf 1 = .ok (.aload_n 0, 1) := by decide +kernel
theorem dX0_appealsAheadOf_2 : decode cX0_appealsAheadOf 2 = .ok (.getfield 30, 3) := by decide +kernel
theorem dX0_appealsAheadOf_5 : decode cX0_appealsAheadOf 5 = .ok (.iload_n 1, 1) := by decide +kernel
theorem dX0_appealsAheadOf_6 : decode cX0_appealsAheadOf 6 = .ok (.aaload, 1) := by decide +kernel
theorem dX0_appealsAheadOf_7 : decode cX0_appealsAheadOf 7 = .ok (.invokevirtual 197, 3) := by decide +kernel
theorem dX0_appealsAheadOf_10 : decode cX0_appealsAheadOf 10 = .ok (.istore_n 2, 1) := by decide +kernel
theorem dX0_appealsAheadOf_11 : decode cX0_appealsAheadOf 11 = .ok (.iconst 0, 1) := by decide +kernel
theorem dX0_appealsAheadOf_12 : decode cX0_appealsAheadOf 12 = .ok (.istore_n 3, 1) := by decide +kernel
theorem dX0_appealsAheadOf_13 : decode cX0_appealsAheadOf 13 = .ok (.iconst 0, 1) := by decide +kernel
theorem dX0_appealsAheadOf_14 : decode cX0_appealsAheadOf 14 = .ok (.istore 4, 2) := by decide +kernel
theorem dX0_appealsAheadOf_16 : decode cX0_appealsAheadOf 16 = .ok (.iload 4, 2) := by decide +kernel
theorem dX0_appealsAheadOf_18 : decode cX0_appealsAheadOf 18 = .ok (.aload_n 0, 1) := by decide +kernel
theorem dX0_appealsAheadOf_19 : decode cX0_appealsAheadOf 19 = .ok (.getfield 49, 3) := by decide +kernel
theorem dX0_appealsAheadOf_22 : decode cX0_appealsAheadOf 22 = .ok (.if_icmp .ge 76, 3) := by decide +kernel
theorem dX0_appealsAheadOf_25 : decode cX0_appealsAheadOf 25 = .ok (.iload 4, 2) := by decide +kernel
theorem dX0_appealsAheadOf_27 : decode cX0_appealsAheadOf 27 = .ok (.bipush 12, 2) := by decide +kernel
theorem dX0_appealsAheadOf_29 : decode cX0_appealsAheadOf 29 = .ok (.if_icmp .ge 69, 3) := by decide +kernel
theorem dX0_appealsAheadOf_32 : decode cX0_appealsAheadOf 32 = .ok (.aload_n 0, 1) := by decide +kernel
theorem dX0_appealsAheadOf_33 : decode cX0_appealsAheadOf 33 = .ok (.aload_n 0, 1) := by decide +kernel
theorem dX0_appealsAheadOf_34 : decode cX0_appealsAheadOf 34 = .ok (.getfield 30, 3) := by decide +kernel
theorem dX0_appealsAheadOf_37 : decode cX0_appealsAheadOf 37 = .ok (.iload 4, 2) := by decide +kernel
theorem dX0_appealsAheadOf_39 : decode cX0_appealsAheadOf 39 = .ok (.aaload, 1) := by decide +kernel
theorem dX0_appealsAheadOf_40 : decode cX0_appealsAheadOf 40 = .ok (.invokevirtual 197, 3) := by decide +kernel
theorem dX0_appealsAheadOf_43 : decode cX0_appealsAheadOf 43 = .ok (.istore 5, 2) := by decide +kernel
theorem dX0_appealsAheadOf_45 : decode cX0_appealsAheadOf 45 = .ok (.iload 5, 2) := by decide +kernel
theorem dX0_appealsAheadOf_47 : decode cX0_appealsAheadOf 47 = .ok (.iload_n 2, 1) := by decide +kernel
theorem dX0_appealsAheadOf_48 : decode cX0_appealsAheadOf 48 = .ok (.if_icmp .gt 15, 3) := by decide +kernel
theorem dX0_appealsAheadOf_51 : decode cX0_appealsAheadOf 51 = .ok (.iload 5, 2) := by decide +kernel
theorem dX0_appealsAheadOf_53 : decode cX0_appealsAheadOf 53 = .ok (.iload_n 2, 1) := by decide +kernel
theorem dX0_appealsAheadOf_54 : decode cX0_appealsAheadOf 54 = .ok (.if_icmp .ne 13, 3) := by decide +kernel
theorem dX0_appealsAheadOf_57 : decode cX0_appealsAheadOf 57 = .ok (.iload 4, 2) := by decide +kernel
theorem dX0_appealsAheadOf_59 : decode cX0_appealsAheadOf 59 = .ok (.iload_n 1, 1) := by decide +kernel
theorem dX0_appealsAheadOf_60 : decode cX0_appealsAheadOf 60 = .ok (.if_icmp .ge 7, 3) := by decide +kernel
theorem dX0_appealsAheadOf_63 : decode cX0_appealsAheadOf 63 = .ok (.iconst 1, 1) := by decide +kernel
theorem dX0_appealsAheadOf_64 : decode cX0_appealsAheadOf 64 = .ok (.goto 4, 3) := by decide +kernel
theorem dX0_appealsAheadOf_67 : decode cX0_appealsAheadOf 67 = .ok (.iconst 0, 1) := by decide +kernel
theorem dX0_appealsAheadOf_68 : decode cX0_appealsAheadOf 68 = .ok (.istore 6, 2) := by decide +kernel
theorem dX0_appealsAheadOf_70 : decode cX0_appealsAheadOf 70 = .ok (.aload_n 0, 1) := by decide +kernel
theorem dX0_appealsAheadOf_71 : decode cX0_appealsAheadOf 71 = .ok (.getfield 30, 3) := by decide +kernel
theorem dX0_appealsAheadOf_74 : decode cX0_appealsAheadOf 74 = .ok (.iload 4, 2) := by decide +kernel
theorem dX0_appealsAheadOf_76 : decode cX0_appealsAheadOf 76 = .ok (.aaload, 1) := by decide +kernel
theorem dX0_appealsAheadOf_77 : decode cX0_appealsAheadOf 77 = .ok (.getfield 182, 3) := by decide +kernel
theorem dX0_appealsAheadOf_80 : decode cX0_appealsAheadOf 80 = .ok (.iconst 1, 1) := by decide +kernel
theorem dX0_appealsAheadOf_81 : decode cX0_appealsAheadOf 81 = .ok (.if_icmp .ne 11, 3) := by decide +kernel
theorem dX0_appealsAheadOf_84 : decode cX0_appealsAheadOf 84 = .ok (.iload 6, 2) := by decide +kernel
theorem dX0_appealsAheadOf_86 : decode cX0_appealsAheadOf 86 = .ok (.ifCond .eq 6, 3) := by decide +kernel
theorem dX0_appealsAheadOf_89 : decode cX0_appealsAheadOf 89 = .ok (.iinc 3 1, 3) := by decide +kernel
theorem dX0_appealsAheadOf_92 : decode cX0_appealsAheadOf 92 = .ok (.iinc 4 1, 3) := by decide +kernel
theorem dX0_appealsAheadOf_95 : decode cX0_appealsAheadOf 95 = .ok (.goto (-79), 3) := by decide +kernel
theorem dX0_appealsAheadOf_98 : decode cX0_appealsAheadOf 98 = .ok (.iload_n 3, 1) := by decide +kernel
theorem dX0_appealsAheadOf_99 : decode cX0_appealsAheadOf 99 = .ok (.ireturn, 1) := by decide +kernel
abbrev rmX0_appealsAheadOf : Room := { frames := 1, cells := 0, slots := 0, locals := 21 }
set_option maxRecDepth 20000 in
theorem in_X0_appealsAheadOf_X0 : ∀ w ∈ wsX00, w ∈ wsX0_appealsAheadOf := by decide +kernel
set_option maxRecDepth 20000 in
theorem in_X0_appealsAheadOf_X1 : ∀ w ∈ wsX10, w ∈ wsX0_appealsAheadOf := by decide +kernel

set_option maxRecDepth 100000 in
set_option maxHeartbeats 4000000 in
theorem c_X0_appealsAheadOf {l : Launch} {g : Geo} {M : Nat → Nat → Int32} {P : Nat → Nat} {c : Nat} (hc : c < 6) {K : Nat} (hK : M c 6 = nI K) (hK12 : K ≤ 12) {i0 : Nat} (hi0 : i0 < K) : Met l yX0_appealsAheadOf wsX0_appealsAheadOf rmX0_appealsAheadOf (cPre g [.ref (g.1 (24 * c)), .int (nI i0)] M P) (cQi g (fun r M' P' => (P = P' ∧ M = M') ∧ r = nI (ahead (M c) K i0))) 0 0 (gA g) := by
  refine met_i (cc := cX0_appealsAheadOf) (maxL := 7) (by decide) rfl ⟨rfl, rfl⟩ (Nat.le_of_ble_eq_true rfl) (fun x hx h hret => ?_)
  replace h : Cxk x g cX0_appealsAheadOf 7 wsX0_appealsAheadOf RX0 rmX0_appealsAheadOf := h
  show X x 0 [(0, .ref (g.1 (24 * c))), (1, .int (nI i0))] [] M P
  refine x_aload_n h 0 dX0_appealsAheadOf_0 rfl rfl ?_
  refine x_aload_n h 0 dX0_appealsAheadOf_1 rfl rfl ?_
  refine xg_X0_4 h hc in_X0_appealsAheadOf_X0 (by decide +kernel) dX0_appealsAheadOf_2 ?_
  refine x_iload_n h 1 dX0_appealsAheadOf_5 rfl rfl ?_
  refine xa_clms h hc dX0_appealsAheadOf_6 (by omega) ?_
  refine x_callV h (As := [.ref (g.1 (24 * c + 12 + i0))]) 1 hx (c_X0_lossOf hc (by omega)) gX0_appealsAheadOf_X0_lossOf rfl ⟨rfl, rfl⟩ (by decide +kernel) rfl (by decide) (hk_chip hc) (E_chip hc) rfl rfl (Nat.le_of_ble_eq_true rfl) dX0_appealsAheadOf_7 (fun rv M' P' hp => ?_)
  obtain ⟨⟨rfl, rfl⟩, rfl⟩ := hp
  refine x_istore_n h [(2, .int (lossX (M c) i0)), (0, .ref (g.1 (24 * c))), (1, .int (nI i0))] dX0_appealsAheadOf_10 rfl (by decide) rfl ?_
  refine x_iconst h (nI 0) dX0_appealsAheadOf_11 (by decide) ?_
  refine x_istore_n h [(3, .int (nI 0)), (2, .int (lossX (M c) i0)), (0, .ref (g.1 (24 * c))), (1, .int (nI i0))] dX0_appealsAheadOf_12 rfl (by decide) rfl ?_
  refine x_iconst h (nI 0) dX0_appealsAheadOf_13 (by decide) ?_
  refine x_istore h [(4, .int (nI 0)), (3, .int (nI 0)), (2, .int (lossX (M c) i0)), (0, .ref (g.1 (24 * c))), (1, .int (nI i0))] dX0_appealsAheadOf_14 (by decide) rfl ?_
  have L16 : ∀ (fu : Nat) (i : Nat) (k : Nat), (K - i) < fu → (i ≤ K) → (k = cnt (fun d => decide (M c (223 + 13 * d + 5) = nI 1 ∧ (lossX (M c) i0 < lossX (M c) d ∨ (lossX (M c) d = lossX (M c) i0 ∧ d < i0)))) i) → X x 16 [(0, .ref (g.1 (24 * c))), (1, .int (nI i0)), (2, .int (lossX (M c) i0)), (3, .int (nI k)), (4, .int (nI i))] [] M P := by
    intro fu
    induction fu with
    | zero => intro i k hmu16; exact absurd hmu16 (Nat.not_lt_zero _)
    | succ fu ih16 =>
      intro i k hmu16 hi hk
      refine x_iload h 4 dX0_appealsAheadOf_16 rfl ?_
      refine x_aload_n h 0 dX0_appealsAheadOf_18 rfl rfl ?_
      refine xg_X0_6 h hc in_X0_appealsAheadOf_X0 (by decide +kernel) dX0_appealsAheadOf_19 ?_
      refine x_top (nI K) (hK) ?_
      refine x_icmp_ge_n h 98 dX0_appealsAheadOf_22 (by decide) (by omega) (by omega) (fun c_22 => ?_) (fun c_22 => ?_)
      · -- 22 true
        refine x_iload_n h 3 dX0_appealsAheadOf_98 rfl rfl ?_
        exact hret _ _ _ _ _ dX0_appealsAheadOf_99 (by obtain rfl : i = K := (by omega); subst hk; exact ⟨⟨rfl, rfl⟩, rfl⟩)
      · -- 22 false
        refine x_iload h 4 dX0_appealsAheadOf_25 rfl ?_
        refine x_bipush h (nI 12) dX0_appealsAheadOf_27 (by decide) ?_
        refine x_icmp_ge_n h 98 dX0_appealsAheadOf_29 (by decide) (by omega) (by decide) (fun c_29 => by exact absurd c_29 (by omega)) (fun c_29 => ?_)
        refine x_aload_n h 0 dX0_appealsAheadOf_32 rfl rfl ?_
        refine x_aload_n h 0 dX0_appealsAheadOf_33 rfl rfl ?_
        refine xg_X0_4 h hc in_X0_appealsAheadOf_X0 (by decide +kernel) dX0_appealsAheadOf_34 ?_
        refine x_iload h 4 dX0_appealsAheadOf_37 rfl ?_
        refine xa_clms h hc dX0_appealsAheadOf_39 (by omega) ?_
        refine x_callV h (As := [.ref (g.1 (24 * c + 12 + i))]) 1 hx (c_X0_lossOf hc (by omega)) gX0_appealsAheadOf_X0_lossOf rfl ⟨rfl, rfl⟩ (by decide +kernel) rfl (by decide) (hk_chip hc) (E_chip hc) rfl rfl (Nat.le_of_ble_eq_true rfl) dX0_appealsAheadOf_40 (fun rv M' P' hp => ?_)
        obtain ⟨⟨rfl, rfl⟩, rfl⟩ := hp
        refine x_istore h [(5, .int (lossX (M c) i)), (0, .ref (g.1 (24 * c))), (1, .int (nI i0)), (2, .int (lossX (M c) i0)), (3, .int (nI k)), (4, .int (nI i))] dX0_appealsAheadOf_43 (by decide) rfl ?_
        refine x_iload h 0 dX0_appealsAheadOf_45 rfl ?_
        refine x_iload_n h 3 dX0_appealsAheadOf_47 rfl rfl ?_
        refine x_icmp_gt h 63 dX0_appealsAheadOf_48 (by decide) (fun c_48 => ?_) (fun c_48 => ?_)
        · -- 48 true
          refine x_iconst h (nI 1) dX0_appealsAheadOf_63 (by decide) ?_
          refine x_goto h 68 dX0_appealsAheadOf_64 (by decide) ?_
          refine x_istore h [(6, .int (nI 1)), (5, .int (lossX (M c) i)), (0, .ref (g.1 (24 * c))), (1, .int (nI i0)), (2, .int (lossX (M c) i0)), (3, .int (nI k)), (4, .int (nI i))] dX0_appealsAheadOf_68 (by decide) rfl ?_
          refine x_aload_n h 2 dX0_appealsAheadOf_70 rfl rfl ?_
          refine xg_X0_4 h hc in_X0_appealsAheadOf_X0 (by decide +kernel) dX0_appealsAheadOf_71 ?_
          refine x_iload h 6 dX0_appealsAheadOf_74 rfl ?_
          refine xa_clms h hc dX0_appealsAheadOf_76 (by omega) ?_
          refine xg_X1_5 h hc (by omega) in_X0_appealsAheadOf_X1 (by decide +kernel) dX0_appealsAheadOf_77 ?_
          refine x_iconst h (nI 1) dX0_appealsAheadOf_80 (by decide) ?_
          refine x_icmp_ne h 92 dX0_appealsAheadOf_81 (by decide) (fun c_81 => ?_) (fun c_81 => ?_)
          · -- 81 true
            refine x_iinc_n h 6 (n := 1) [(4, .int (nI (i + 1))), (6, .int (nI 1)), (5, .int (lossX (M c) i)), (0, .ref (g.1 (24 * c))), (1, .int (nI i0)), (2, .int (lossX (M c) i0)), (3, .int (nI k))] dX0_appealsAheadOf_92 rfl (by decide) rfl ?_
            refine x_goto h 16 dX0_appealsAheadOf_95 (by decide) ?_
            exact x_lv (ih16 (i + 1) k (by omega) (by omega) (by first | (rw [cnt, decide_eq_true (show _ from ⟨c_81, (by first | exact Or.inl c_48 | exact Or.inr ⟨c_54, c_60⟩)⟩), hk]; rfl) | (rw [cnt, decide_eq_false (by rintro ⟨q1, q2⟩; first | exact c_81 q1 | (rcases q2 with q | ⟨q3, q4⟩; exact c_48 q; first | exact c_54 q3 | omega)), hk]; rfl))) [3, 4, 5, 6, 0] rfl
          · -- 81 false
            refine x_iload h 0 dX0_appealsAheadOf_84 rfl ?_
            refine x_if_eq h 92 dX0_appealsAheadOf_86 (by decide) (fun c => absurd c (by decide)) (fun _ => ?_)
            refine x_iinc_n h 5 (n := 1) [(3, .int (nI (k + 1))), (6, .int (nI 1)), (5, .int (lossX (M c) i)), (0, .ref (g.1 (24 * c))), (1, .int (nI i0)), (2, .int (lossX (M c) i0)), (4, .int (nI i))] dX0_appealsAheadOf_89 rfl (by decide) rfl ?_
            refine x_iinc_n h 6 (n := 1) [(4, .int (nI (i + 1))), (3, .int (nI (k + 1))), (6, .int (nI 1)), (5, .int (lossX (M c) i)), (0, .ref (g.1 (24 * c))), (1, .int (nI i0)), (2, .int (lossX (M c) i0))] dX0_appealsAheadOf_92 rfl (by decide) rfl ?_
            refine x_goto h 16 dX0_appealsAheadOf_95 (by decide) ?_
            exact x_lv (ih16 (i + 1) (k + 1) (by omega) (by omega) (by first | (rw [cnt, decide_eq_true (show _ from ⟨c_81, (by first | exact Or.inl c_48 | exact Or.inr ⟨c_54, c_60⟩)⟩), hk]; rfl) | (rw [cnt, decide_eq_false (by rintro ⟨q1, q2⟩; first | exact c_81 q1 | (rcases q2 with q | ⟨q3, q4⟩; exact c_48 q; first | exact c_54 q3 | omega)), hk]; rfl))) [4, 5, 6, 1, 0] rfl
        · -- 48 false
          refine x_iload h 0 dX0_appealsAheadOf_51 rfl ?_
          refine x_iload_n h 3 dX0_appealsAheadOf_53 rfl rfl ?_
          refine x_icmp_ne h 67 dX0_appealsAheadOf_54 (by decide) (fun c_54 => ?_) (fun c_54 => ?_)
          · -- 54 true
            refine x_iconst h (nI 0) dX0_appealsAheadOf_67 (by decide) ?_
            refine x_istore h [(6, .int (nI 0)), (5, .int (lossX (M c) i)), (0, .ref (g.1 (24 * c))), (1, .int (nI i0)), (2, .int (lossX (M c) i0)), (3, .int (nI k)), (4, .int (nI i))] dX0_appealsAheadOf_68 (by decide) rfl ?_
            refine x_aload_n h 2 dX0_appealsAheadOf_70 rfl rfl ?_
            refine xg_X0_4 h hc in_X0_appealsAheadOf_X0 (by decide +kernel) dX0_appealsAheadOf_71 ?_
            refine x_iload h 6 dX0_appealsAheadOf_74 rfl ?_
            refine xa_clms h hc dX0_appealsAheadOf_76 (by omega) ?_
            refine xg_X1_5 h hc (by omega) in_X0_appealsAheadOf_X1 (by decide +kernel) dX0_appealsAheadOf_77 ?_
            refine x_iconst h (nI 1) dX0_appealsAheadOf_80 (by decide) ?_
            refine x_icmp_ne h 92 dX0_appealsAheadOf_81 (by decide) (fun c_81 => ?_) (fun c_81 => ?_)
            · -- 81 true
              refine x_iinc_n h 6 (n := 1) [(4, .int (nI (i + 1))), (6, .int (nI 0)), (5, .int (lossX (M c) i)), (0, .ref (g.1 (24 * c))), (1, .int (nI i0)), (2, .int (lossX (M c) i0)), (3, .int (nI k))] dX0_appealsAheadOf_92 rfl (by decide) rfl ?_
              refine x_goto h 16 dX0_appealsAheadOf_95 (by decide) ?_
              exact x_lv (ih16 (i + 1) k (by omega) (by omega) (by first | (rw [cnt, decide_eq_true (show _ from ⟨c_81, (by first | exact Or.inl c_48 | exact Or.inr ⟨c_54, c_60⟩)⟩), hk]; rfl) | (rw [cnt, decide_eq_false (by rintro ⟨q1, q2⟩; first | exact c_81 q1 | (rcases q2 with q | ⟨q3, q4⟩; exact c_48 q; first | exact c_54 q3 | omega)), hk]; rfl))) [3, 4, 5, 6, 0] rfl
            · -- 81 false
              refine x_iload h 0 dX0_appealsAheadOf_84 rfl ?_
              refine x_if_eq h 92 dX0_appealsAheadOf_86 (by decide) (fun _ => ?_) (fun c => absurd (by decide) c)
              refine x_iinc_n h 6 (n := 1) [(4, .int (nI (i + 1))), (6, .int (nI 0)), (5, .int (lossX (M c) i)), (0, .ref (g.1 (24 * c))), (1, .int (nI i0)), (2, .int (lossX (M c) i0)), (3, .int (nI k))] dX0_appealsAheadOf_92 rfl (by decide) rfl ?_
              refine x_goto h 16 dX0_appealsAheadOf_95 (by decide) ?_
              exact x_lv (ih16 (i + 1) k (by omega) (by omega) (by first | (rw [cnt, decide_eq_true (show _ from ⟨c_81, (by first | exact Or.inl c_48 | exact Or.inr ⟨c_54, c_60⟩)⟩), hk]; rfl) | (rw [cnt, decide_eq_false (by rintro ⟨q1, q2⟩; first | exact c_81 q1 | (rcases q2 with q | ⟨q3, q4⟩; exact c_48 q; first | exact c_54 q3 | omega)), hk]; rfl))) [3, 4, 5, 6, 0] rfl
          · -- 54 false
            refine x_iload h 5 dX0_appealsAheadOf_57 rfl ?_
            refine x_iload_n h 2 dX0_appealsAheadOf_59 rfl rfl ?_
            refine x_icmp_ge_n h 67 dX0_appealsAheadOf_60 (by decide) (by omega) (by omega) (fun c_60 => ?_) (fun c_60 => ?_)
            · -- 60 true
              refine x_iconst h (nI 0) dX0_appealsAheadOf_67 (by decide) ?_
              refine x_istore h [(6, .int (nI 0)), (5, .int (lossX (M c) i)), (0, .ref (g.1 (24 * c))), (1, .int (nI i0)), (2, .int (lossX (M c) i0)), (3, .int (nI k)), (4, .int (nI i))] dX0_appealsAheadOf_68 (by decide) rfl ?_
              refine x_aload_n h 2 dX0_appealsAheadOf_70 rfl rfl ?_
              refine xg_X0_4 h hc in_X0_appealsAheadOf_X0 (by decide +kernel) dX0_appealsAheadOf_71 ?_
              refine x_iload h 6 dX0_appealsAheadOf_74 rfl ?_
              refine xa_clms h hc dX0_appealsAheadOf_76 (by omega) ?_
              refine xg_X1_5 h hc (by omega) in_X0_appealsAheadOf_X1 (by decide +kernel) dX0_appealsAheadOf_77 ?_
              refine x_iconst h (nI 1) dX0_appealsAheadOf_80 (by decide) ?_
              refine x_icmp_ne h 92 dX0_appealsAheadOf_81 (by decide) (fun c_81 => ?_) (fun c_81 => ?_)
              · -- 81 true
                refine x_iinc_n h 6 (n := 1) [(4, .int (nI (i + 1))), (6, .int (nI 0)), (5, .int (lossX (M c) i)), (0, .ref (g.1 (24 * c))), (1, .int (nI i0)), (2, .int (lossX (M c) i0)), (3, .int (nI k))] dX0_appealsAheadOf_92 rfl (by decide) rfl ?_
                refine x_goto h 16 dX0_appealsAheadOf_95 (by decide) ?_
                exact x_lv (ih16 (i + 1) k (by omega) (by omega) (by first | (rw [cnt, decide_eq_true (show _ from ⟨c_81, (by first | exact Or.inl c_48 | exact Or.inr ⟨c_54, c_60⟩)⟩), hk]; rfl) | (rw [cnt, decide_eq_false (by rintro ⟨q1, q2⟩; first | exact c_81 q1 | (rcases q2 with q | ⟨q3, q4⟩; exact c_48 q; first | exact c_54 q3 | omega)), hk]; rfl))) [3, 4, 5, 6, 0] rfl
              · -- 81 false
                refine x_iload h 0 dX0_appealsAheadOf_84 rfl ?_
                refine x_if_eq h 92 dX0_appealsAheadOf_86 (by decide) (fun _ => ?_) (fun c => absurd (by decide) c)
                refine x_iinc_n h 6 (n := 1) [(4, .int (nI (i + 1))), (6, .int (nI 0)), (5, .int (lossX (M c) i)), (0, .ref (g.1 (24 * c))), (1, .int (nI i0)), (2, .int (lossX (M c) i0)), (3, .int (nI k))] dX0_appealsAheadOf_92 rfl (by decide) rfl ?_
                refine x_goto h 16 dX0_appealsAheadOf_95 (by decide) ?_
                exact x_lv (ih16 (i + 1) k (by omega) (by omega) (by first | (rw [cnt, decide_eq_true (show _ from ⟨c_81, (by first | exact Or.inl c_48 | exact Or.inr ⟨c_54, c_60⟩)⟩), hk]; rfl) | (rw [cnt, decide_eq_false (by rintro ⟨q1, q2⟩; first | exact c_81 q1 | (rcases q2 with q | ⟨q3, q4⟩; exact c_48 q; first | exact c_54 q3 | omega)), hk]; rfl))) [3, 4, 5, 6, 0] rfl
            · -- 60 false
              refine x_iconst h (nI 1) dX0_appealsAheadOf_63 (by decide) ?_
              refine x_goto h 68 dX0_appealsAheadOf_64 (by decide) ?_
              refine x_istore h [(6, .int (nI 1)), (5, .int (lossX (M c) i)), (0, .ref (g.1 (24 * c))), (1, .int (nI i0)), (2, .int (lossX (M c) i0)), (3, .int (nI k)), (4, .int (nI i))] dX0_appealsAheadOf_68 (by decide) rfl ?_
              refine x_aload_n h 2 dX0_appealsAheadOf_70 rfl rfl ?_
              refine xg_X0_4 h hc in_X0_appealsAheadOf_X0 (by decide +kernel) dX0_appealsAheadOf_71 ?_
              refine x_iload h 6 dX0_appealsAheadOf_74 rfl ?_
              refine xa_clms h hc dX0_appealsAheadOf_76 (by omega) ?_
              refine xg_X1_5 h hc (by omega) in_X0_appealsAheadOf_X1 (by decide +kernel) dX0_appealsAheadOf_77 ?_
              refine x_iconst h (nI 1) dX0_appealsAheadOf_80 (by decide) ?_
              refine x_icmp_ne h 92 dX0_appealsAheadOf_81 (by decide) (fun c_81 => ?_) (fun c_81 => ?_)
              · -- 81 true
                refine x_iinc_n h 6 (n := 1) [(4, .int (nI (i + 1))), (6, .int (nI 1)), (5, .int (lossX (M c) i)), (0, .ref (g.1 (24 * c))), (1, .int (nI i0)), (2, .int (lossX (M c) i0)), (3, .int (nI k))] dX0_appealsAheadOf_92 rfl (by decide) rfl ?_
                refine x_goto h 16 dX0_appealsAheadOf_95 (by decide) ?_
                exact x_lv (ih16 (i + 1) k (by omega) (by omega) (by first | (rw [cnt, decide_eq_true (show _ from ⟨c_81, (by first | exact Or.inl c_48 | exact Or.inr ⟨c_54, c_60⟩)⟩), hk]; rfl) | (rw [cnt, decide_eq_false (by rintro ⟨q1, q2⟩; first | exact c_81 q1 | (rcases q2 with q | ⟨q3, q4⟩; exact c_48 q; first | exact c_54 q3 | omega)), hk]; rfl))) [3, 4, 5, 6, 0] rfl
              · -- 81 false
                refine x_iload h 0 dX0_appealsAheadOf_84 rfl ?_
                refine x_if_eq h 92 dX0_appealsAheadOf_86 (by decide) (fun c => absurd c (by decide)) (fun _ => ?_)
                refine x_iinc_n h 5 (n := 1) [(3, .int (nI (k + 1))), (6, .int (nI 1)), (5, .int (lossX (M c) i)), (0, .ref (g.1 (24 * c))), (1, .int (nI i0)), (2, .int (lossX (M c) i0)), (4, .int (nI i))] dX0_appealsAheadOf_89 rfl (by decide) rfl ?_
                refine x_iinc_n h 6 (n := 1) [(4, .int (nI (i + 1))), (3, .int (nI (k + 1))), (6, .int (nI 1)), (5, .int (lossX (M c) i)), (0, .ref (g.1 (24 * c))), (1, .int (nI i0)), (2, .int (lossX (M c) i0))] dX0_appealsAheadOf_92 rfl (by decide) rfl ?_
                refine x_goto h 16 dX0_appealsAheadOf_95 (by decide) ?_
                exact x_lv (ih16 (i + 1) (k + 1) (by omega) (by omega) (by first | (rw [cnt, decide_eq_true (show _ from ⟨c_81, (by first | exact Or.inl c_48 | exact Or.inr ⟨c_54, c_60⟩)⟩), hk]; rfl) | (rw [cnt, decide_eq_false (by rintro ⟨q1, q2⟩; first | exact c_81 q1 | (rcases q2 with q | ⟨q3, q4⟩; exact c_48 q; first | exact c_54 q3 | omega)), hk]; rfl))) [4, 5, 6, 1, 0] rfl
  exact x_lv (L16 _ 0 0 (Nat.lt_succ_self _) (by omega) (by rfl)) [3, 4, 2, 1, 0] rfl

set_option maxRecDepth 20000 in
theorem ggX0_appealAt_X0_appealsAheadOf : GoodIn wsX0_appealAt wsX0_appealsAheadOf := goodIn_r _ [8, 2, 1, 3, 9, 10, 11, 7, 12, 13, 14, 15, 16, 17, 18, 19, 20, 21, 22, 23, 24, 25, 26, 27, 28, 29, 30] (by decide +kernel) (by decide +kernel)
set_option maxRecDepth 20000 in
theorem gX0_appealAt_X0_appealsAheadOf : GoodIn wsX0_appealAt (wsV RX0 216 RX0 yX0_appealsAheadOf wsX0_appealsAheadOf) := goodIn_app (goodIn_of _ (by decide +kernel)) ggX0_appealAt_X0_appealsAheadOf
theorem dX0_appealAt_0 : decode cX0_appealAt 0 = .ok (.iconst 0, 1) := by decide +kernel
theorem dX0_appealAt_1 : decode cX0_appealAt 1 = .ok (.istore_n 2, 1) := by decide +kernel
theorem dX0_appealAt_2 : decode cX0_appealAt 2 = .ok (.iload_n 2, 1) := by decide +kernel
theorem dX0_appealAt_3 : decode cX0_appealAt 3 = .ok (.aload_n 0, 1) := by decide +kernel
theorem dX0_appealAt_4 : decode cX0_appealAt 4 = .ok (.getfield 49, 3) := by decide +kernel
theorem dX0_appealAt_7 : decode cX0_appealAt 7 = .ok (.if_icmp .ge 39, 3) := by decide +kernel
theorem dX0_appealAt_10 : decode cX0_appealAt 10 = .ok (.iload_n 2, 1) := by decide +kernel
theorem dX0_appealAt_11 : decode cX0_appealAt 11 = .ok (.bipush 12, 2) := by decide +kernel
theorem dX0_appealAt_13 : decode cX0_appealAt 13 = .ok (.if_icmp .ge 33, 3) := by decide +kernel
theorem dX0_appealAt_16 : decode cX0_appealAt 16 = .ok (.aload_n 0, 1) := by decide +kernel
theorem dX0_appealAt_17 : decode cX0_appealAt 17 = .ok (.getfield 30, 3) := by decide +kernel
theorem dX0_appealAt_20 : decode cX0_appealAt 20 = .ok (.iload_n 2, 1) := by decide +kernel
theorem dX0_appealAt_21 : decode cX0_appealAt 21 = .ok (.aaload, 1) := by decide +kernel
theorem dX0_appealAt_22 : decode cX0_appealAt 22 = .ok (.getfield 182, 3) := by decide +kernel
theorem dX0_appealAt_25 : decode cX0_appealAt 25 = .ok (.iconst 1, 1) := by decide +kernel
theorem dX0_appealAt_26 : decode cX0_appealAt 26 = .ok (.if_icmp .ne 14, 3) := by decide +kernel
theorem dX0_appealAt_29 : decode cX0_appealAt 29 = .ok (.aload_n 0, 1) := by decide +kernel
theorem dX0_appealAt_30 : decode cX0_appealAt 30 = .ok (.iload_n 2, 1) := by decide +kernel
theorem dX0_appealAt_31 : decode cX0_appealAt 31 = .ok (.invokevirtual 216, 3) := by decide +kernel
theorem dX0_appealAt_34 : decode cX0_appealAt 34 = .ok (.iload_n 1, 1) := by decide +kernel
theorem dX0_appealAt_35 : decode cX0_appealAt 35 = .ok (.if_icmp .ne 5, 3) := by decide +kernel
theorem dX0_appealAt_38 : decode cX0_appealAt 38 = .ok (.iload_n 2, 1) := by decide +kernel
theorem dX0_appealAt_39 : decode cX0_appealAt 39 = .ok (.ireturn, 1) := by decide +kernel
theorem dX0_appealAt_40 : decode cX0_appealAt 40 = .ok (.iinc 2 1, 3) := by decide +kernel
theorem dX0_appealAt_43 : decode cX0_appealAt 43 = .ok (.goto (-41), 3) := by decide +kernel
theorem dX0_appealAt_46 : decode cX0_appealAt 46 = .ok (.iconst (-1), 1) := by decide +kernel
theorem dX0_appealAt_47 : decode cX0_appealAt 47 = .ok (.ireturn, 1) := by decide +kernel
abbrev rmX0_appealAt : Room := { frames := 2, cells := 0, slots := 0, locals := 47 }
set_option maxRecDepth 20000 in
theorem in_X0_appealAt_X0 : ∀ w ∈ wsX00, w ∈ wsX0_appealAt := by decide +kernel
set_option maxRecDepth 20000 in
theorem in_X0_appealAt_X1 : ∀ w ∈ wsX10, w ∈ wsX0_appealAt := by decide +kernel

set_option maxRecDepth 100000 in
set_option maxHeartbeats 4000000 in
theorem c_X0_appealAt {l : Launch} {g : Geo} {M : Nat → Nat → Int32} {P : Nat → Nat} {c : Nat} (hc : c < 6) {K : Nat} (hK : M c 6 = nI K) (hK12 : K ≤ 12) {ix : Int32} : Met l yX0_appealAt wsX0_appealAt rmX0_appealAt (cPre g [.ref (g.1 (24 * c)), .int ix] M P) (cQi g (fun r M' P' => (P = P' ∧ M = M') ∧ r = (match hd1 (M c) K ix with | some i => nI i | none => -1))) 0 0 (gA g) := by
  refine met_i (cc := cX0_appealAt) (maxL := 3) (by decide) rfl ⟨rfl, rfl⟩ (Nat.le_of_ble_eq_true rfl) (fun x hx h hret => ?_)
  replace h : Cxk x g cX0_appealAt 3 wsX0_appealAt RX0 rmX0_appealAt := h
  show X x 0 [(0, .ref (g.1 (24 * c))), (1, .int ix)] [] M P
  refine x_iconst h (nI 0) dX0_appealAt_0 (by decide) ?_
  refine x_istore_n h [(2, .int (nI 0)), (0, .ref (g.1 (24 * c))), (1, .int ix)] dX0_appealAt_1 rfl (by decide) rfl ?_
  have L2 : ∀ (fu : Nat) (i : Nat), (K - i) < fu → (i ≤ K) → (∀ j, j < i → decide (M c (223 + 13 * j + 5) = nI 1 ∧ nI (ahead (M c) K j) = ix) = false) → X x 2 [(0, .ref (g.1 (24 * c))), (1, .int ix), (2, .int (nI i))] [] M P := by
    intro fu
    induction fu with
    | zero => intro i hmu2; exact absurd hmu2 (Nat.not_lt_zero _)
    | succ fu ih2 =>
      intro i hmu2 hi hno
      refine x_iload_n h 2 dX0_appealAt_2 rfl rfl ?_
      refine x_aload_n h 0 dX0_appealAt_3 rfl rfl ?_
      refine xg_X0_6 h hc in_X0_appealAt_X0 (by decide +kernel) dX0_appealAt_4 ?_
      refine x_top (nI K) (hK) ?_
      refine x_icmp_ge_n h 46 dX0_appealAt_7 (by decide) (by omega) (by omega) (fun c_7 => ?_) (fun c_7 => ?_)
      · -- 7 true
        refine x_iconst h ((-1)) dX0_appealAt_46 (by decide) ?_
        exact hret _ _ _ _ _ dX0_appealAt_47 (by obtain rfl : i = K := (by omega); unfold hd1; rw [fnd_none hno]; exact ⟨⟨rfl, rfl⟩, rfl⟩)
      · -- 7 false
        refine x_iload_n h 2 dX0_appealAt_10 rfl rfl ?_
        refine x_bipush h (nI 12) dX0_appealAt_11 (by decide) ?_
        refine x_icmp_ge_n h 46 dX0_appealAt_13 (by decide) (by omega) (by decide) (fun c_13 => by exact absurd c_13 (by omega)) (fun c_13 => ?_)
        refine x_aload_n h 0 dX0_appealAt_16 rfl rfl ?_
        refine xg_X0_4 h hc in_X0_appealAt_X0 (by decide +kernel) dX0_appealAt_17 ?_
        refine x_iload_n h 2 dX0_appealAt_20 rfl rfl ?_
        refine xa_clms h hc dX0_appealAt_21 (by omega) ?_
        refine xg_X1_5 h hc (by omega) in_X0_appealAt_X1 (by decide +kernel) dX0_appealAt_22 ?_
        refine x_iconst h (nI 1) dX0_appealAt_25 (by decide) ?_
        refine x_icmp_ne h 40 dX0_appealAt_26 (by decide) (fun c_26 => ?_) (fun c_26 => ?_)
        · -- 26 true
          refine x_iinc_n h 2 (n := 1) [(2, .int (nI (i + 1))), (0, .ref (g.1 (24 * c))), (1, .int ix)] dX0_appealAt_40 rfl (by decide) rfl ?_
          refine x_goto h 2 dX0_appealAt_43 (by decide) ?_
          exact x_lv (ih2 (i + 1) (by omega) (by omega) (by (intro j hj; rcases Nat.lt_succ_iff_lt_or_eq.mp hj with e | rfl; exact hno j e; simp only [decide_eq_false_iff_not]; rintro ⟨e1, e2⟩; first | exact c_26 e1 | exact c_35 e2))) [1, 2, 0] rfl
        · -- 26 false
          refine x_aload_n h 0 dX0_appealAt_29 rfl rfl ?_
          refine x_iload_n h 2 dX0_appealAt_30 rfl rfl ?_
          refine x_callV h (As := [.int (nI i)]) 1 hx (c_X0_appealsAheadOf hc hK hK12 (by assumption)) gX0_appealAt_X0_appealsAheadOf rfl ⟨rfl, rfl⟩ (by decide +kernel) rfl (by decide) (hk_chip hc) (E_chip hc) rfl rfl (Nat.le_of_ble_eq_true rfl) dX0_appealAt_31 (fun rv M' P' hp => ?_)
          obtain ⟨⟨rfl, rfl⟩, rfl⟩ := hp
          refine x_iload_n h 1 dX0_appealAt_34 rfl rfl ?_
          refine x_icmp_ne h 40 dX0_appealAt_35 (by decide) (fun c_35 => ?_) (fun c_35 => ?_)
          · -- 35 true
            refine x_iinc_n h 2 (n := 1) [(2, .int (nI (i + 1))), (0, .ref (g.1 (24 * c))), (1, .int ix)] dX0_appealAt_40 rfl (by decide) rfl ?_
            refine x_goto h 2 dX0_appealAt_43 (by decide) ?_
            exact x_lv (ih2 (i + 1) (by omega) (by omega) (by (intro j hj; rcases Nat.lt_succ_iff_lt_or_eq.mp hj with e | rfl; exact hno j e; simp only [decide_eq_false_iff_not]; rintro ⟨e1, e2⟩; first | exact c_26 e1 | exact c_35 e2))) [1, 2, 0] rfl
          · -- 35 false
            refine x_iload_n h 2 dX0_appealAt_38 rfl rfl ?_
            exact hret _ _ _ _ _ dX0_appealAt_39 (by unfold hd1; rw [fnd_some (i := i) (by omega) (by simp only [decide_eq_true_eq]; exact ⟨c_26, c_35⟩) hno]; exact ⟨⟨rfl, rfl⟩, rfl⟩)
  exact x_lv (L2 _ 0 (Nat.lt_succ_self _) (by omega) (by exact fun j hj => absurd hj (Nat.not_lt_zero j))) [1, 2, 0] rfl

set_option maxRecDepth 20000 in
theorem ggX0_wrongedNets_X0_lossOf : GoodIn wsX0_wrongedNets wsX0_lossOf := goodIn_r _ [11, 12, 13, 14, 20, 21, 22, 23, 24, 25, 26, 27, 28, 29, 30, 31, 32, 33, 34] (by decide +kernel) (by decide +kernel)
set_option maxRecDepth 20000 in
theorem gX0_wrongedNets_X0_lossOf : GoodIn wsX0_wrongedNets (wsV RX0 197 RX0 yX0_lossOf wsX0_lossOf) := goodIn_app (goodIn_of _ (by decide +kernel)) ggX0_wrongedNets_X0_lossOf
set_option maxRecDepth 20000 in
theorem ggX0_wrongedNets_X0_hasNet : GoodIn wsX0_wrongedNets wsX0_hasNet := goodIn_r _ [18, 19, 20, 21, 22, 23, 24, 25, 26, 27] (by decide +kernel) (by decide +kernel)
set_option maxRecDepth 20000 in
theorem gX0_wrongedNets_X0_hasNet : GoodIn wsX0_wrongedNets (wsV RX0 110 RX0 yX0_hasNet wsX0_hasNet) := goodIn_app (goodIn_of _ (by decide +kernel)) ggX0_wrongedNets_X0_hasNet
theorem dX0_wrongedNets_0 : decode cX0_wrongedNets 0 = .ok (.iconst 0, 1) := by decide +kernel
theorem dX0_wrongedNets_1 : decode cX0_wrongedNets 1 = .ok (.istore_n 1, 1) := by decide +kernel
theorem dX0_wrongedNets_2 : decode cX0_wrongedNets 2 = .ok (.iconst 0, 1) := by decide +kernel
theorem dX0_wrongedNets_3 : decode cX0_wrongedNets 3 = .ok (.istore_n 2, 1) := by decide +kernel
theorem dX0_wrongedNets_4 : decode cX0_wrongedNets 4 = .ok (.iload_n 2, 1) := by decide +kernel
theorem dX0_wrongedNets_5 : decode cX0_wrongedNets 5 = .ok (.aload_n 0, 1) := by decide +kernel
theorem dX0_wrongedNets_6 : decode cX0_wrongedNets 6 = .ok (.getfield 49, 3) := by decide +kernel
theorem dX0_wrongedNets_9 : decode cX0_wrongedNets 9 = .ok (.if_icmp .ge 81, 3) := by decide +kernel
theorem dX0_wrongedNets_12 : decode cX0_wrongedNets 12 = .ok (.iload_n 2, 1) := by decide +kernel
theorem dX0_wrongedNets_13 : decode cX0_wrongedNets 13 = .ok (.bipush 12, 2) := by decide +kernel
theorem dX0_wrongedNets_15 : decode cX0_wrongedNets 15 = .ok (.if_icmp .ge 75, 3) := by decide +kernel
theorem dX0_wrongedNets_18 : decode cX0_wrongedNets 18 = .ok (.aload_n 0, 1) := by decide +kernel
theorem dX0_wrongedNets_19 : decode cX0_wrongedNets 19 = .ok (.getfield 30, 3) := by decide +kernel
theorem dX0_wrongedNets_22 : decode cX0_wrongedNets 22 = .ok (.iload_n 2, 1) := by decide +kernel
theorem dX0_wrongedNets_23 : decode cX0_wrongedNets 23 = .ok (.aaload, 1) := by decide +kernel
theorem dX0_wrongedNets_24 : decode cX0_wrongedNets 24 = .ok (.astore_n 3, 1) := by decide +kernel
theorem dX0_wrongedNets_25 : decode cX0_wrongedNets 25 = .ok (.aload_n 3, 1) := by decide +kernel
theorem dX0_wrongedNets_26 : decode cX0_wrongedNets 26 = .ok (.getfield 181, 3) := by decide +kernel
theorem dX0_wrongedNets_29 : decode cX0_wrongedNets 29 = .ok (.aload_n 0, 1) := by decide +kernel
theorem dX0_wrongedNets_30 : decode cX0_wrongedNets 30 = .ok (.aload_n 3, 1) := by decide +kernel
theorem dX0_wrongedNets_31 : decode cX0_wrongedNets 31 = .ok (.invokevirtual 197, 3) := by decide +kernel
theorem dX0_wrongedNets_34 : decode cX0_wrongedNets 34 = .ok (.if_icmp .ge 7, 3) := by decide +kernel
theorem dX0_wrongedNets_37 : decode cX0_wrongedNets 37 = .ok (.iconst 1, 1) := by decide +kernel
theorem dX0_wrongedNets_38 : decode cX0_wrongedNets 38 = .ok (.goto 4, 3) := by decide +kernel
theorem dX0_wrongedNets_41 : decode cX0_wrongedNets 41 = .ok (.iconst 0, 1) := by decide +kernel
theorem dX0_wrongedNets_42 : decode cX0_wrongedNets 42 = .ok (.istore 4, 2) := by decide +kernel
theorem dX0_wrongedNets_44 : decode cX0_wrongedNets 44 = .ok (.iload 4, 2) := by decide +kernel
theorem dX0_wrongedNets_46 : decode cX0_wrongedNets 46 = .ok (.ifCond .eq 38, 3) := by decide +kernel
theorem dX0_wrongedNets_49 : decode cX0_wrongedNets 49 = .ok (.aload_n 0, 1) := by decide +kernel
theorem dX0_wrongedNets_50 : decode cX0_wrongedNets 50 = .ok (.aload_n 3, 1) := by decide +kernel
theorem dX0_wrongedNets_51 : decode cX0_wrongedNets 51 = .ok (.getfield 169, 3) := by decide +kernel
theorem dX0_wrongedNets_54 : decode cX0_wrongedNets 54 = .ok (.invokevirtual 110, 3) := by decide +kernel
theorem dX0_wrongedNets_57 : decode cX0_wrongedNets 57 = .ok (.ifCond .eq 27, 3) := by decide +kernel
theorem dX0_wrongedNets_60 : decode cX0_wrongedNets 60 = .ok (.aload_n 0, 1) := by decide +kernel
theorem dX0_wrongedNets_61 : decode cX0_wrongedNets 61 = .ok (.getfield 23, 3) := by decide +kernel
theorem dX0_wrongedNets_64 : decode cX0_wrongedNets 64 = .ok (.aload_n 3, 1) := by decide +kernel
theorem dX0_wrongedNets_65 : decode cX0_wrongedNets 65 = .ok (.getfield 169, 3) := by decide +kernel
theorem dX0_wrongedNets_68 : decode cX0_wrongedNets 68 = .ok (.aaload, 1) := by decide +kernel
theorem dX0_wrongedNets_69 : decode cX0_wrongedNets 69 = .ok (.getfield 97, 3) := by decide +kernel
theorem dX0_wrongedNets_72 : decode cX0_wrongedNets 72 = .ok (.ifCond .ne 12, 3) := by decide +kernel
theorem dX0_wrongedNets_75 : decode cX0_wrongedNets 75 = .ok (.iload_n 1, 1) := by decide +kernel
theorem dX0_wrongedNets_76 : decode cX0_wrongedNets 76 = .ok (.iconst 1, 1) := by decide +kernel
theorem dX0_wrongedNets_77 : decode cX0_wrongedNets 77 = .ok (.aload_n 3, 1) := by decide +kernel
theorem dX0_wrongedNets_78 : decode cX0_wrongedNets 78 = .ok (.getfield 169, 3) := by decide +kernel
theorem dX0_wrongedNets_81 : decode cX0_wrongedNets 81 = .ok (.ishl, 1) := by decide +kernel
theorem dX0_wrongedNets_82 : decode cX0_wrongedNets 82 = .ok (.ior, 1) := by decide +kernel
theorem dX0_wrongedNets_83 : decode cX0_wrongedNets 83 = .ok (.istore_n 1, 1) := by decide +kernel
theorem dX0_wrongedNets_84 : decode cX0_wrongedNets 84 = .ok (.iinc 2 1, 3) := by decide +kernel
theorem dX0_wrongedNets_87 : decode cX0_wrongedNets 87 = .ok (.goto (-83), 3) := by decide +kernel
theorem dX0_wrongedNets_90 : decode cX0_wrongedNets 90 = .ok (.iload_n 1, 1) := by decide +kernel
theorem dX0_wrongedNets_91 : decode cX0_wrongedNets 91 = .ok (.ireturn, 1) := by decide +kernel
abbrev rmX0_wrongedNets : Room := { frames := 1, cells := 0, slots := 0, locals := 21 }
set_option maxRecDepth 20000 in
theorem in_X0_wrongedNets_X0 : ∀ w ∈ wsX00, w ∈ wsX0_wrongedNets := by decide +kernel
set_option maxRecDepth 20000 in
theorem in_X0_wrongedNets_X1 : ∀ w ∈ wsX10, w ∈ wsX0_wrongedNets := by decide +kernel
set_option maxRecDepth 20000 in
theorem in_X0_wrongedNets_X2 : ∀ w ∈ wsX20, w ∈ wsX0_wrongedNets := by decide +kernel

set_option maxRecDepth 100000 in
set_option maxHeartbeats 4000000 in
theorem c_X0_wrongedNets {l : Launch} {g : Geo} {M : Nat → Nat → Int32} {P : Nat → Nat} {c : Nat} (hc : c < 6) {N : Nat} (hN : M c 5 = nI N) (hN6 : N ≤ 6) {K : Nat} (hK : M c 6 = nI K) (hK12 : K ≤ 12) (hH : ∀ i, i < K → InR N (M c (223 + 13 * i))) : Met l yX0_wrongedNets wsX0_wrongedNets rmX0_wrongedNets (cPre g [.ref (g.1 (24 * c))] M P) (cQi g (fun r M' P' => (P = P' ∧ M = M') ∧ r = wrg (M c) K)) 0 0 (gA g) := by
  refine met_i (cc := cX0_wrongedNets) (maxL := 5) (by decide) rfl ⟨rfl, rfl⟩ (Nat.le_of_ble_eq_true rfl) (fun x hx h hret => ?_)
  replace h : Cxk x g cX0_wrongedNets 5 wsX0_wrongedNets RX0 rmX0_wrongedNets := h
  show X x 0 [(0, .ref (g.1 (24 * c)))] [] M P
  refine x_iconst h (nI 0) dX0_wrongedNets_0 (by decide) ?_
  refine x_istore_n h [(1, .int (nI 0)), (0, .ref (g.1 (24 * c)))] dX0_wrongedNets_1 rfl (by decide) rfl ?_
  refine x_iconst h (nI 0) dX0_wrongedNets_2 (by decide) ?_
  refine x_istore_n h [(2, .int (nI 0)), (1, .int (nI 0)), (0, .ref (g.1 (24 * c)))] dX0_wrongedNets_3 rfl (by decide) rfl ?_
  have L4 : ∀ (fu : Nat) (i : Nat) (z : Int32), (K - i) < fu → (i ≤ K) → (z = wrg (M c) i) → X x 4 [(0, .ref (g.1 (24 * c))), (1, .int z), (2, .int (nI i))] [] M P := by
    intro fu
    induction fu with
    | zero => intro i z hmu4; exact absurd hmu4 (Nat.not_lt_zero _)
    | succ fu ih4 =>
      intro i z hmu4 hi hz
      refine x_iload_n h 2 dX0_wrongedNets_4 rfl rfl ?_
      refine x_aload_n h 0 dX0_wrongedNets_5 rfl rfl ?_
      refine xg_X0_6 h hc in_X0_wrongedNets_X0 (by decide +kernel) dX0_wrongedNets_6 ?_
      refine x_top (nI K) (hK) ?_
      refine x_icmp_ge_n h 90 dX0_wrongedNets_9 (by decide) (by omega) (by omega) (fun c_9 => ?_) (fun c_9 => ?_)
      · -- 9 true
        refine x_iload_n h 1 dX0_wrongedNets_90 rfl rfl ?_
        exact hret _ _ _ _ _ dX0_wrongedNets_91 (by obtain rfl : i = K := (by omega); subst hz; exact ⟨⟨rfl, rfl⟩, rfl⟩)
      · -- 9 false
        refine x_iload_n h 2 dX0_wrongedNets_12 rfl rfl ?_
        refine x_bipush h (nI 12) dX0_wrongedNets_13 (by decide) ?_
        refine x_icmp_ge_n h 90 dX0_wrongedNets_15 (by decide) (by omega) (by decide) (fun c_15 => by exact absurd c_15 (by omega)) (fun c_15 => ?_)
        refine x_aload_n h 0 dX0_wrongedNets_18 rfl rfl ?_
        refine xg_X0_4 h hc in_X0_wrongedNets_X0 (by decide +kernel) dX0_wrongedNets_19 ?_
        refine x_iload_n h 2 dX0_wrongedNets_22 rfl rfl ?_
        refine xa_clms h hc dX0_wrongedNets_23 (by omega) ?_
        refine x_astore_n h [(3, .ref (g.1 (24 * c + 12 + i))), (0, .ref (g.1 (24 * c))), (1, .int z), (2, .int (nI i))] dX0_wrongedNets_24 rfl (by decide) rfl ?_
        refine x_aload_n h 0 dX0_wrongedNets_25 rfl rfl ?_
        refine xg_X1_4 h hc (by omega) in_X0_wrongedNets_X1 (by decide +kernel) dX0_wrongedNets_26 ?_
        refine x_aload_n h 1 dX0_wrongedNets_29 rfl rfl ?_
        refine x_aload_n h 0 dX0_wrongedNets_30 rfl rfl ?_
        refine x_callV h (As := [.ref (g.1 (24 * c + 12 + i))]) 1 hx (c_X0_lossOf hc (by omega)) gX0_wrongedNets_X0_lossOf rfl ⟨rfl, rfl⟩ (by decide +kernel) rfl (by decide) (hk_chip hc) (E_chip hc) rfl rfl (Nat.le_of_ble_eq_true rfl) dX0_wrongedNets_31 (fun rv M' P' hp => ?_)
        obtain ⟨⟨rfl, rfl⟩, rfl⟩ := hp
        refine x_icmp_ge h 41 dX0_wrongedNets_34 (by decide) (fun c_34 => ?_) (fun c_34 => ?_)
        · -- 34 true
          refine x_iconst h (nI 0) dX0_wrongedNets_41 (by decide) ?_
          refine x_istore h [(4, .int (nI 0)), (3, .ref (g.1 (24 * c + 12 + i))), (0, .ref (g.1 (24 * c))), (1, .int z), (2, .int (nI i))] dX0_wrongedNets_42 (by decide) rfl ?_
          refine x_iload h 0 dX0_wrongedNets_44 rfl ?_
          refine x_if_eq h 84 dX0_wrongedNets_46 (by decide) (fun _ => ?_) (fun c => absurd (by decide) c)
          refine x_iinc_n h 4 (n := 1) [(2, .int (nI (i + 1))), (4, .int (nI 0)), (3, .ref (g.1 (24 * c + 12 + i))), (0, .ref (g.1 (24 * c))), (1, .int z)] dX0_wrongedNets_84 rfl (by decide) rfl ?_
          refine x_goto h 4 dX0_wrongedNets_87 (by decide) ?_
          exact x_lv (ih4 (i + 1) z (by omega) (by omega) (by first | (rw [wrg, if_pos ⟨Int32.not_le.mp c_34, (by rw [ek54, nI_clamp (by omega)]; exact c_72)⟩, hz, ek54]) | (rw [wrg, if_neg (by rintro ⟨q1, q2⟩; first | exact absurd q1 (Int32.not_lt.mpr c_34) | (rw [ek54, nI_clamp (by omega)] at q2; exact c_72 q2)), hz]))) [3, 4, 0] rfl
        · -- 34 false
          refine x_iconst h (nI 1) dX0_wrongedNets_37 (by decide) ?_
          refine x_goto h 42 dX0_wrongedNets_38 (by decide) ?_
          refine x_istore h [(4, .int (nI 1)), (3, .ref (g.1 (24 * c + 12 + i))), (0, .ref (g.1 (24 * c))), (1, .int z), (2, .int (nI i))] dX0_wrongedNets_42 (by decide) rfl ?_
          refine x_iload h 0 dX0_wrongedNets_44 rfl ?_
          refine x_if_eq h 84 dX0_wrongedNets_46 (by decide) (fun c => absurd c (by decide)) (fun _ => ?_)
          refine x_aload_n h 2 dX0_wrongedNets_49 rfl rfl ?_
          refine x_aload_n h 1 dX0_wrongedNets_50 rfl rfl ?_
          refine xg_X1_0 h hc (by omega) in_X0_wrongedNets_X1 (by decide +kernel) dX0_wrongedNets_51 ?_
          refine x_callV h (As := [.int (M c (223 + 13 * i))]) 1 hx (c_X0_hasNet hc hN hN6) gX0_wrongedNets_X0_hasNet rfl ⟨rfl, rfl⟩ (by decide +kernel) rfl (by decide) (hk_chip hc) (E_chip hc) rfl rfl (Nat.le_of_ble_eq_true rfl) dX0_wrongedNets_54 (fun rv M' P' hp => ?_)
          obtain ⟨⟨rfl, rfl⟩, hp⟩ := hp
          rcases hp with ⟨⟨k54, hk54, ek54⟩, rfl⟩ | ⟨nk54, rfl⟩
          · -- call 54
            refine x_if_eq h 84 dX0_wrongedNets_57 (by decide) (fun c => absurd c (by decide)) (fun _ => ?_)
            refine x_aload_n h 2 dX0_wrongedNets_60 rfl rfl ?_
            refine xg_X0_3 h hc in_X0_wrongedNets_X0 (by decide +kernel) dX0_wrongedNets_61 ?_
            refine x_aload_n h 1 dX0_wrongedNets_64 rfl rfl ?_
            refine xg_X1_0 h hc (by omega) in_X0_wrongedNets_X1 (by decide +kernel) dX0_wrongedNets_65 ?_
            refine x_top (nI k54) (ek54) ?_
            refine xa_nets h hc dX0_wrongedNets_68 (by omega) ?_
            refine xg_X2_5 h hc (by omega) in_X0_wrongedNets_X2 (by decide +kernel) dX0_wrongedNets_69 ?_
            refine x_if_ne h 84 dX0_wrongedNets_72 (by decide) (fun c_72 => ?_) (fun c_72 => ?_)
            · -- 72 true
              refine x_iinc_n h 4 (n := 1) [(2, .int (nI (i + 1))), (4, .int (nI 1)), (3, .ref (g.1 (24 * c + 12 + i))), (0, .ref (g.1 (24 * c))), (1, .int z)] dX0_wrongedNets_84 rfl (by decide) rfl ?_
              refine x_goto h 4 dX0_wrongedNets_87 (by decide) ?_
              exact x_lv (ih4 (i + 1) z (by omega) (by omega) (by first | (rw [wrg, if_pos ⟨Int32.not_le.mp c_34, (by rw [ek54, nI_clamp (by omega)]; exact c_72)⟩, hz, ek54]) | (rw [wrg, if_neg (by rintro ⟨q1, q2⟩; first | exact absurd q1 (Int32.not_lt.mpr c_34) | (rw [ek54, nI_clamp (by omega)] at q2; exact c_72 q2)), hz]))) [3, 4, 0] rfl
            · -- 72 false
              refine x_iload_n h 3 dX0_wrongedNets_75 rfl rfl ?_
              refine x_iconst h (nI 1) dX0_wrongedNets_76 (by decide) ?_
              refine x_aload_n h 1 dX0_wrongedNets_77 rfl rfl ?_
              refine xg_X1_0 h hc (by omega) in_X0_wrongedNets_X1 (by decide +kernel) dX0_wrongedNets_78 ?_
              refine x_top (nI k54) (ek54) ?_
              refine x_ishl h dX0_wrongedNets_81 ?_
              refine x_ior h dX0_wrongedNets_82 ?_
              refine x_istore_n h [(1, .int (z ||| ((nI 1) <<< ((nI k54) &&& 31)))), (4, .int (nI 1)), (3, .ref (g.1 (24 * c + 12 + i))), (0, .ref (g.1 (24 * c))), (2, .int (nI i))] dX0_wrongedNets_83 rfl (by decide) rfl ?_
              refine x_iinc_n h 4 (n := 1) [(2, .int (nI (i + 1))), (1, .int (z ||| ((nI 1) <<< ((nI k54) &&& 31)))), (4, .int (nI 1)), (3, .ref (g.1 (24 * c + 12 + i))), (0, .ref (g.1 (24 * c)))] dX0_wrongedNets_84 rfl (by decide) rfl ?_
              refine x_goto h 4 dX0_wrongedNets_87 (by decide) ?_
              exact x_lv (ih4 (i + 1) (z ||| ((nI 1) <<< ((nI k54) &&& 31))) (by omega) (by omega) (by first | (rw [wrg, if_pos ⟨Int32.not_le.mp c_34, (by rw [ek54, nI_clamp (by omega)]; exact c_72)⟩, hz, ek54]) | (rw [wrg, if_neg (by rintro ⟨q1, q2⟩; first | exact absurd q1 (Int32.not_lt.mpr c_34) | (rw [ek54, nI_clamp (by omega)] at q2; exact c_72 q2)), hz]))) [4, 1, 0] rfl
          · -- call 54
            exact absurd (hH i (by omega)) nk54
  exact x_lv (L4 _ 0 (nI 0) (Nat.lt_succ_self _) (by omega) (by rfl)) [2, 1, 0] rfl

set_option maxRecDepth 20000 in
theorem ggX0_countOf_X0_joinedNets : GoodIn wsX0_countOf wsX0_joinedNets := goodIn_r _ [10, 1, 11, 12, 45, 46, 47, 48, 49, 50, 51, 52, 53, 54, 55, 56, 57, 58, 59, 60, 61] (by decide +kernel) (by decide +kernel)
set_option maxRecDepth 20000 in
theorem gX0_countOf_X0_joinedNets : GoodIn wsX0_countOf (wsV RX0 219 RX0 yX0_joinedNets wsX0_joinedNets) := goodIn_app (goodIn_of _ (by decide +kernel)) ggX0_countOf_X0_joinedNets
set_option maxRecDepth 20000 in
theorem ggX0_countOf_X0_blockedPlaces : GoodIn wsX0_countOf wsX0_blockedPlaces := goodIn_r _ [16, 17, 18, 19, 9, 20, 21, 45, 46, 47, 48, 49, 50, 51, 52] (by decide +kernel) (by decide +kernel)
set_option maxRecDepth 20000 in
theorem gX0_countOf_X0_blockedPlaces : GoodIn wsX0_countOf (wsV RX0 66 RX0 yX0_blockedPlaces wsX0_blockedPlaces) := goodIn_app (goodIn_of _ (by decide +kernel)) ggX0_countOf_X0_blockedPlaces
set_option maxRecDepth 20000 in
theorem ggX0_countOf_X0_cellsOwnedBy : GoodIn wsX0_countOf wsX0_cellsOwnedBy := goodIn_r _ [20, 21, 45, 46, 47, 48, 49, 50, 51, 52] (by decide +kernel) (by decide +kernel)
set_option maxRecDepth 20000 in
theorem gX0_countOf_X0_cellsOwnedBy : GoodIn wsX0_countOf (wsV RX0 115 RX0 yX0_cellsOwnedBy wsX0_cellsOwnedBy) := goodIn_app (goodIn_of _ (by decide +kernel)) ggX0_countOf_X0_cellsOwnedBy
set_option maxRecDepth 20000 in
theorem ggX0_countOf_X0_appealsToHear : GoodIn wsX0_countOf wsX0_appealsToHear := goodIn_r _ [25, 2, 26, 27, 45, 46, 47, 48, 49, 50, 51, 52, 62, 63, 64, 65, 66, 67, 68] (by decide +kernel) (by decide +kernel)
set_option maxRecDepth 20000 in
theorem gX0_countOf_X0_appealsToHear : GoodIn wsX0_countOf (wsV RX0 191 RX0 yX0_appealsToHear wsX0_appealsToHear) := goodIn_app (goodIn_of _ (by decide +kernel)) ggX0_countOf_X0_appealsToHear
set_option maxRecDepth 20000 in
theorem ggX0_countOf_X0_coinsInPurses : GoodIn wsX0_countOf wsX0_coinsInPurses := goodIn_r _ [31, 1, 11, 32, 45, 46, 47, 48, 49, 50, 51, 52, 53, 54, 55, 56, 57, 58, 59, 60, 61] (by decide +kernel) (by decide +kernel)
set_option maxRecDepth 20000 in
theorem gX0_countOf_X0_coinsInPurses : GoodIn wsX0_countOf (wsV RX0 222 RX0 yX0_coinsInPurses wsX0_coinsInPurses) := goodIn_app (goodIn_of _ (by decide +kernel)) ggX0_countOf_X0_coinsInPurses
set_option maxRecDepth 20000 in
theorem ggX0_countOf_X0_cellsOfWires : GoodIn wsX0_countOf wsX0_cellsOfWires := goodIn_r _ [36, 21, 37, 38, 39, 9, 40, 1, 45, 46, 47, 48, 49, 50, 51, 52] (by decide +kernel) (by decide +kernel)
set_option maxRecDepth 20000 in
theorem gX0_countOf_X0_cellsOfWires : GoodIn wsX0_countOf (wsV RX0 225 RX0 yX0_cellsOfWires wsX0_cellsOfWires) := goodIn_app (goodIn_of _ (by decide +kernel)) ggX0_countOf_X0_cellsOfWires
set_option maxRecDepth 20000 in
theorem ggX0_countOf_X0_crossings : GoodIn wsX0_countOf wsX0_crossings := goodIn_r _ [44, 21, 37, 38, 39, 9, 40, 1, 45, 46, 47, 48, 49, 50, 51, 52] (by decide +kernel) (by decide +kernel)
set_option maxRecDepth 20000 in
theorem gX0_countOf_X0_crossings : GoodIn wsX0_countOf (wsV RX0 228 RX0 yX0_crossings wsX0_crossings) := goodIn_app (goodIn_of _ (by decide +kernel)) ggX0_countOf_X0_crossings
theorem dX0_countOf_0 : decode cX0_countOf 0 = .ok (.iload_n 1, 1) := by decide +kernel
theorem dX0_countOf_1 : decode cX0_countOf 1 = .ok (.tableswitch 190 0 23 #[111, 116, 121, 126, 132, 137, 142, 147, 152, 157, 190, 190, 190, 190, 190, 190, 190, 190, 190, 190, 162, 169, 176, 183], 111) := by decide +kernel
theorem dX0_countOf_112 : decode cX0_countOf 112 = .ok (.aload_n 0, 1) := by decide +kernel
theorem dX0_countOf_113 : decode cX0_countOf 113 = .ok (.getfield 41, 3) := by decide +kernel
theorem dX0_countOf_116 : decode cX0_countOf 116 = .ok (.ireturn, 1) := by decide +kernel
theorem dX0_countOf_117 : decode cX0_countOf 117 = .ok (.aload_n 0, 1) := by decide +kernel
theorem dX0_countOf_118 : decode cX0_countOf 118 = .ok (.invokevirtual 219, 3) := by decide +kernel
theorem dX0_countOf_121 : decode cX0_countOf 121 = .ok (.ireturn, 1) := by decide +kernel
theorem dX0_countOf_122 : decode cX0_countOf 122 = .ok (.aload_n 0, 1) := by decide +kernel
theorem dX0_countOf_123 : decode cX0_countOf 123 = .ok (.invokevirtual 66, 3) := by decide +kernel
theorem dX0_countOf_126 : decode cX0_countOf 126 = .ok (.ireturn, 1) := by decide +kernel
theorem dX0_countOf_127 : decode cX0_countOf 127 = .ok (.aload_n 0, 1) := by decide +kernel
theorem dX0_countOf_128 : decode cX0_countOf 128 = .ok (.iconst (-1), 1) := by decide +kernel
theorem dX0_countOf_129 : decode cX0_countOf 129 = .ok (.invokevirtual 115, 3) := by decide +kernel
theorem dX0_countOf_132 : decode cX0_countOf 132 = .ok (.ireturn, 1) := by decide +kernel
theorem dX0_countOf_133 : decode cX0_countOf 133 = .ok (.aload_n 0, 1) := by decide +kernel
theorem dX0_countOf_134 : decode cX0_countOf 134 = .ok (.getfield 49, 3) := by decide +kernel
theorem dX0_countOf_137 : decode cX0_countOf 137 = .ok (.ireturn, 1) := by decide +kernel
theorem dX0_countOf_138 : decode cX0_countOf 138 = .ok (.aload_n 0, 1) := by decide +kernel
theorem dX0_countOf_139 : decode cX0_countOf 139 = .ok (.invokevirtual 191, 3) := by decide +kernel
theorem dX0_countOf_142 : decode cX0_countOf 142 = .ok (.ireturn, 1) := by decide +kernel
theorem dX0_countOf_143 : decode cX0_countOf 143 = .ok (.aload_n 0, 1) := by decide +kernel
theorem dX0_countOf_144 : decode cX0_countOf 144 = .ok (.getfield 55, 3) := by decide +kernel
theorem dX0_countOf_147 : decode cX0_countOf 147 = .ok (.ireturn, 1) := by decide +kernel
theorem dX0_countOf_148 : decode cX0_countOf 148 = .ok (.aload_n 0, 1) := by decide +kernel
theorem dX0_countOf_149 : decode cX0_countOf 149 = .ok (.invokevirtual 222, 3) := by decide +kernel
theorem dX0_countOf_152 : decode cX0_countOf 152 = .ok (.ireturn, 1) := by decide +kernel
theorem dX0_countOf_153 : decode cX0_countOf 153 = .ok (.aload_n 0, 1) := by decide +kernel
theorem dX0_countOf_154 : decode cX0_countOf 154 = .ok (.invokevirtual 225, 3) := by decide +kernel
theorem dX0_countOf_157 : decode cX0_countOf 157 = .ok (.ireturn, 1) := by decide +kernel
theorem dX0_countOf_158 : decode cX0_countOf 158 = .ok (.aload_n 0, 1) := by decide +kernel
theorem dX0_countOf_159 : decode cX0_countOf 159 = .ok (.invokevirtual 228, 3) := by decide +kernel
theorem dX0_countOf_162 : decode cX0_countOf 162 = .ok (.ireturn, 1) := by decide +kernel
theorem dX0_countOf_163 : decode cX0_countOf 163 = .ok (.aload_n 0, 1) := by decide +kernel
theorem dX0_countOf_164 : decode cX0_countOf 164 = .ok (.getfield 9, 3) := by decide +kernel
theorem dX0_countOf_167 : decode cX0_countOf 167 = .ok (.iconst 0, 1) := by decide +kernel
theorem dX0_countOf_168 : decode cX0_countOf 168 = .ok (.iaload, 1) := by decide +kernel
theorem dX0_countOf_169 : decode cX0_countOf 169 = .ok (.ireturn, 1) := by decide +kernel
theorem dX0_countOf_170 : decode cX0_countOf 170 = .ok (.aload_n 0, 1) := by decide +kernel
theorem dX0_countOf_171 : decode cX0_countOf 171 = .ok (.getfield 9, 3) := by decide +kernel
theorem dX0_countOf_174 : decode cX0_countOf 174 = .ok (.iconst 1, 1) := by decide +kernel
theorem dX0_countOf_175 : decode cX0_countOf 175 = .ok (.iaload, 1) := by decide +kernel
theorem dX0_countOf_176 : decode cX0_countOf 176 = .ok (.ireturn, 1) := by decide +kernel
theorem dX0_countOf_177 : decode cX0_countOf 177 = .ok (.aload_n 0, 1) := by decide +kernel
theorem dX0_countOf_178 : decode cX0_countOf 178 = .ok (.getfield 9, 3) := by decide +kernel
theorem dX0_countOf_181 : decode cX0_countOf 181 = .ok (.iconst 2, 1) := by decide +kernel
theorem dX0_countOf_182 : decode cX0_countOf 182 = .ok (.iaload, 1) := by decide +kernel
theorem dX0_countOf_183 : decode cX0_countOf 183 = .ok (.ireturn, 1) := by decide +kernel
theorem dX0_countOf_184 : decode cX0_countOf 184 = .ok (.aload_n 0, 1) := by decide +kernel
theorem dX0_countOf_185 : decode cX0_countOf 185 = .ok (.getfield 9, 3) := by decide +kernel
theorem dX0_countOf_188 : decode cX0_countOf 188 = .ok (.iconst 3, 1) := by decide +kernel
theorem dX0_countOf_189 : decode cX0_countOf 189 = .ok (.iaload, 1) := by decide +kernel
theorem dX0_countOf_190 : decode cX0_countOf 190 = .ok (.ireturn, 1) := by decide +kernel
theorem dX0_countOf_191 : decode cX0_countOf 191 = .ok (.ldc 64, 2) := by decide +kernel
theorem dX0_countOf_193 : decode cX0_countOf 193 = .ok (.ireturn, 1) := by decide +kernel
abbrev rmX0_countOf : Room := { frames := 2, cells := 0, slots := 0, locals := 45 }
set_option maxRecDepth 20000 in
theorem in_X0_countOf_X0 : ∀ w ∈ wsX00, w ∈ wsX0_countOf := by decide +kernel

set_option maxRecDepth 100000 in
set_option maxHeartbeats 4000000 in
theorem c_X0_countOf {l : Launch} {g : Geo} {M : Nat → Nat → Int32} {P : Nat → Nat} {c : Nat} (hc : c < 6) {N : Nat} (hN : M c 5 = nI N) (hN6 : N ≤ 6) {K : Nat} (hK : M c 6 = nI K) (hK12 : K ≤ 12) {w : Int32} : Met l yX0_countOf wsX0_countOf rmX0_countOf (cPre g [.ref (g.1 (24 * c)), .int w] M P) (cQi g (fun r M' P' => (P = P' ∧ M = M') ∧ ((∃ j, j < 24 ∧ w = nI j ∧ r = fCnt eC (M c) N K j) ∨ (¬ InR 24 w ∧ r = -1000001)))) 0 0 (gA g) := by
  refine met_i (cc := cX0_countOf) (maxL := 2) (by decide) rfl ⟨rfl, rfl⟩ (Nat.le_of_ble_eq_true rfl) (fun x hx h hret => ?_)
  replace h : Cxk x g cX0_countOf 2 wsX0_countOf RX0 rmX0_countOf := h
  show X x 0 [(0, .ref (g.1 (24 * c))), (1, .int w)] [] M P
  refine x_iload_n h 1 dX0_countOf_0 rfl rfl ?_
  by_cases hsw : w.toInt < 0 ∨ ((23 : Nat) : Int) < w.toInt
  · refine x_tableOut h 191 dX0_countOf_1 hsw (by decide) ?_
    refine x_ldc h ((-1000001)) (by decide +kernel) dX0_countOf_191 ?_
    exact hret _ _ _ _ _ dX0_countOf_193 (by exact ⟨⟨rfl, rfl⟩, Or.inr ⟨sw_no hsw (by decide) (by decide), rfl⟩⟩)
  · obtain ⟨jsw, hjsw, rfl⟩ := sw_of hsw (by decide)
    rcases (show jsw = 0 ∨ jsw = 1 ∨ jsw = 2 ∨ jsw = 3 ∨ jsw = 4 ∨ jsw = 5 ∨ jsw = 6 ∨ jsw = 7 ∨ jsw = 8 ∨ jsw = 9 ∨ jsw = 10 ∨ jsw = 11 ∨ jsw = 12 ∨ jsw = 13 ∨ jsw = 14 ∨ jsw = 15 ∨ jsw = 16 ∨ jsw = 17 ∨ jsw = 18 ∨ jsw = 19 ∨ jsw = 20 ∨ jsw = 21 ∨ jsw = 22 ∨ jsw = 23 by omega) with rfl | rfl | rfl | rfl | rfl | rfl | rfl | rfl | rfl | rfl | rfl | rfl | rfl | rfl | rfl | rfl | rfl | rfl | rfl | rfl | rfl | rfl | rfl | rfl
    · refine x_tableIn h (111) 112 dX0_countOf_1 (by decide) (by decide) rfl (by decide) ?_
      refine x_aload_n h 0 dX0_countOf_112 rfl rfl ?_
      refine xg_X0_5 h hc in_X0_countOf_X0 (by decide +kernel) dX0_countOf_113 ?_
      refine x_top (nI N) (hN) ?_
      exact hret _ _ _ _ _ dX0_countOf_116 (by exact ⟨⟨rfl, rfl⟩, Or.inl ⟨0, by decide, rfl, rfl⟩⟩)
    · refine x_tableIn h (116) 117 dX0_countOf_1 (by decide) (by decide) rfl (by decide) ?_
      refine x_aload_n h 0 dX0_countOf_117 rfl rfl ?_
      refine x_callV h (As := []) 0 hx (c_X0_joinedNets hc hN hN6) gX0_countOf_X0_joinedNets rfl ⟨rfl, rfl⟩ (by decide +kernel) rfl (by decide) (hk_chip hc) (E_chip hc) rfl rfl (Nat.le_of_ble_eq_true rfl) dX0_countOf_118 (fun rv M' P' hp => ?_)
      obtain ⟨⟨rfl, rfl⟩, rfl⟩ := hp
      exact hret _ _ _ _ _ dX0_countOf_121 (by exact ⟨⟨rfl, rfl⟩, Or.inl ⟨1, by decide, rfl, rfl⟩⟩)
    · refine x_tableIn h (121) 122 dX0_countOf_1 (by decide) (by decide) rfl (by decide) ?_
      refine x_aload_n h 0 dX0_countOf_122 rfl rfl ?_
      refine x_callV h (As := []) 0 hx (c_X0_blockedPlaces hc) gX0_countOf_X0_blockedPlaces rfl ⟨rfl, rfl⟩ (by decide +kernel) rfl (by decide) (hk_chip hc) (E_chip hc) rfl rfl (Nat.le_of_ble_eq_true rfl) dX0_countOf_123 (fun rv M' P' hp => ?_)
      obtain ⟨⟨rfl, rfl⟩, rfl⟩ := hp
      exact hret _ _ _ _ _ dX0_countOf_126 (by exact ⟨⟨rfl, rfl⟩, Or.inl ⟨2, by decide, rfl, rfl⟩⟩)
    · refine x_tableIn h (126) 127 dX0_countOf_1 (by decide) (by decide) rfl (by decide) ?_
      refine x_aload_n h 0 dX0_countOf_127 rfl rfl ?_
      refine x_iconst h ((-1)) dX0_countOf_128 (by decide) ?_
      refine x_callV h (As := [.int (-1)]) 1 hx (c_X0_cellsOwnedBy hc) gX0_countOf_X0_cellsOwnedBy rfl ⟨rfl, rfl⟩ (by decide +kernel) rfl (by decide) (hk_chip hc) (E_chip hc) rfl rfl (Nat.le_of_ble_eq_true rfl) dX0_countOf_129 (fun rv M' P' hp => ?_)
      obtain ⟨⟨rfl, rfl⟩, rfl⟩ := hp
      exact hret _ _ _ _ _ dX0_countOf_132 (by exact ⟨⟨rfl, rfl⟩, Or.inl ⟨3, by decide, rfl, rfl⟩⟩)
    · refine x_tableIn h (132) 133 dX0_countOf_1 (by decide) (by decide) rfl (by decide) ?_
      refine x_aload_n h 0 dX0_countOf_133 rfl rfl ?_
      refine xg_X0_6 h hc in_X0_countOf_X0 (by decide +kernel) dX0_countOf_134 ?_
      refine x_top (nI K) (hK) ?_
      exact hret _ _ _ _ _ dX0_countOf_137 (by exact ⟨⟨rfl, rfl⟩, Or.inl ⟨4, by decide, rfl, rfl⟩⟩)
    · refine x_tableIn h (137) 138 dX0_countOf_1 (by decide) (by decide) rfl (by decide) ?_
      refine x_aload_n h 0 dX0_countOf_138 rfl rfl ?_
      refine x_callV h (As := []) 0 hx (c_X0_appealsToHear hc hK hK12) gX0_countOf_X0_appealsToHear rfl ⟨rfl, rfl⟩ (by decide +kernel) rfl (by decide) (hk_chip hc) (E_chip hc) rfl rfl (Nat.le_of_ble_eq_true rfl) dX0_countOf_139 (fun rv M' P' hp => ?_)
      obtain ⟨⟨rfl, rfl⟩, rfl⟩ := hp
      exact hret _ _ _ _ _ dX0_countOf_142 (by exact ⟨⟨rfl, rfl⟩, Or.inl ⟨5, by decide, rfl, rfl⟩⟩)
    · refine x_tableIn h (142) 143 dX0_countOf_1 (by decide) (by decide) rfl (by decide) ?_
      refine x_aload_n h 0 dX0_countOf_143 rfl rfl ?_
      refine xg_X0_7 h hc in_X0_countOf_X0 (by decide +kernel) dX0_countOf_144 ?_
      exact hret _ _ _ _ _ dX0_countOf_147 (by exact ⟨⟨rfl, rfl⟩, Or.inl ⟨6, by decide, rfl, rfl⟩⟩)
    · refine x_tableIn h (147) 148 dX0_countOf_1 (by decide) (by decide) rfl (by decide) ?_
      refine x_aload_n h 0 dX0_countOf_148 rfl rfl ?_
      refine x_callV h (As := []) 0 hx (c_X0_coinsInPurses hc hN hN6) gX0_countOf_X0_coinsInPurses rfl ⟨rfl, rfl⟩ (by decide +kernel) rfl (by decide) (hk_chip hc) (E_chip hc) rfl rfl (Nat.le_of_ble_eq_true rfl) dX0_countOf_149 (fun rv M' P' hp => ?_)
      obtain ⟨⟨rfl, rfl⟩, rfl⟩ := hp
      exact hret _ _ _ _ _ dX0_countOf_152 (by exact ⟨⟨rfl, rfl⟩, Or.inl ⟨7, by decide, rfl, rfl⟩⟩)
    · refine x_tableIn h (152) 153 dX0_countOf_1 (by decide) (by decide) rfl (by decide) ?_
      refine x_aload_n h 0 dX0_countOf_153 rfl rfl ?_
      refine x_callV h (As := []) 0 hx (c_X0_cellsOfWires hc hN hN6) gX0_countOf_X0_cellsOfWires rfl ⟨rfl, rfl⟩ (by decide +kernel) rfl (by decide) (hk_chip hc) (E_chip hc) rfl rfl (Nat.le_of_ble_eq_true rfl) dX0_countOf_154 (fun rv M' P' hp => ?_)
      obtain ⟨⟨rfl, rfl⟩, rfl⟩ := hp
      exact hret _ _ _ _ _ dX0_countOf_157 (by exact ⟨⟨rfl, rfl⟩, Or.inl ⟨8, by decide, rfl, rfl⟩⟩)
    · refine x_tableIn h (157) 158 dX0_countOf_1 (by decide) (by decide) rfl (by decide) ?_
      refine x_aload_n h 0 dX0_countOf_158 rfl rfl ?_
      refine x_callV h (As := []) 0 hx (c_X0_crossings hc hN hN6) gX0_countOf_X0_crossings rfl ⟨rfl, rfl⟩ (by decide +kernel) rfl (by decide) (hk_chip hc) (E_chip hc) rfl rfl (Nat.le_of_ble_eq_true rfl) dX0_countOf_159 (fun rv M' P' hp => ?_)
      obtain ⟨⟨rfl, rfl⟩, rfl⟩ := hp
      exact hret _ _ _ _ _ dX0_countOf_162 (by exact ⟨⟨rfl, rfl⟩, Or.inl ⟨9, by decide, rfl, rfl⟩⟩)
    · refine x_tableIn h (190) 191 dX0_countOf_1 (by decide) (by decide) rfl (by decide) ?_
      refine x_ldc h ((-1000001)) (by decide +kernel) dX0_countOf_191 ?_
      exact hret _ _ _ _ _ dX0_countOf_193 (by exact ⟨⟨rfl, rfl⟩, Or.inl ⟨10, by decide, rfl, rfl⟩⟩)
    · refine x_tableIn h (190) 191 dX0_countOf_1 (by decide) (by decide) rfl (by decide) ?_
      refine x_ldc h ((-1000001)) (by decide +kernel) dX0_countOf_191 ?_
      exact hret _ _ _ _ _ dX0_countOf_193 (by exact ⟨⟨rfl, rfl⟩, Or.inl ⟨11, by decide, rfl, rfl⟩⟩)
    · refine x_tableIn h (190) 191 dX0_countOf_1 (by decide) (by decide) rfl (by decide) ?_
      refine x_ldc h ((-1000001)) (by decide +kernel) dX0_countOf_191 ?_
      exact hret _ _ _ _ _ dX0_countOf_193 (by exact ⟨⟨rfl, rfl⟩, Or.inl ⟨12, by decide, rfl, rfl⟩⟩)
    · refine x_tableIn h (190) 191 dX0_countOf_1 (by decide) (by decide) rfl (by decide) ?_
      refine x_ldc h ((-1000001)) (by decide +kernel) dX0_countOf_191 ?_
      exact hret _ _ _ _ _ dX0_countOf_193 (by exact ⟨⟨rfl, rfl⟩, Or.inl ⟨13, by decide, rfl, rfl⟩⟩)
    · refine x_tableIn h (190) 191 dX0_countOf_1 (by decide) (by decide) rfl (by decide) ?_
      refine x_ldc h ((-1000001)) (by decide +kernel) dX0_countOf_191 ?_
      exact hret _ _ _ _ _ dX0_countOf_193 (by exact ⟨⟨rfl, rfl⟩, Or.inl ⟨14, by decide, rfl, rfl⟩⟩)
    · refine x_tableIn h (190) 191 dX0_countOf_1 (by decide) (by decide) rfl (by decide) ?_
      refine x_ldc h ((-1000001)) (by decide +kernel) dX0_countOf_191 ?_
      exact hret _ _ _ _ _ dX0_countOf_193 (by exact ⟨⟨rfl, rfl⟩, Or.inl ⟨15, by decide, rfl, rfl⟩⟩)
    · refine x_tableIn h (190) 191 dX0_countOf_1 (by decide) (by decide) rfl (by decide) ?_
      refine x_ldc h ((-1000001)) (by decide +kernel) dX0_countOf_191 ?_
      exact hret _ _ _ _ _ dX0_countOf_193 (by exact ⟨⟨rfl, rfl⟩, Or.inl ⟨16, by decide, rfl, rfl⟩⟩)
    · refine x_tableIn h (190) 191 dX0_countOf_1 (by decide) (by decide) rfl (by decide) ?_
      refine x_ldc h ((-1000001)) (by decide +kernel) dX0_countOf_191 ?_
      exact hret _ _ _ _ _ dX0_countOf_193 (by exact ⟨⟨rfl, rfl⟩, Or.inl ⟨17, by decide, rfl, rfl⟩⟩)
    · refine x_tableIn h (190) 191 dX0_countOf_1 (by decide) (by decide) rfl (by decide) ?_
      refine x_ldc h ((-1000001)) (by decide +kernel) dX0_countOf_191 ?_
      exact hret _ _ _ _ _ dX0_countOf_193 (by exact ⟨⟨rfl, rfl⟩, Or.inl ⟨18, by decide, rfl, rfl⟩⟩)
    · refine x_tableIn h (190) 191 dX0_countOf_1 (by decide) (by decide) rfl (by decide) ?_
      refine x_ldc h ((-1000001)) (by decide +kernel) dX0_countOf_191 ?_
      exact hret _ _ _ _ _ dX0_countOf_193 (by exact ⟨⟨rfl, rfl⟩, Or.inl ⟨19, by decide, rfl, rfl⟩⟩)
    · refine x_tableIn h (162) 163 dX0_countOf_1 (by decide) (by decide) rfl (by decide) ?_
      refine x_aload_n h 0 dX0_countOf_163 rfl rfl ?_
      refine xg_X0_0 h hc in_X0_countOf_X0 (by decide +kernel) dX0_countOf_164 ?_
      refine x_iconst h (nI 0) dX0_countOf_167 (by decide) ?_
      refine xl_sett h hc dX0_countOf_168 (by decide) ?_
      exact hret _ _ _ _ _ dX0_countOf_169 (by exact ⟨⟨rfl, rfl⟩, Or.inl ⟨20, by decide, rfl, rfl⟩⟩)
    · refine x_tableIn h (169) 170 dX0_countOf_1 (by decide) (by decide) rfl (by decide) ?_
      refine x_aload_n h 0 dX0_countOf_170 rfl rfl ?_
      refine xg_X0_0 h hc in_X0_countOf_X0 (by decide +kernel) dX0_countOf_171 ?_
      refine x_iconst h (nI 1) dX0_countOf_174 (by decide) ?_
      refine xl_sett h hc dX0_countOf_175 (by decide) ?_
      exact hret _ _ _ _ _ dX0_countOf_176 (by exact ⟨⟨rfl, rfl⟩, Or.inl ⟨21, by decide, rfl, rfl⟩⟩)
    · refine x_tableIn h (176) 177 dX0_countOf_1 (by decide) (by decide) rfl (by decide) ?_
      refine x_aload_n h 0 dX0_countOf_177 rfl rfl ?_
      refine xg_X0_0 h hc in_X0_countOf_X0 (by decide +kernel) dX0_countOf_178 ?_
      refine x_iconst h (nI 2) dX0_countOf_181 (by decide) ?_
      refine xl_sett h hc dX0_countOf_182 (by decide) ?_
      exact hret _ _ _ _ _ dX0_countOf_183 (by exact ⟨⟨rfl, rfl⟩, Or.inl ⟨22, by decide, rfl, rfl⟩⟩)
    · refine x_tableIn h (183) 184 dX0_countOf_1 (by decide) (by decide) rfl (by decide) ?_
      refine x_aload_n h 0 dX0_countOf_184 rfl rfl ?_
      refine xg_X0_0 h hc in_X0_countOf_X0 (by decide +kernel) dX0_countOf_185 ?_
      refine x_iconst h (nI 3) dX0_countOf_188 (by decide) ?_
      refine xl_sett h hc dX0_countOf_189 (by decide) ?_
      exact hret _ _ _ _ _ dX0_countOf_190 (by exact ⟨⟨rfl, rfl⟩, Or.inl ⟨23, by decide, rfl, rfl⟩⟩)

theorem dX0_loseWire_0 : decode cX0_loseWire 0 = .ok (.iconst 0, 1) := by decide +kernel
theorem dX0_loseWire_1 : decode cX0_loseWire 1 = .ok (.istore_n 2, 1) := by decide +kernel
theorem dX0_loseWire_2 : decode cX0_loseWire 2 = .ok (.iload_n 2, 1) := by decide +kernel
theorem dX0_loseWire_3 : decode cX0_loseWire 3 = .ok (.sipush 162, 3) := by decide +kernel
theorem dX0_loseWire_6 : decode cX0_loseWire 6 = .ok (.if_icmp .ge 26, 3) := by decide +kernel
theorem dX0_loseWire_9 : decode cX0_loseWire 9 = .ok (.aload_n 0, 1) := by decide +kernel
theorem dX0_loseWire_10 : decode cX0_loseWire 10 = .ok (.getfield 15, 3) := by decide +kernel
theorem dX0_loseWire_13 : decode cX0_loseWire 13 = .ok (.iload_n 2, 1) := by decide +kernel
theorem dX0_loseWire_14 : decode cX0_loseWire 14 = .ok (.iaload, 1) := by decide +kernel
theorem dX0_loseWire_15 : decode cX0_loseWire 15 = .ok (.iload_n 1, 1) := by decide +kernel
theorem dX0_loseWire_16 : decode cX0_loseWire 16 = .ok (.if_icmp .ne 10, 3) := by decide +kernel
theorem dX0_loseWire_19 : decode cX0_loseWire 19 = .ok (.aload_n 0, 1) := by decide +kernel
theorem dX0_loseWire_20 : decode cX0_loseWire 20 = .ok (.getfield 15, 3) := by decide +kernel
theorem dX0_loseWire_23 : decode cX0_loseWire 23 = .ok (.iload_n 2, 1) := by decide +kernel
theorem dX0_loseWire_24 : decode cX0_loseWire 24 = .ok (.iconst (-1), 1) := by decide +kernel
theorem dX0_loseWire_25 : decode cX0_loseWire 25 = .ok (.iastore, 1) := by decide +kernel
theorem dX0_loseWire_26 : decode cX0_loseWire 26 = .ok (.iinc 2 1, 3) := by decide +kernel
theorem dX0_loseWire_29 : decode cX0_loseWire 29 = .ok (.goto (-27), 3) := by decide +kernel
theorem dX0_loseWire_32 : decode cX0_loseWire 32 = .ok (.aload_n 0, 1) := by decide +kernel
theorem dX0_loseWire_33 : decode cX0_loseWire 33 = .ok (.getfield 23, 3) := by decide +kernel
theorem dX0_loseWire_36 : decode cX0_loseWire 36 = .ok (.iload_n 1, 1) := by decide +kernel
theorem dX0_loseWire_37 : decode cX0_loseWire 37 = .ok (.aaload, 1) := by decide +kernel
theorem dX0_loseWire_38 : decode cX0_loseWire 38 = .ok (.iconst 0, 1) := by decide +kernel
theorem dX0_loseWire_39 : decode cX0_loseWire 39 = .ok (.putfield 97, 3) := by decide +kernel
theorem dX0_loseWire_42 : decode cX0_loseWire 42 = .ok (.return_, 1) := by decide +kernel
abbrev rmX0_loseWire : Room := { frames := 0, cells := 0, slots := 0, locals := 0 }
set_option maxRecDepth 20000 in
theorem in_X0_loseWire_X0 : ∀ w ∈ wsX00, w ∈ wsX0_loseWire := by decide +kernel
set_option maxRecDepth 20000 in
theorem in_X0_loseWire_X2 : ∀ w ∈ wsX20, w ∈ wsX0_loseWire := by decide +kernel

set_option maxRecDepth 100000 in
set_option maxHeartbeats 4000000 in
theorem c_X0_loseWire {l : Launch} {g : Geo} {M : Nat → Nat → Int32} {P : Nat → Nat} {c : Nat} (hc : c < 6) {k : Nat} (hk6 : k < 6) : Met l yX0_loseWire wsX0_loseWire rmX0_loseWire (cPre g [.ref (g.1 (24 * c)), .int (nI k)] M P) (cQv g (fun M' P' => P = P' ∧ M' = va_up M c (loseE eC (M c) k))) 0 0 (gA g) := by
  refine met_v (cc := cX0_loseWire) (maxL := 3) (by decide) rfl ⟨rfl, rfl⟩ (Nat.le_of_ble_eq_true rfl) (fun x hx h hret => ?_)
  replace h : Cxk x g cX0_loseWire 3 wsX0_loseWire RX0 rmX0_loseWire := h
  show X x 0 [(0, .ref (g.1 (24 * c))), (1, .int (nI k))] [] M P
  refine x_iconst h (nI 0) dX0_loseWire_0 (by decide) ?_
  refine x_istore_n h [(2, .int (nI 0)), (0, .ref (g.1 (24 * c))), (1, .int (nI k))] dX0_loseWire_1 rfl (by decide) rfl ?_
  have L2 : ∀ (fu : Nat) (i : Nat) (W : Nat → Nat → Int32), (162 - i) < fu → (i ≤ 162) → (W = va_up M c (scan 7 (M c) (fun _ v => if v = nI k then -1 else v) i)) → X x 2 [(0, .ref (g.1 (24 * c))), (1, .int (nI k)), (2, .int (nI i))] [] W P := by
    intro fu
    induction fu with
    | zero => intro i W hmu2; exact absurd hmu2 (Nat.not_lt_zero _)
    | succ fu ih2 =>
      intro i W hmu2 hi hW
      refine x_iload_n h 2 dX0_loseWire_2 rfl rfl ?_
      refine x_sipush h (nI 162) dX0_loseWire_3 (by decide) ?_
      refine x_icmp_ge_n h 32 dX0_loseWire_6 (by decide) (by omega) (by decide) (fun c_6 => ?_) (fun c_6 => ?_)
      · -- 6 true
        refine x_aload_n h 0 dX0_loseWire_32 rfl rfl ?_
        refine xg_X0_3 h hc in_X0_loseWire_X0 (by decide +kernel) dX0_loseWire_33 ?_
        refine x_iload_n h 1 dX0_loseWire_36 rfl rfl ?_
        refine xa_nets h hc dX0_loseWire_37 (by omega) ?_
        refine x_iconst h (nI 0) dX0_loseWire_38 (by decide) ?_
        refine xp_X2_5 h hc (by omega) (by decide) in_X0_loseWire_X2 (by decide +kernel) dX0_loseWire_39 ?_
        exact hret _ _ _ _ dX0_loseWire_42 (by obtain rfl : i = 162 := (by omega); refine ⟨rfl, ?_⟩; rw [st2_va, hW, va_up_up, va_up_k]; rfl)
      · -- 6 false
        refine x_aload_n h 0 dX0_loseWire_9 rfl rfl ?_
        refine xg_X0_1 h hc in_X0_loseWire_X0 (by decide +kernel) dX0_loseWire_10 ?_
        refine x_iload_n h 2 dX0_loseWire_13 rfl rfl ?_
        refine xl_own h hc dX0_loseWire_14 (by omega) ?_
        refine x_iload_n h 1 dX0_loseWire_15 rfl rfl ?_
        refine x_icmp_ne h 26 dX0_loseWire_16 (by decide) (fun c_16 => ?_) (fun c_16 => ?_)
        · -- 16 true
          refine x_iinc_n h 2 (n := 1) [(2, .int (nI (i + 1))), (0, .ref (g.1 (24 * c))), (1, .int (nI k))] dX0_loseWire_26 rfl (by decide) rfl ?_
          refine x_goto h 2 dX0_loseWire_29 (by decide) ?_
          exact x_lv (ih2 (i + 1) W (by omega) (by omega) (by first | (rw [st2_va, hW, va_up_up, va_up_k]; exact congrArg _ (scan_s 7 (M c) (fun _ v => if v = nI k then -1 else v) i (by rw [if_pos (by rw [hW, va_up_k, scan_at] at c_16; exact c_16)]))) | (rw [hW, scan_n 7 (M c) (fun _ v => if v = nI k then -1 else v) i (if_neg (by rw [hW, va_up_k, scan_at] at c_16; exact c_16))]))) [1, 2, 0] rfl
        · -- 16 false
          refine x_aload_n h 0 dX0_loseWire_19 rfl rfl ?_
          refine xg_X0_1 h hc in_X0_loseWire_X0 (by decide +kernel) dX0_loseWire_20 ?_
          refine x_iload_n h 2 dX0_loseWire_23 rfl rfl ?_
          refine x_iconst h ((-1)) dX0_loseWire_24 (by decide) ?_
          refine xs_own h hc dX0_loseWire_25 (by omega) ?_
          refine x_iinc_n h 2 (n := 1) [(2, .int (nI (i + 1))), (0, .ref (g.1 (24 * c))), (1, .int (nI k))] dX0_loseWire_26 rfl (by decide) rfl ?_
          refine x_goto h 2 dX0_loseWire_29 (by decide) ?_
          exact x_lv (ih2 (i + 1) (st2 W c (7 + i) (-1)) (by omega) (by omega) (by first | (rw [st2_va, hW, va_up_up, va_up_k]; exact congrArg _ (scan_s 7 (M c) (fun _ v => if v = nI k then -1 else v) i (by rw [if_pos (by rw [hW, va_up_k, scan_at] at c_16; exact c_16)]))) | (rw [hW, scan_n 7 (M c) (fun _ v => if v = nI k then -1 else v) i (if_neg (by rw [hW, va_up_k, scan_at] at c_16; exact c_16))]))) [1, 2, 0] rfl
  exact x_lv (L2 _ 0 M (Nat.lt_succ_self _) (by omega) (by rw [scan_0, va_up_id])) [1, 2, 0] rfl

theorem dX0_isLostWireFree_0 : decode cX0_isLostWireFree 0 = .ok (.iconst 0, 1) := by decide +kernel
theorem dX0_isLostWireFree_1 : decode cX0_isLostWireFree 1 = .ok (.istore_n 2, 1) := by decide +kernel
theorem dX0_isLostWireFree_2 : decode cX0_isLostWireFree 2 = .ok (.iload_n 2, 1) := by decide +kernel
theorem dX0_isLostWireFree_3 : decode cX0_isLostWireFree 3 = .ok (.sipush 162, 3) := by decide +kernel
theorem dX0_isLostWireFree_6 : decode cX0_isLostWireFree 6 = .ok (.if_icmp .ge 35, 3) := by decide +kernel
theorem dX0_isLostWireFree_9 : decode cX0_isLostWireFree 9 = .ok (.aload_n 0, 1) := by decide +kernel
theorem dX0_isLostWireFree_10 : decode cX0_isLostWireFree 10 = .ok (.getfield 18, 3) := by decide +kernel
theorem dX0_isLostWireFree_13 : decode cX0_isLostWireFree 13 = .ok (.iload_n 2, 1) := by decide +kernel
theorem dX0_isLostWireFree_14 : decode cX0_isLostWireFree 14 = .ok (.iaload, 1) := by decide +kernel
theorem dX0_isLostWireFree_15 : decode cX0_isLostWireFree 15 = .ok (.iload_n 1, 1) := by decide +kernel
theorem dX0_isLostWireFree_16 : decode cX0_isLostWireFree 16 = .ok (.ishr, 1) := by decide +kernel
theorem dX0_isLostWireFree_17 : decode cX0_isLostWireFree 17 = .ok (.iconst 1, 1) := by decide +kernel
theorem dX0_isLostWireFree_18 : decode cX0_isLostWireFree 18 = .ok (.iand, 1) := by decide +kernel
theorem dX0_isLostWireFree_19 : decode cX0_isLostWireFree 19 = .ok (.iconst 1, 1) := by decide +kernel
theorem dX0_isLostWireFree_20 : decode cX0_isLostWireFree 20 = .ok (.if_icmp .ne 15, 3) := by decide +kernel
theorem dX0_isLostWireFree_23 : decode cX0_isLostWireFree 23 = .ok (.aload_n 0, 1) := by decide +kernel
theorem dX0_isLostWireFree_24 : decode cX0_isLostWireFree 24 = .ok (.getfield 15, 3) := by decide +kernel
theorem dX0_isLostWireFree_27 : decode cX0_isLostWireFree 27 = .ok (.iload_n 2, 1) := by decide +kernel
theorem dX0_isLostWireFree_28 : decode cX0_isLostWireFree 28 = .ok (.iaload, 1) := by decide +kernel
theorem dX0_isLostWireFree_29 : decode cX0_isLostWireFree 29 = .ok (.iconst (-1), 1) := by decide +kernel
theorem dX0_isLostWireFree_30 : decode cX0_isLostWireFree 30 = .ok (.if_icmp .eq 5, 3) := by decide +kernel
theorem dX0_isLostWireFree_33 : decode cX0_isLostWireFree 33 = .ok (.iconst 0, 1) := by decide +kernel
theorem dX0_isLostWireFree_34 : decode cX0_isLostWireFree 34 = .ok (.ireturn, 1) := by decide +kernel
theorem dX0_isLostWireFree_35 : decode cX0_isLostWireFree 35 = .ok (.iinc 2 1, 3) := by decide +kernel
theorem dX0_isLostWireFree_38 : decode cX0_isLostWireFree 38 = .ok (.goto (-36), 3) := by decide +kernel
theorem dX0_isLostWireFree_41 : decode cX0_isLostWireFree 41 = .ok (.iconst 1, 1) := by decide +kernel
theorem dX0_isLostWireFree_42 : decode cX0_isLostWireFree 42 = .ok (.ireturn, 1) := by decide +kernel
abbrev rmX0_isLostWireFree : Room := { frames := 0, cells := 0, slots := 0, locals := 0 }
set_option maxRecDepth 20000 in
theorem in_X0_isLostWireFree_X0 : ∀ w ∈ wsX00, w ∈ wsX0_isLostWireFree := by decide +kernel

set_option maxRecDepth 100000 in
set_option maxHeartbeats 4000000 in
theorem c_X0_isLostWireFree {l : Launch} {g : Geo} {M : Nat → Nat → Int32} {P : Nat → Nat} {c : Nat} (hc : c < 6) {i0 : Nat} (hi0 : i0 < 12) : Met l yX0_isLostWireFree wsX0_isLostWireFree rmX0_isLostWireFree (cPre g [.ref (g.1 (24 * c)), .int (nI i0)] M P) (cQi g (fun r M' P' => (P = P' ∧ M = M') ∧ ((lostFree eC (M c) i0 ∧ r = nI 1) ∨ (¬ lostFree eC (M c) i0 ∧ r = nI 0)))) 0 0 (gA g) := by
  refine met_z (cc := cX0_isLostWireFree) (maxL := 3) (by decide) rfl ⟨rfl, rfl⟩ (Nat.le_of_ble_eq_true rfl) (fun x hx h hret => ?_)
  replace h : Cxk x g cX0_isLostWireFree 3 wsX0_isLostWireFree RX0 rmX0_isLostWireFree := h
  show X x 0 [(0, .ref (g.1 (24 * c))), (1, .int (nI i0))] [] M P
  refine x_iconst h (nI 0) dX0_isLostWireFree_0 (by decide) ?_
  refine x_istore_n h [(2, .int (nI 0)), (0, .ref (g.1 (24 * c))), (1, .int (nI i0))] dX0_isLostWireFree_1 rfl (by decide) rfl ?_
  have L2 : ∀ (fu : Nat) (i : Nat), (162 - i) < fu → (i ≤ 162) → (∀ a, a < i → bit1 (M c (400 + a)) i0 → M c (7 + a) = -1) → X x 2 [(0, .ref (g.1 (24 * c))), (1, .int (nI i0)), (2, .int (nI i))] [] M P := by
    intro fu
    induction fu with
    | zero => intro i hmu2; exact absurd hmu2 (Nat.not_lt_zero _)
    | succ fu ih2 =>
      intro i hmu2 hi hal
      refine x_iload_n h 2 dX0_isLostWireFree_2 rfl rfl ?_
      refine x_sipush h (nI 162) dX0_isLostWireFree_3 (by decide) ?_
      refine x_icmp_ge_n h 41 dX0_isLostWireFree_6 (by decide) (by omega) (by decide) (fun c_6 => ?_) (fun c_6 => ?_)
      · -- 6 true
        refine x_iconst h (nI 1) dX0_isLostWireFree_41 (by decide) ?_
        exact hret _ _ _ _ _ dX0_isLostWireFree_42 (by decide) (by exact ⟨⟨rfl, rfl⟩, Or.inl ⟨fun a ha => hal a (by omega), rfl⟩⟩)
      · -- 6 false
        refine x_aload_n h 0 dX0_isLostWireFree_9 rfl rfl ?_
        refine xg_X0_2 h hc in_X0_isLostWireFree_X0 (by decide +kernel) dX0_isLostWireFree_10 ?_
        refine x_iload_n h 2 dX0_isLostWireFree_13 rfl rfl ?_
        refine xl_lost h hc dX0_isLostWireFree_14 (by omega) ?_
        refine x_iload_n h 1 dX0_isLostWireFree_15 rfl rfl ?_
        refine x_ishr h dX0_isLostWireFree_16 ?_
        refine x_iconst h (nI 1) dX0_isLostWireFree_17 (by decide) ?_
        refine x_iand h dX0_isLostWireFree_18 ?_
        refine x_iconst h (nI 1) dX0_isLostWireFree_19 (by decide) ?_
        refine x_icmp_ne h 35 dX0_isLostWireFree_20 (by decide) (fun c_20 => ?_) (fun c_20 => ?_)
        · -- 20 true
          refine x_iinc_n h 2 (n := 1) [(2, .int (nI (i + 1))), (0, .ref (g.1 (24 * c))), (1, .int (nI i0))] dX0_isLostWireFree_35 rfl (by decide) rfl ?_
          refine x_goto h 2 dX0_isLostWireFree_38 (by decide) ?_
          exact x_lv (ih2 (i + 1) (by omega) (by omega) (by (intro a ha; rcases Nat.lt_succ_iff_lt_or_eq.mp ha with e | rfl; exact hal a e; intro hb; first | exact c_30 | exact absurd hb c_20))) [1, 2, 0] rfl
        · -- 20 false
          refine x_aload_n h 0 dX0_isLostWireFree_23 rfl rfl ?_
          refine xg_X0_1 h hc in_X0_isLostWireFree_X0 (by decide +kernel) dX0_isLostWireFree_24 ?_
          refine x_iload_n h 2 dX0_isLostWireFree_27 rfl rfl ?_
          refine xl_own h hc dX0_isLostWireFree_28 (by omega) ?_
          refine x_iconst h ((-1)) dX0_isLostWireFree_29 (by decide) ?_
          refine x_icmp_eq h 35 dX0_isLostWireFree_30 (by decide) (fun c_30 => ?_) (fun c_30 => ?_)
          · -- 30 true
            refine x_iinc_n h 2 (n := 1) [(2, .int (nI (i + 1))), (0, .ref (g.1 (24 * c))), (1, .int (nI i0))] dX0_isLostWireFree_35 rfl (by decide) rfl ?_
            refine x_goto h 2 dX0_isLostWireFree_38 (by decide) ?_
            exact x_lv (ih2 (i + 1) (by omega) (by omega) (by (intro a ha; rcases Nat.lt_succ_iff_lt_or_eq.mp ha with e | rfl; exact hal a e; intro hb; first | exact c_30 | exact absurd hb c_20))) [1, 2, 0] rfl
          · -- 30 false
            refine x_iconst h (nI 0) dX0_isLostWireFree_33 (by decide) ?_
            exact hret _ _ _ _ _ dX0_isLostWireFree_34 (by decide) (by exact ⟨⟨rfl, rfl⟩, Or.inr ⟨fun q => c_30 (q i (by omega) c_20), rfl⟩⟩)
  exact x_lv (L2 _ 0 (Nat.lt_succ_self _) (by omega) (by exact fun a ha => absurd ha (Nat.not_lt_zero a))) [1, 2, 0] rfl

set_option maxRecDepth 20000 in
theorem ggX0_giveBack_X0_isLostWireFree : GoodIn wsX0_giveBack wsX0_isLostWireFree := goodIn_r _ [9, 3, 4, 10, 11, 12, 13, 14, 15, 16, 17] (by decide +kernel) (by decide +kernel)
set_option maxRecDepth 20000 in
theorem gX0_giveBack_X0_isLostWireFree : GoodIn wsX0_giveBack (wsV RX0 213 RX0 yX0_isLostWireFree wsX0_isLostWireFree) := goodIn_app (goodIn_of _ (by decide +kernel)) ggX0_giveBack_X0_isLostWireFree
theorem dX0_giveBack_0 : decode cX0_giveBack 0 = .ok (.aload_n 0, 1) := by decide +kernel
theorem dX0_giveBack_1 : decode cX0_giveBack 1 = .ok (.getfield 23, 3) := by decide +kernel
theorem dX0_giveBack_4 : decode cX0_giveBack 4 = .ok (.iload_n 2, 1) := by decide +kernel
theorem dX0_giveBack_5 : decode cX0_giveBack 5 = .ok (.aaload, 1) := by decide +kernel
theorem dX0_giveBack_6 : decode cX0_giveBack 6 = .ok (.getfield 97, 3) := by decide +kernel
theorem dX0_giveBack_9 : decode cX0_giveBack 9 = .ok (.ifCond .ne 11, 3) := by decide +kernel
theorem dX0_giveBack_12 : decode cX0_giveBack 12 = .ok (.aload_n 0, 1) := by decide +kernel
theorem dX0_giveBack_13 : decode cX0_giveBack 13 = .ok (.iload_n 1, 1) := by decide +kernel
theorem dX0_giveBack_14 : decode cX0_giveBack 14 = .ok (.invokevirtual 213, 3) := by decide +kernel
theorem dX0_giveBack_17 : decode cX0_giveBack 17 = .ok (.ifCond .ne 4, 3) := by decide +kernel
theorem dX0_giveBack_20 : decode cX0_giveBack 20 = .ok (.return_, 1) := by decide +kernel
theorem dX0_giveBack_21 : decode cX0_giveBack 21 = .ok (.iconst 0, 1) := by decide +kernel
theorem dX0_giveBack_22 : decode cX0_giveBack 22 = .ok (.istore_n 3, 1) := by decide +kernel
theorem dX0_giveBack_23 : decode cX0_giveBack 23 = .ok (.iload_n 3, 1) := by decide +kernel
theorem dX0_giveBack_24 : decode cX0_giveBack 24 = .ok (.sipush 162, 3) := by decide +kernel
theorem dX0_giveBack_27 : decode cX0_giveBack 27 = .ok (.if_icmp .ge 30, 3) := by decide +kernel
theorem dX0_giveBack_30 : decode cX0_giveBack 30 = .ok (.aload_n 0, 1) := by decide +kernel
theorem dX0_giveBack_31 : decode cX0_giveBack 31 = .ok (.getfield 18, 3) := by decide +kernel
theorem dX0_giveBack_34 : decode cX0_giveBack 34 = .ok (.iload_n 3, 1) := by decide +kernel
theorem dX0_giveBack_35 : decode cX0_giveBack 35 = .ok (.iaload, 1) := by decide +kernel
theorem dX0_giveBack_36 : decode cX0_giveBack 36 = .ok (.iload_n 1, 1) := by decide +kernel
theorem dX0_giveBack_37 : decode cX0_giveBack 37 = .ok (.ishr, 1) := by decide +kernel
theorem dX0_giveBack_38 : decode cX0_giveBack 38 = .ok (.iconst 1, 1) := by decide +kernel
theorem dX0_giveBack_39 : decode cX0_giveBack 39 = .ok (.iand, 1) := by decide +kernel
theorem dX0_giveBack_40 : decode cX0_giveBack 40 = .ok (.iconst 1, 1) := by decide +kernel
theorem dX0_giveBack_41 : decode cX0_giveBack 41 = .ok (.if_icmp .ne 10, 3) := by decide +kernel
theorem dX0_giveBack_44 : decode cX0_giveBack 44 = .ok (.aload_n 0, 1) := by decide +kernel
theorem dX0_giveBack_45 : decode cX0_giveBack 45 = .ok (.getfield 15, 3) := by decide +kernel
theorem dX0_giveBack_48 : decode cX0_giveBack 48 = .ok (.iload_n 3, 1) := by decide +kernel
theorem dX0_giveBack_49 : decode cX0_giveBack 49 = .ok (.iload_n 2, 1) := by decide +kernel
theorem dX0_giveBack_50 : decode cX0_giveBack 50 = .ok (.iastore, 1) := by decide +kernel
theorem dX0_giveBack_51 : decode cX0_giveBack 51 = .ok (.iinc 3 1, 3) := by decide +kernel
theorem dX0_giveBack_54 : decode cX0_giveBack 54 = .ok (.goto (-31), 3) := by decide +kernel
theorem dX0_giveBack_57 : decode cX0_giveBack 57 = .ok (.aload_n 0, 1) := by decide +kernel
theorem dX0_giveBack_58 : decode cX0_giveBack 58 = .ok (.getfield 23, 3) := by decide +kernel
theorem dX0_giveBack_61 : decode cX0_giveBack 61 = .ok (.iload_n 2, 1) := by decide +kernel
theorem dX0_giveBack_62 : decode cX0_giveBack 62 = .ok (.aaload, 1) := by decide +kernel
theorem dX0_giveBack_63 : decode cX0_giveBack 63 = .ok (.iconst 1, 1) := by decide +kernel
theorem dX0_giveBack_64 : decode cX0_giveBack 64 = .ok (.putfield 97, 3) := by decide +kernel
theorem dX0_giveBack_67 : decode cX0_giveBack 67 = .ok (.return_, 1) := by decide +kernel
abbrev rmX0_giveBack : Room := { frames := 1, cells := 0, slots := 0, locals := 22 }
set_option maxRecDepth 20000 in
theorem in_X0_giveBack_X0 : ∀ w ∈ wsX00, w ∈ wsX0_giveBack := by decide +kernel
set_option maxRecDepth 20000 in
theorem in_X0_giveBack_X2 : ∀ w ∈ wsX20, w ∈ wsX0_giveBack := by decide +kernel

set_option maxRecDepth 100000 in
set_option maxHeartbeats 4000000 in
theorem c_X0_giveBack {l : Launch} {g : Geo} {M : Nat → Nat → Int32} {P : Nat → Nat} {c : Nat} (hc : c < 6) {i0 k : Nat} (hi0 : i0 < 12) (hk6 : k < 6) : Met l yX0_giveBack wsX0_giveBack rmX0_giveBack (cPre g [.ref (g.1 (24 * c)), .int (nI i0), .int (nI k)] M P) (cQv g (fun M' P' => P = P' ∧ ((¬ (M c (169 + 9 * k + 5) = 0 ∧ lostFree eC (M c) i0) ∧ M' = M) ∨ (M c (169 + 9 * k + 5) = 0 ∧ lostFree eC (M c) i0 ∧ M' = va_up M c (backF eC (M c) i0 k))))) 0 0 (gA g) := by
  refine met_v (cc := cX0_giveBack) (maxL := 4) (by decide) rfl ⟨rfl, rfl⟩ (Nat.le_of_ble_eq_true rfl) (fun x hx h hret => ?_)
  replace h : Cxk x g cX0_giveBack 4 wsX0_giveBack RX0 rmX0_giveBack := h
  show X x 0 [(0, .ref (g.1 (24 * c))), (1, .int (nI i0)), (2, .int (nI k))] [] M P
  refine x_aload_n h 0 dX0_giveBack_0 rfl rfl ?_
  refine xg_X0_3 h hc in_X0_giveBack_X0 (by decide +kernel) dX0_giveBack_1 ?_
  refine x_iload_n h 2 dX0_giveBack_4 rfl rfl ?_
  refine xa_nets h hc dX0_giveBack_5 (by omega) ?_
  refine xg_X2_5 h hc (by omega) in_X0_giveBack_X2 (by decide +kernel) dX0_giveBack_6 ?_
  refine x_if_ne h 20 dX0_giveBack_9 (by decide) (fun c_9 => ?_) (fun c_9 => ?_)
  · -- 9 true
    exact hret _ _ _ _ dX0_giveBack_20 (by exact ⟨rfl, Or.inl ⟨(by first | exact fun q => c_9 q.1 | exact fun q => nf14 q.2), rfl⟩⟩)
  · -- 9 false
    refine x_aload_n h 0 dX0_giveBack_12 rfl rfl ?_
    refine x_iload_n h 1 dX0_giveBack_13 rfl rfl ?_
    refine x_callV h (As := [.int (nI i0)]) 1 hx (c_X0_isLostWireFree hc (by omega)) gX0_giveBack_X0_isLostWireFree rfl ⟨rfl, rfl⟩ (by decide +kernel) rfl (by decide) (hk_chip hc) (E_chip hc) rfl rfl (Nat.le_of_ble_eq_true rfl) dX0_giveBack_14 (fun rv M' P' hp => ?_)
    obtain ⟨⟨rfl, rfl⟩, hp⟩ := hp
    rcases hp with ⟨f14, rfl⟩ | ⟨nf14, rfl⟩
    · -- call 14
      refine x_if_ne h 21 dX0_giveBack_17 (by decide) (fun _ => ?_) (fun c => absurd c (by decide))
      refine x_iconst h (nI 0) dX0_giveBack_21 (by decide) ?_
      refine x_istore_n h [(3, .int (nI 0)), (0, .ref (g.1 (24 * c))), (1, .int (nI i0)), (2, .int (nI k))] dX0_giveBack_22 rfl (by decide) rfl ?_
      have L23 : ∀ (fu : Nat) (i : Nat) (W : Nat → Nat → Int32), (162 - i) < fu → (i ≤ 162) → (W = va_up M c (scan 7 (M c) (fun a v => if bit1 (M c (400 + a)) i0 then nI k else v) i)) → X x 23 [(0, .ref (g.1 (24 * c))), (1, .int (nI i0)), (2, .int (nI k)), (3, .int (nI i))] [] W P := by
        intro fu
        induction fu with
        | zero => intro i W hmu23; exact absurd hmu23 (Nat.not_lt_zero _)
        | succ fu ih23 =>
          intro i W hmu23 hi hW
          refine x_iload_n h 3 dX0_giveBack_23 rfl rfl ?_
          refine x_sipush h (nI 162) dX0_giveBack_24 (by decide) ?_
          refine x_icmp_ge_n h 57 dX0_giveBack_27 (by decide) (by omega) (by decide) (fun c_27 => ?_) (fun c_27 => ?_)
          · -- 27 true
            refine x_aload_n h 0 dX0_giveBack_57 rfl rfl ?_
            refine xg_X0_3 h hc in_X0_giveBack_X0 (by decide +kernel) dX0_giveBack_58 ?_
            refine x_iload_n h 2 dX0_giveBack_61 rfl rfl ?_
            refine xa_nets h hc dX0_giveBack_62 (by omega) ?_
            refine x_iconst h (nI 1) dX0_giveBack_63 (by decide) ?_
            refine xp_X2_5 h hc (by omega) (by decide) in_X0_giveBack_X2 (by decide +kernel) dX0_giveBack_64 ?_
            exact hret _ _ _ _ dX0_giveBack_67 (by obtain rfl : i = 162 := (by omega); refine ⟨rfl, Or.inr ⟨c_9, f14, ?_⟩⟩; rw [st2_va, hW, va_up_up, va_up_k]; rfl)
          · -- 27 false
            refine x_aload_n h 0 dX0_giveBack_30 rfl rfl ?_
            refine xg_X0_2 h hc in_X0_giveBack_X0 (by decide +kernel) dX0_giveBack_31 ?_
            refine x_iload_n h 3 dX0_giveBack_34 rfl rfl ?_
            refine xl_lost h hc dX0_giveBack_35 (by omega) ?_
            refine x_iload_n h 1 dX0_giveBack_36 rfl rfl ?_
            refine x_ishr h dX0_giveBack_37 ?_
            refine x_iconst h (nI 1) dX0_giveBack_38 (by decide) ?_
            refine x_iand h dX0_giveBack_39 ?_
            refine x_iconst h (nI 1) dX0_giveBack_40 (by decide) ?_
            refine x_icmp_ne h 51 dX0_giveBack_41 (by decide) (fun c_41 => ?_) (fun c_41 => ?_)
            · -- 41 true
              refine x_iinc_n h 3 (n := 1) [(3, .int (nI (i + 1))), (0, .ref (g.1 (24 * c))), (1, .int (nI i0)), (2, .int (nI k))] dX0_giveBack_51 rfl (by decide) rfl ?_
              refine x_goto h 23 dX0_giveBack_54 (by decide) ?_
              exact x_lv (ih23 (i + 1) W (by omega) (by omega) (by first | (rw [st2_va, hW, va_up_up, va_up_k]; exact congrArg _ (scan_s 7 (M c) (fun a v => if bit1 (M c (400 + a)) i0 then nI k else v) i (by rw [if_pos (by rw [hW, va_up_k, scan_ge _ _ (by omega)] at c_41; exact c_41)]))) | (rw [hW, scan_n 7 (M c) (fun a v => if bit1 (M c (400 + a)) i0 then nI k else v) i (if_neg (by rw [hW, va_up_k, scan_ge _ _ (by omega)] at c_41; exact c_41))]))) [1, 2, 3, 0] rfl
            · -- 41 false
              refine x_aload_n h 0 dX0_giveBack_44 rfl rfl ?_
              refine xg_X0_1 h hc in_X0_giveBack_X0 (by decide +kernel) dX0_giveBack_45 ?_
              refine x_iload_n h 3 dX0_giveBack_48 rfl rfl ?_
              refine x_iload_n h 2 dX0_giveBack_49 rfl rfl ?_
              refine xs_own h hc dX0_giveBack_50 (by omega) ?_
              refine x_iinc_n h 3 (n := 1) [(3, .int (nI (i + 1))), (0, .ref (g.1 (24 * c))), (1, .int (nI i0)), (2, .int (nI k))] dX0_giveBack_51 rfl (by decide) rfl ?_
              refine x_goto h 23 dX0_giveBack_54 (by decide) ?_
              exact x_lv (ih23 (i + 1) (st2 W c (7 + i) (nI k)) (by omega) (by omega) (by first | (rw [st2_va, hW, va_up_up, va_up_k]; exact congrArg _ (scan_s 7 (M c) (fun a v => if bit1 (M c (400 + a)) i0 then nI k else v) i (by rw [if_pos (by rw [hW, va_up_k, scan_ge _ _ (by omega)] at c_41; exact c_41)]))) | (rw [hW, scan_n 7 (M c) (fun a v => if bit1 (M c (400 + a)) i0 then nI k else v) i (if_neg (by rw [hW, va_up_k, scan_ge _ _ (by omega)] at c_41; exact c_41))]))) [1, 2, 3, 0] rfl
      exact x_lv (L23 _ 0 M (Nat.lt_succ_self _) (by omega) (by rw [scan_0, va_up_id])) [1, 2, 3, 0] rfl
    · -- call 14
      refine x_if_ne h 21 dX0_giveBack_17 (by decide) (fun c => absurd c (by decide)) (fun _ => ?_)
      exact hret _ _ _ _ dX0_giveBack_20 (by exact ⟨rfl, Or.inl ⟨(by first | exact fun q => c_9 q.1 | exact fun q => nf14 q.2), rfl⟩⟩)

set_option maxRecDepth 20000 in
theorem ggX0_ripNet_X0_hasNet : GoodIn wsX0_ripNet wsX0_hasNet := goodIn_r _ [10, 11, 21, 22, 23, 24, 25, 26, 27, 28] (by decide +kernel) (by decide +kernel)
set_option maxRecDepth 20000 in
theorem gX0_ripNet_X0_hasNet : GoodIn wsX0_ripNet (wsV RX0 110 RX0 yX0_hasNet wsX0_hasNet) := goodIn_app (goodIn_of _ (by decide +kernel)) ggX0_ripNet_X0_hasNet
set_option maxRecDepth 20000 in
theorem ggX0_ripNet_X0_cellsOwnedBy : GoodIn wsX0_ripNet wsX0_cellsOwnedBy := goodIn_r _ [15, 16, 21, 22, 23, 24, 25, 26, 27, 28] (by decide +kernel) (by decide +kernel)
set_option maxRecDepth 20000 in
theorem gX0_ripNet_X0_cellsOwnedBy : GoodIn wsX0_ripNet (wsV RX0 115 RX0 yX0_cellsOwnedBy wsX0_cellsOwnedBy) := goodIn_app (goodIn_of _ (by decide +kernel)) ggX0_ripNet_X0_cellsOwnedBy
set_option maxRecDepth 20000 in
theorem ggX0_ripNet_X0_loseWire : GoodIn wsX0_ripNet wsX0_loseWire := goodIn_r _ [20, 16, 2, 3, 21, 22, 23, 24, 25, 26, 27, 28, 29, 30, 31, 32, 33, 34, 35, 36, 37] (by decide +kernel) (by decide +kernel)
set_option maxRecDepth 20000 in
theorem gX0_ripNet_X0_loseWire : GoodIn wsX0_ripNet (wsV RX0 160 RX0 yX0_loseWire wsX0_loseWire) := goodIn_app (goodIn_of _ (by decide +kernel)) ggX0_ripNet_X0_loseWire
theorem dX0_ripNet_0 : decode cX0_ripNet 0 = .ok (.aload_n 0, 1) := by decide +kernel
theorem dX0_ripNet_1 : decode cX0_ripNet 1 = .ok (.iload_n 1, 1) := by decide +kernel
theorem dX0_ripNet_2 : decode cX0_ripNet 2 = .ok (.invokevirtual 110, 3) := by decide +kernel
theorem dX0_ripNet_5 : decode cX0_ripNet 5 = .ok (.ifCond .ne 6, 3) := by decide +kernel
theorem dX0_ripNet_8 : decode cX0_ripNet 8 = .ok (.ldc 64, 2) := by decide +kernel
theorem dX0_ripNet_10 : decode cX0_ripNet 10 = .ok (.ireturn, 1) := by decide +kernel
theorem dX0_ripNet_11 : decode cX0_ripNet 11 = .ok (.aload_n 0, 1) := by decide +kernel
theorem dX0_ripNet_12 : decode cX0_ripNet 12 = .ok (.getfield 23, 3) := by decide +kernel
theorem dX0_ripNet_15 : decode cX0_ripNet 15 = .ok (.iload_n 1, 1) := by decide +kernel
theorem dX0_ripNet_16 : decode cX0_ripNet 16 = .ok (.aaload, 1) := by decide +kernel
theorem dX0_ripNet_17 : decode cX0_ripNet 17 = .ok (.getfield 97, 3) := by decide +kernel
theorem dX0_ripNet_20 : decode cX0_ripNet 20 = .ok (.ifCond .ne 6, 3) := by decide +kernel
theorem dX0_ripNet_23 : decode cX0_ripNet 23 = .ok (.ldc 65, 2) := by decide +kernel
theorem dX0_ripNet_25 : decode cX0_ripNet 25 = .ok (.ireturn, 1) := by decide +kernel
theorem dX0_ripNet_26 : decode cX0_ripNet 26 = .ok (.aload_n 0, 1) := by decide +kernel
theorem dX0_ripNet_27 : decode cX0_ripNet 27 = .ok (.iload_n 1, 1) := by decide +kernel
theorem dX0_ripNet_28 : decode cX0_ripNet 28 = .ok (.invokevirtual 115, 3) := by decide +kernel
theorem dX0_ripNet_31 : decode cX0_ripNet 31 = .ok (.istore_n 2, 1) := by decide +kernel
theorem dX0_ripNet_32 : decode cX0_ripNet 32 = .ok (.aload_n 0, 1) := by decide +kernel
theorem dX0_ripNet_33 : decode cX0_ripNet 33 = .ok (.iload_n 1, 1) := by decide +kernel
theorem dX0_ripNet_34 : decode cX0_ripNet 34 = .ok (.invokevirtual 160, 3) := by decide +kernel
theorem dX0_ripNet_37 : decode cX0_ripNet 37 = .ok (.aload_n 0, 1) := by decide +kernel
theorem dX0_ripNet_38 : decode cX0_ripNet 38 = .ok (.dup, 1) := by decide +kernel
theorem dX0_ripNet_39 : decode cX0_ripNet 39 = .ok (.getfield 55, 3) := by decide +kernel
theorem dX0_ripNet_42 : decode cX0_ripNet 42 = .ok (.iconst 1, 1) := by decide +kernel
theorem dX0_ripNet_43 : decode cX0_ripNet 43 = .ok (.iadd, 1) := by decide +kernel
theorem dX0_ripNet_44 : decode cX0_ripNet 44 = .ok (.putfield 55, 3) := by decide +kernel
theorem dX0_ripNet_47 : decode cX0_ripNet 47 = .ok (.iload_n 2, 1) := by decide +kernel
theorem dX0_ripNet_48 : decode cX0_ripNet 48 = .ok (.ireturn, 1) := by decide +kernel
abbrev rmX0_ripNet : Room := { frames := 1, cells := 0, slots := 0, locals := 23 }
set_option maxRecDepth 20000 in
theorem in_X0_ripNet_X0 : ∀ w ∈ wsX00, w ∈ wsX0_ripNet := by decide +kernel
set_option maxRecDepth 20000 in
theorem in_X0_ripNet_X2 : ∀ w ∈ wsX20, w ∈ wsX0_ripNet := by decide +kernel

set_option maxRecDepth 100000 in
set_option maxHeartbeats 4000000 in
theorem c_X0_ripNet {l : Launch} {g : Geo} {M : Nat → Nat → Int32} {P : Nat → Nat} {c : Nat} (hc : c < 6) {N : Nat} (hN : M c 5 = nI N) (hN6 : N ≤ 6) {n : Int32} : Met l yX0_ripNet wsX0_ripNet rmX0_ripNet (cPre g [.ref (g.1 (24 * c)), .int n] M P) (cQi g (fun r M' P' => P = P' ∧ ∃ X', ripQ eC (M c) N n r X' ∧ M' = va_up M c X')) 0 0 (gA g) := by
  refine met_i (cc := cX0_ripNet) (maxL := 3) (by decide) rfl ⟨rfl, rfl⟩ (Nat.le_of_ble_eq_true rfl) (fun x hx h hret => ?_)
  replace h : Cxk x g cX0_ripNet 3 wsX0_ripNet RX0 rmX0_ripNet := h
  show X x 0 [(0, .ref (g.1 (24 * c))), (1, .int n)] [] M P
  refine x_aload_n h 0 dX0_ripNet_0 rfl rfl ?_
  refine x_iload_n h 1 dX0_ripNet_1 rfl rfl ?_
  refine x_callV h (As := [.int n]) 1 hx (c_X0_hasNet hc hN hN6) gX0_ripNet_X0_hasNet rfl ⟨rfl, rfl⟩ (by decide +kernel) rfl (by decide) (hk_chip hc) (E_chip hc) rfl rfl (Nat.le_of_ble_eq_true rfl) dX0_ripNet_2 (fun rv M' P' hp => ?_)
  obtain ⟨⟨rfl, rfl⟩, hp⟩ := hp
  rcases hp with ⟨⟨k2, hk2, rfl⟩, rfl⟩ | ⟨nk2, rfl⟩
  · -- call 2
    refine x_if_ne h 11 dX0_ripNet_5 (by decide) (fun _ => ?_) (fun c => absurd c (by decide))
    refine x_aload_n h 0 dX0_ripNet_11 rfl rfl ?_
    refine xg_X0_3 h hc in_X0_ripNet_X0 (by decide +kernel) dX0_ripNet_12 ?_
    refine x_iload_n h 1 dX0_ripNet_15 rfl rfl ?_
    refine xa_nets h hc dX0_ripNet_16 (by omega) ?_
    refine xg_X2_5 h hc (by omega) in_X0_ripNet_X2 (by decide +kernel) dX0_ripNet_17 ?_
    refine x_if_ne h 26 dX0_ripNet_20 (by decide) (fun c_20 => ?_) (fun c_20 => ?_)
    · -- 20 true
      refine x_aload_n h 0 dX0_ripNet_26 rfl rfl ?_
      refine x_iload_n h 1 dX0_ripNet_27 rfl rfl ?_
      refine x_callV h (As := [.int (nI k2)]) 1 hx (c_X0_cellsOwnedBy hc) gX0_ripNet_X0_cellsOwnedBy rfl ⟨rfl, rfl⟩ (by decide +kernel) rfl (by decide) (hk_chip hc) (E_chip hc) rfl rfl (Nat.le_of_ble_eq_true rfl) dX0_ripNet_28 (fun rv M' P' hp => ?_)
      obtain ⟨⟨rfl, rfl⟩, rfl⟩ := hp
      refine x_istore_n h [(2, .int (nI (wir (M c) (nI k2)))), (0, .ref (g.1 (24 * c))), (1, .int (nI k2))] dX0_ripNet_31 rfl (by decide) rfl ?_
      refine x_aload_n h 1 dX0_ripNet_32 rfl rfl ?_
      refine x_iload_n h 2 dX0_ripNet_33 rfl rfl ?_
      refine x_callVv h (As := [.int (nI k2)]) 1 hx (c_X0_loseWire hc (by omega)) gX0_ripNet_X0_loseWire rfl ⟨rfl, rfl⟩ (by decide +kernel) rfl (by decide) (hk_chip hc) (E_chip hc) rfl rfl (Nat.le_of_ble_eq_true rfl) dX0_ripNet_34 (fun M34 P' hp => ?_)
      obtain ⟨rfl, hM34⟩ := hp
      refine x_aload_n h 1 dX0_ripNet_37 rfl rfl ?_
      refine x_dup h dX0_ripNet_38 rfl ?_
      refine xg_X0_7 h hc in_X0_ripNet_X0 (by decide +kernel) dX0_ripNet_39 ?_
      refine x_iconst h (nI 1) dX0_ripNet_42 (by decide) ?_
      refine x_iadd h dX0_ripNet_43 ?_
      refine xp_X0_7 h hc in_X0_ripNet_X0 (by decide +kernel) dX0_ripNet_44 ?_
      refine x_iload_n h 0 dX0_ripNet_47 rfl rfl ?_
      exact hret _ _ _ _ _ dX0_ripNet_48 (by refine ⟨rfl, _, Or.inr ⟨k2, hk2, rfl, Or.inr ⟨c_20, rfl, rfl⟩⟩, ?_⟩; rw [hM34]; simp only [st2_va, va_up_up, va_up_k])
    · -- 20 false
      refine x_ldc h ((-1000002)) (by decide +kernel) dX0_ripNet_23 ?_
      exact hret _ _ _ _ _ dX0_ripNet_25 (by exact ⟨rfl, _, Or.inr ⟨k2, hk2, rfl, Or.inl ⟨c_20, rfl, rfl⟩⟩, (va_up_id _ _).symm⟩)
  · -- call 2
    refine x_if_ne h 11 dX0_ripNet_5 (by decide) (fun c => absurd c (by decide)) (fun _ => ?_)
    refine x_ldc h ((-1000001)) (by decide +kernel) dX0_ripNet_8 ?_
    exact hret _ _ _ _ _ dX0_ripNet_10 (by exact ⟨rfl, _, Or.inl ⟨nk2, rfl, rfl⟩, (va_up_id _ _).symm⟩)

set_option maxRecDepth 20000 in
theorem ggX0_appealClaim_X0_hasClaim : GoodIn wsX0_appealClaim wsX0_hasClaim := goodIn_r _ [12, 13, 18, 19, 20, 21, 22, 23, 24, 25] (by decide +kernel) (by decide +kernel)
set_option maxRecDepth 20000 in
theorem gX0_appealClaim_X0_hasClaim : GoodIn wsX0_appealClaim (wsV RX0 188 RX0 yX0_hasClaim wsX0_hasClaim) := goodIn_app (goodIn_of _ (by decide +kernel)) ggX0_appealClaim_X0_hasClaim
set_option maxRecDepth 20000 in
theorem ggX0_appealClaim_X0_appealsToHear : GoodIn wsX0_appealClaim wsX0_appealsToHear := goodIn_r _ [17, 13, 2, 3, 18, 19, 20, 21, 22, 23, 24, 25, 26, 27, 28, 29, 30, 31, 32] (by decide +kernel) (by decide +kernel)
set_option maxRecDepth 20000 in
theorem gX0_appealClaim_X0_appealsToHear : GoodIn wsX0_appealClaim (wsV RX0 191 RX0 yX0_appealsToHear wsX0_appealsToHear) := goodIn_app (goodIn_of _ (by decide +kernel)) ggX0_appealClaim_X0_appealsToHear
theorem dX0_appealClaim_0 : decode cX0_appealClaim 0 = .ok (.aload_n 0, 1) := by decide +kernel
theorem dX0_appealClaim_1 : decode cX0_appealClaim 1 = .ok (.iload_n 1, 1) := by decide +kernel
theorem dX0_appealClaim_2 : decode cX0_appealClaim 2 = .ok (.invokevirtual 188, 3) := by decide +kernel
theorem dX0_appealClaim_5 : decode cX0_appealClaim 5 = .ok (.ifCond .ne 6, 3) := by decide +kernel
theorem dX0_appealClaim_8 : decode cX0_appealClaim 8 = .ok (.ldc 64, 2) := by decide +kernel
theorem dX0_appealClaim_10 : decode cX0_appealClaim 10 = .ok (.ireturn, 1) := by decide +kernel
theorem dX0_appealClaim_11 : decode cX0_appealClaim 11 = .ok (.aload_n 0, 1) := by decide +kernel
theorem dX0_appealClaim_12 : decode cX0_appealClaim 12 = .ok (.getfield 30, 3) := by decide +kernel
theorem dX0_appealClaim_15 : decode cX0_appealClaim 15 = .ok (.iload_n 1, 1) := by decide +kernel
theorem dX0_appealClaim_16 : decode cX0_appealClaim 16 = .ok (.aaload, 1) := by decide +kernel
theorem dX0_appealClaim_17 : decode cX0_appealClaim 17 = .ok (.astore_n 2, 1) := by decide +kernel
theorem dX0_appealClaim_18 : decode cX0_appealClaim 18 = .ok (.aload_n 2, 1) := by decide +kernel
theorem dX0_appealClaim_19 : decode cX0_appealClaim 19 = .ok (.getfield 182, 3) := by decide +kernel
theorem dX0_appealClaim_22 : decode cX0_appealClaim 22 = .ok (.ifCond .ne 21, 3) := by decide +kernel
theorem dX0_appealClaim_25 : decode cX0_appealClaim 25 = .ok (.aload_n 0, 1) := by decide +kernel
theorem dX0_appealClaim_26 : decode cX0_appealClaim 26 = .ok (.getfield 55, 3) := by decide +kernel
theorem dX0_appealClaim_29 : decode cX0_appealClaim 29 = .ok (.aload_n 2, 1) := by decide +kernel
theorem dX0_appealClaim_30 : decode cX0_appealClaim 30 = .ok (.getfield 185, 3) := by decide +kernel
theorem dX0_appealClaim_33 : decode cX0_appealClaim 33 = .ok (.isub, 1) := by decide +kernel
theorem dX0_appealClaim_34 : decode cX0_appealClaim 34 = .ok (.aload_n 0, 1) := by decide +kernel
theorem dX0_appealClaim_35 : decode cX0_appealClaim 35 = .ok (.getfield 9, 3) := by decide +kernel
theorem dX0_appealClaim_38 : decode cX0_appealClaim 38 = .ok (.iconst 3, 1) := by decide +kernel
theorem dX0_appealClaim_39 : decode cX0_appealClaim 39 = .ok (.iaload, 1) := by decide +kernel
theorem dX0_appealClaim_40 : decode cX0_appealClaim 40 = .ok (.if_icmp .le 6, 3) := by decide +kernel
theorem dX0_appealClaim_43 : decode cX0_appealClaim 43 = .ok (.ldc 65, 2) := by decide +kernel
theorem dX0_appealClaim_45 : decode cX0_appealClaim 45 = .ok (.ireturn, 1) := by decide +kernel
theorem dX0_appealClaim_46 : decode cX0_appealClaim 46 = .ok (.aload_n 2, 1) := by decide +kernel
theorem dX0_appealClaim_47 : decode cX0_appealClaim 47 = .ok (.iconst 1, 1) := by decide +kernel
theorem dX0_appealClaim_48 : decode cX0_appealClaim 48 = .ok (.putfield 182, 3) := by decide +kernel
theorem dX0_appealClaim_51 : decode cX0_appealClaim 51 = .ok (.aload_n 0, 1) := by decide +kernel
theorem dX0_appealClaim_52 : decode cX0_appealClaim 52 = .ok (.dup, 1) := by decide +kernel
theorem dX0_appealClaim_53 : decode cX0_appealClaim 53 = .ok (.getfield 55, 3) := by decide +kernel
theorem dX0_appealClaim_56 : decode cX0_appealClaim 56 = .ok (.iconst 1, 1) := by decide +kernel
theorem dX0_appealClaim_57 : decode cX0_appealClaim 57 = .ok (.iadd, 1) := by decide +kernel
theorem dX0_appealClaim_58 : decode cX0_appealClaim 58 = .ok (.putfield 55, 3) := by decide +kernel
theorem dX0_appealClaim_61 : decode cX0_appealClaim 61 = .ok (.aload_n 0, 1) := by decide +kernel
theorem dX0_appealClaim_62 : decode cX0_appealClaim 62 = .ok (.invokevirtual 191, 3) := by decide +kernel
theorem dX0_appealClaim_65 : decode cX0_appealClaim 65 = .ok (.ireturn, 1) := by decide +kernel
abbrev rmX0_appealClaim : Room := { frames := 1, cells := 0, slots := 0, locals := 22 }
set_option maxRecDepth 20000 in
theorem in_X0_appealClaim_X0 : ∀ w ∈ wsX00, w ∈ wsX0_appealClaim := by decide +kernel
set_option maxRecDepth 20000 in
theorem in_X0_appealClaim_X1 : ∀ w ∈ wsX10, w ∈ wsX0_appealClaim := by decide +kernel

set_option maxRecDepth 100000 in
set_option maxHeartbeats 4000000 in
theorem c_X0_appealClaim {l : Launch} {g : Geo} {M : Nat → Nat → Int32} {P : Nat → Nat} {c : Nat} (hc : c < 6) {K : Nat} (hK : M c 6 = nI K) (hK12 : K ≤ 12) {n : Int32} : Met l yX0_appealClaim wsX0_appealClaim rmX0_appealClaim (cPre g [.ref (g.1 (24 * c)), .int n] M P) (cQi g (fun r M' P' => P = P' ∧ ∃ X', applQ (M c) K n r X' ∧ M' = va_up M c X')) 0 0 (gA g) := by
  refine met_i (cc := cX0_appealClaim) (maxL := 3) (by decide) rfl ⟨rfl, rfl⟩ (Nat.le_of_ble_eq_true rfl) (fun x hx h hret => ?_)
  replace h : Cxk x g cX0_appealClaim 3 wsX0_appealClaim RX0 rmX0_appealClaim := h
  show X x 0 [(0, .ref (g.1 (24 * c))), (1, .int n)] [] M P
  refine x_aload_n h 0 dX0_appealClaim_0 rfl rfl ?_
  refine x_iload_n h 1 dX0_appealClaim_1 rfl rfl ?_
  refine x_callV h (As := [.int n]) 1 hx (c_X0_hasClaim hc hK hK12) gX0_appealClaim_X0_hasClaim rfl ⟨rfl, rfl⟩ (by decide +kernel) rfl (by decide) (hk_chip hc) (E_chip hc) rfl rfl (Nat.le_of_ble_eq_true rfl) dX0_appealClaim_2 (fun rv M' P' hp => ?_)
  obtain ⟨⟨rfl, rfl⟩, hp⟩ := hp
  rcases hp with ⟨⟨k2, hk2, rfl⟩, rfl⟩ | ⟨nk2, rfl⟩
  · -- call 2
    refine x_if_ne h 11 dX0_appealClaim_5 (by decide) (fun _ => ?_) (fun c => absurd c (by decide))
    refine x_aload_n h 0 dX0_appealClaim_11 rfl rfl ?_
    refine xg_X0_4 h hc in_X0_appealClaim_X0 (by decide +kernel) dX0_appealClaim_12 ?_
    refine x_iload_n h 1 dX0_appealClaim_15 rfl rfl ?_
    refine xa_clms h hc dX0_appealClaim_16 (by omega) ?_
    refine x_astore_n h [(2, .ref (g.1 (24 * c + 12 + k2))), (0, .ref (g.1 (24 * c))), (1, .int (nI k2))] dX0_appealClaim_17 rfl (by decide) rfl ?_
    refine x_aload_n h 0 dX0_appealClaim_18 rfl rfl ?_
    refine xg_X1_5 h hc (by omega) in_X0_appealClaim_X1 (by decide +kernel) dX0_appealClaim_19 ?_
    refine x_if_ne h 43 dX0_appealClaim_22 (by decide) (fun c_22 => ?_) (fun c_22 => ?_)
    · -- 22 true
      refine x_ldc h ((-1000002)) (by decide +kernel) dX0_appealClaim_43 ?_
      exact hret _ _ _ _ _ dX0_appealClaim_45 (by exact ⟨rfl, _, Or.inr ⟨k2, hk2, rfl, Or.inl ⟨(by rintro ⟨q1, q2⟩; first | exact c_22 q1 | exact c_40 q2), rfl, rfl⟩⟩, (va_up_id _ _).symm⟩)
    · -- 22 false
      refine x_aload_n h 1 dX0_appealClaim_25 rfl rfl ?_
      refine xg_X0_7 h hc in_X0_appealClaim_X0 (by decide +kernel) dX0_appealClaim_26 ?_
      refine x_aload_n h 0 dX0_appealClaim_29 rfl rfl ?_
      refine xg_X1_6 h hc (by omega) in_X0_appealClaim_X1 (by decide +kernel) dX0_appealClaim_30 ?_
      refine x_isub h dX0_appealClaim_33 ?_
      refine x_aload_n h 1 dX0_appealClaim_34 rfl rfl ?_
      refine xg_X0_0 h hc in_X0_appealClaim_X0 (by decide +kernel) dX0_appealClaim_35 ?_
      refine x_iconst h (nI 3) dX0_appealClaim_38 (by decide) ?_
      refine xl_sett h hc dX0_appealClaim_39 (by decide) ?_
      refine x_icmp_le h 46 dX0_appealClaim_40 (by decide) (fun c_40 => ?_) (fun c_40 => ?_)
      · -- 40 true
        refine x_aload_n h 0 dX0_appealClaim_46 rfl rfl ?_
        refine x_iconst h (nI 1) dX0_appealClaim_47 (by decide) ?_
        refine xp_X1_5 h hc (by omega) in_X0_appealClaim_X1 (by decide +kernel) dX0_appealClaim_48 ?_
        refine x_aload_n h 1 dX0_appealClaim_51 rfl rfl ?_
        refine x_dup h dX0_appealClaim_52 rfl ?_
        refine xg_X0_7 h hc in_X0_appealClaim_X0 (by decide +kernel) dX0_appealClaim_53 ?_
        refine x_iconst h (nI 1) dX0_appealClaim_56 (by decide) ?_
        refine x_iadd h dX0_appealClaim_57 ?_
        refine xp_X0_7 h hc in_X0_appealClaim_X0 (by decide +kernel) dX0_appealClaim_58 ?_
        refine x_aload_n h 1 dX0_appealClaim_61 rfl rfl ?_
        refine x_callV h (As := []) 0 hx (c_X0_appealsToHear hc (by simp only [st2_k]; rw [pk_un (by omega), pk_un (by omega)]; exact hK) hK12) gX0_appealClaim_X0_appealsToHear rfl ⟨rfl, rfl⟩ (by decide +kernel) rfl (by decide) (hk_chip hc) (E_chip hc) rfl rfl (Nat.le_of_ble_eq_true rfl) dX0_appealClaim_62 (fun rv M' P' hp => ?_)
        obtain ⟨⟨rfl, rfl⟩, rfl⟩ := hp
        exact hret _ _ _ _ _ dX0_appealClaim_65 (by exact ⟨rfl, _, Or.inr ⟨k2, hk2, rfl, Or.inr ⟨c_22, c_40, rfl, (by simp only [st2_va, va_up_up, va_up_k]; simp [upd])⟩⟩, (by simp only [st2_va, va_up_up, va_up_k]; simp [upd])⟩)
      · -- 40 false
        refine x_ldc h ((-1000002)) (by decide +kernel) dX0_appealClaim_43 ?_
        exact hret _ _ _ _ _ dX0_appealClaim_45 (by exact ⟨rfl, _, Or.inr ⟨k2, hk2, rfl, Or.inl ⟨(by rintro ⟨q1, q2⟩; first | exact c_22 q1 | exact c_40 q2), rfl, rfl⟩⟩, (va_up_id _ _).symm⟩)
  · -- call 2
    refine x_if_ne h 11 dX0_appealClaim_5 (by decide) (fun c => absurd c (by decide)) (fun _ => ?_)
    refine x_ldc h ((-1000001)) (by decide +kernel) dX0_appealClaim_8 ?_
    exact hret _ _ _ _ _ dX0_appealClaim_10 (by exact ⟨rfl, _, Or.inl ⟨nk2, rfl, rfl⟩, (va_up_id _ _).symm⟩)

set_option maxRecDepth 20000 in
theorem ggX0_changeBlocked_X0_blockedPlaces : GoodIn wsX0_changeBlocked wsX0_blockedPlaces := goodIn_r _ [8, 9, 10, 11, 7, 12, 2, 13, 14, 15, 16, 17, 18, 19, 20] (by decide +kernel) (by decide +kernel)
set_option maxRecDepth 20000 in
theorem gX0_changeBlocked_X0_blockedPlaces : GoodIn wsX0_changeBlocked (wsV RX0 66 RX0 yX0_blockedPlaces wsX0_blockedPlaces) := goodIn_app (goodIn_of _ (by decide +kernel)) ggX0_changeBlocked_X0_blockedPlaces
theorem dX0_changeBlocked_0 : decode cX0_changeBlocked 0 = .ok (.iload_n 1, 1) := by decide +kernel
theorem dX0_changeBlocked_1 : decode cX0_changeBlocked 1 = .ok (.ifCond .lt 18, 3) := by decide +kernel
theorem dX0_changeBlocked_4 : decode cX0_changeBlocked 4 = .ok (.iload_n 1, 1) := by decide +kernel
theorem dX0_changeBlocked_5 : decode cX0_changeBlocked 5 = .ok (.bipush 81, 2) := by decide +kernel
theorem dX0_changeBlocked_7 : decode cX0_changeBlocked 7 = .ok (.if_icmp .ge 12, 3) := by decide +kernel
theorem dX0_changeBlocked_10 : decode cX0_changeBlocked 10 = .ok (.iload_n 2, 1) := by decide +kernel
theorem dX0_changeBlocked_11 : decode cX0_changeBlocked 11 = .ok (.ifCond .lt 8, 3) := by decide +kernel
theorem dX0_changeBlocked_14 : decode cX0_changeBlocked 14 = .ok (.iload_n 2, 1) := by decide +kernel
theorem dX0_changeBlocked_15 : decode cX0_changeBlocked 15 = .ok (.iconst 1, 1) := by decide +kernel
theorem dX0_changeBlocked_16 : decode cX0_changeBlocked 16 = .ok (.if_icmp .le 6, 3) := by decide +kernel
theorem dX0_changeBlocked_19 : decode cX0_changeBlocked 19 = .ok (.ldc 64, 2) := by decide +kernel
theorem dX0_changeBlocked_21 : decode cX0_changeBlocked 21 = .ok (.ireturn, 1) := by decide +kernel
theorem dX0_changeBlocked_22 : decode cX0_changeBlocked 22 = .ok (.iload_n 2, 1) := by decide +kernel
theorem dX0_changeBlocked_23 : decode cX0_changeBlocked 23 = .ok (.iconst 1, 1) := by decide +kernel
theorem dX0_changeBlocked_24 : decode cX0_changeBlocked 24 = .ok (.if_icmp .ne 7, 3) := by decide +kernel
theorem dX0_changeBlocked_27 : decode cX0_changeBlocked 27 = .ok (.iconst (-1), 1) := by decide +kernel
theorem dX0_changeBlocked_28 : decode cX0_changeBlocked 28 = .ok (.goto 5, 3) := by decide +kernel
theorem dX0_changeBlocked_31 : decode cX0_changeBlocked 31 = .ok (.bipush 20, 2) := by decide +kernel
theorem dX0_changeBlocked_33 : decode cX0_changeBlocked 33 = .ok (.istore_n 3, 1) := by decide +kernel
theorem dX0_changeBlocked_34 : decode cX0_changeBlocked 34 = .ok (.iload_n 2, 1) := by decide +kernel
theorem dX0_changeBlocked_35 : decode cX0_changeBlocked 35 = .ok (.iconst 1, 1) := by decide +kernel
theorem dX0_changeBlocked_36 : decode cX0_changeBlocked 36 = .ok (.if_icmp .ne 8, 3) := by decide +kernel
theorem dX0_changeBlocked_39 : decode cX0_changeBlocked 39 = .ok (.bipush 20, 2) := by decide +kernel
theorem dX0_changeBlocked_41 : decode cX0_changeBlocked 41 = .ok (.goto 4, 3) := by decide +kernel
theorem dX0_changeBlocked_44 : decode cX0_changeBlocked 44 = .ok (.iconst (-1), 1) := by decide +kernel
theorem dX0_changeBlocked_45 : decode cX0_changeBlocked 45 = .ok (.istore 4, 2) := by decide +kernel
theorem dX0_changeBlocked_47 : decode cX0_changeBlocked 47 = .ok (.aload_n 0, 1) := by decide +kernel
theorem dX0_changeBlocked_48 : decode cX0_changeBlocked 48 = .ok (.getfield 15, 3) := by decide +kernel
theorem dX0_changeBlocked_51 : decode cX0_changeBlocked 51 = .ok (.iload_n 1, 1) := by decide +kernel
theorem dX0_changeBlocked_52 : decode cX0_changeBlocked 52 = .ok (.iaload, 1) := by decide +kernel
theorem dX0_changeBlocked_53 : decode cX0_changeBlocked 53 = .ok (.iload_n 3, 1) := by decide +kernel
theorem dX0_changeBlocked_54 : decode cX0_changeBlocked 54 = .ok (.if_icmp .ne 16, 3) := by decide +kernel
theorem dX0_changeBlocked_57 : decode cX0_changeBlocked 57 = .ok (.aload_n 0, 1) := by decide +kernel
theorem dX0_changeBlocked_58 : decode cX0_changeBlocked 58 = .ok (.getfield 15, 3) := by decide +kernel
theorem dX0_changeBlocked_61 : decode cX0_changeBlocked 61 = .ok (.iload_n 1, 1) := by decide +kernel
theorem dX0_changeBlocked_62 : decode cX0_changeBlocked 62 = .ok (.bipush 81, 2) := by decide +kernel
theorem dX0_changeBlocked_64 : decode cX0_changeBlocked 64 = .ok (.iadd, 1) := by decide +kernel
theorem dX0_changeBlocked_65 : decode cX0_changeBlocked 65 = .ok (.iaload, 1) := by decide +kernel
theorem dX0_changeBlocked_66 : decode cX0_changeBlocked 66 = .ok (.iload_n 3, 1) := by decide +kernel
theorem dX0_changeBlocked_67 : decode cX0_changeBlocked 67 = .ok (.if_icmp .eq 6, 3) := by decide +kernel
theorem dX0_changeBlocked_70 : decode cX0_changeBlocked 70 = .ok (.ldc 65, 2) := by decide +kernel
theorem dX0_changeBlocked_72 : decode cX0_changeBlocked 72 = .ok (.ireturn, 1) := by decide +kernel
theorem dX0_changeBlocked_73 : decode cX0_changeBlocked 73 = .ok (.aload_n 0, 1) := by decide +kernel
theorem dX0_changeBlocked_74 : decode cX0_changeBlocked 74 = .ok (.getfield 15, 3) := by decide +kernel
theorem dX0_changeBlocked_77 : decode cX0_changeBlocked 77 = .ok (.iload_n 1, 1) := by decide +kernel
theorem dX0_changeBlocked_78 : decode cX0_changeBlocked 78 = .ok (.iload 4, 2) := by decide +kernel
theorem dX0_changeBlocked_80 : decode cX0_changeBlocked 80 = .ok (.iastore, 1) := by decide +kernel
theorem dX0_changeBlocked_81 : decode cX0_changeBlocked 81 = .ok (.aload_n 0, 1) := by decide +kernel
theorem dX0_changeBlocked_82 : decode cX0_changeBlocked 82 = .ok (.getfield 15, 3) := by decide +kernel
theorem dX0_changeBlocked_85 : decode cX0_changeBlocked 85 = .ok (.iload_n 1, 1) := by decide +kernel
theorem dX0_changeBlocked_86 : decode cX0_changeBlocked 86 = .ok (.bipush 81, 2) := by decide +kernel
theorem dX0_changeBlocked_88 : decode cX0_changeBlocked 88 = .ok (.iadd, 1) := by decide +kernel
theorem dX0_changeBlocked_89 : decode cX0_changeBlocked 89 = .ok (.iload 4, 2) := by decide +kernel
theorem dX0_changeBlocked_91 : decode cX0_changeBlocked 91 = .ok (.iastore, 1) := by decide +kernel
theorem dX0_changeBlocked_92 : decode cX0_changeBlocked 92 = .ok (.aload_n 0, 1) := by decide +kernel
theorem dX0_changeBlocked_93 : decode cX0_changeBlocked 93 = .ok (.invokevirtual 66, 3) := by decide +kernel
theorem dX0_changeBlocked_96 : decode cX0_changeBlocked 96 = .ok (.ireturn, 1) := by decide +kernel
abbrev rmX0_changeBlocked : Room := { frames := 2, cells := 0, slots := 0, locals := 43 }
set_option maxRecDepth 20000 in
theorem in_X0_changeBlocked_X0 : ∀ w ∈ wsX00, w ∈ wsX0_changeBlocked := by decide +kernel

set_option maxRecDepth 100000 in
set_option maxHeartbeats 4000000 in
theorem c_X0_changeBlocked {l : Launch} {g : Geo} {M : Nat → Nat → Int32} {P : Nat → Nat} {c : Nat} (hc : c < 6) {p s : Int32} : Met l yX0_changeBlocked wsX0_changeBlocked rmX0_changeBlocked (cPre g [.ref (g.1 (24 * c)), .int p, .int s] M P) (cQi g (fun r M' P' => P = P' ∧ ∃ X', blkQ eC (M c) p s r X' ∧ M' = va_up M c X')) 0 0 (gA g) := by
  refine met_i (cc := cX0_changeBlocked) (maxL := 5) (by decide) rfl ⟨rfl, rfl⟩ (Nat.le_of_ble_eq_true rfl) (fun x hx h hret => ?_)
  replace h : Cxk x g cX0_changeBlocked 5 wsX0_changeBlocked RX0 rmX0_changeBlocked := h
  show X x 0 [(0, .ref (g.1 (24 * c))), (1, .int p), (2, .int s)] [] M P
  refine x_iload_n h 1 dX0_changeBlocked_0 rfl rfl ?_
  refine x_if_lt h 19 dX0_changeBlocked_1 (by decide) (fun c_1 => ?_) (fun c_1 => ?_)
  · -- 1 true
    refine x_ldc h ((-1000001)) (by decide +kernel) dX0_changeBlocked_19 ?_
    exact hret _ _ _ _ _ dX0_changeBlocked_21 (by refine ⟨rfl, _, Or.inl ⟨?_, rfl, rfl⟩, (va_up_id _ _).symm⟩; first | (exact fun q => InR_no1 (N := 81) (by decide) c_1 q.1) | (exact fun q => InR_no2 (N := 81) (by decide) c_7 q.1) | (exact fun q => InR_no1 (N := 2) (by decide) c_11 q.2) | (exact fun q => by obtain ⟨z, hz, rfl⟩ := q.2; exact c_16 (nI_le (by omega) (by decide))))
  · -- 1 false
    refine x_iload_n h 1 dX0_changeBlocked_4 rfl rfl ?_
    refine x_bipush h (nI 81) dX0_changeBlocked_5 (by decide) ?_
    refine x_icmp_ge h 19 dX0_changeBlocked_7 (by decide) (fun c_7 => ?_) (fun c_7 => ?_)
    · -- 7 true
      refine x_ldc h ((-1000001)) (by decide +kernel) dX0_changeBlocked_19 ?_
      exact hret _ _ _ _ _ dX0_changeBlocked_21 (by refine ⟨rfl, _, Or.inl ⟨?_, rfl, rfl⟩, (va_up_id _ _).symm⟩; first | (exact fun q => InR_no1 (N := 81) (by decide) c_1 q.1) | (exact fun q => InR_no2 (N := 81) (by decide) c_7 q.1) | (exact fun q => InR_no1 (N := 2) (by decide) c_11 q.2) | (exact fun q => by obtain ⟨z, hz, rfl⟩ := q.2; exact c_16 (nI_le (by omega) (by decide))))
    · -- 7 false
      refine x_iload_n h 2 dX0_changeBlocked_10 rfl rfl ?_
      refine x_if_lt h 19 dX0_changeBlocked_11 (by decide) (fun c_11 => ?_) (fun c_11 => ?_)
      · -- 11 true
        refine x_ldc h ((-1000001)) (by decide +kernel) dX0_changeBlocked_19 ?_
        exact hret _ _ _ _ _ dX0_changeBlocked_21 (by refine ⟨rfl, _, Or.inl ⟨?_, rfl, rfl⟩, (va_up_id _ _).symm⟩; first | (exact fun q => InR_no1 (N := 81) (by decide) c_1 q.1) | (exact fun q => InR_no2 (N := 81) (by decide) c_7 q.1) | (exact fun q => InR_no1 (N := 2) (by decide) c_11 q.2) | (exact fun q => by obtain ⟨z, hz, rfl⟩ := q.2; exact c_16 (nI_le (by omega) (by decide))))
      · -- 11 false
        refine x_iload_n h 2 dX0_changeBlocked_14 rfl rfl ?_
        refine x_iconst h (nI 1) dX0_changeBlocked_15 (by decide) ?_
        refine x_icmp_le h 22 dX0_changeBlocked_16 (by decide) (fun c_16 => ?_) (fun c_16 => ?_)
        · -- 16 true
          obtain ⟨j, hj, rfl⟩ := InR_of (N := 81) (by decide) c_1 c_7
          obtain ⟨b, hb, rfl⟩ := InR_of (N := 2) (x := s) (by decide) c_11 (fun q => absurd c_16 (fun c_16 => by obtain ⟨z, hz, rfl⟩ := nI_of c_11; have := (nI_leI (by decide) hz).mp q; have := (nI_leI hz (by decide)).mp c_16; omega))
          refine x_iload_n h 2 dX0_changeBlocked_22 rfl rfl ?_
          refine x_iconst h (nI 1) dX0_changeBlocked_23 (by decide) ?_
          refine x_icmp_ne_n h 31 dX0_changeBlocked_24 (by decide) (by omega) (by decide) (fun c_24 => ?_) (fun c_24 => ?_)
          · -- 24 true
            obtain rfl : b = 0 := (by omega)
            refine x_bipush h (nI 20) dX0_changeBlocked_31 (by decide) ?_
            refine x_istore_n h [(3, .int (nI 20)), (0, .ref (g.1 (24 * c))), (1, .int (nI j)), (2, .int (nI 0))] dX0_changeBlocked_33 rfl (by decide) rfl ?_
            refine x_iload_n h 3 dX0_changeBlocked_34 rfl rfl ?_
            refine x_iconst h (nI 1) dX0_changeBlocked_35 (by decide) ?_
            refine x_icmp_ne h 44 dX0_changeBlocked_36 (by decide) (fun _ => ?_) (fun c => absurd c (by decide))
            refine x_iconst h ((-1)) dX0_changeBlocked_44 (by decide) ?_
            refine x_istore h [(4, .int (-1)), (3, .int (nI 20)), (0, .ref (g.1 (24 * c))), (1, .int (nI j)), (2, .int (nI 0))] dX0_changeBlocked_45 (by decide) rfl ?_
            refine x_aload_n h 2 dX0_changeBlocked_47 rfl rfl ?_
            refine xg_X0_1 h hc in_X0_changeBlocked_X0 (by decide +kernel) dX0_changeBlocked_48 ?_
            refine x_iload_n h 3 dX0_changeBlocked_51 rfl rfl ?_
            refine xl_own h hc dX0_changeBlocked_52 (by omega) ?_
            refine x_iload_n h 1 dX0_changeBlocked_53 rfl rfl ?_
            refine x_icmp_ne h 70 dX0_changeBlocked_54 (by decide) (fun c_54 => ?_) (fun c_54 => ?_)
            · -- 54 true
              refine x_ldc h ((-1000002)) (by decide +kernel) dX0_changeBlocked_70 ?_
              exact hret _ _ _ _ _ dX0_changeBlocked_72 (by exact ⟨rfl, _, Or.inr ⟨j, _, hj, hb, rfl, rfl, Or.inl ⟨(by rintro ⟨q1, q2⟩; first | exact c_54 q1 | exact c_67 q2), rfl, rfl⟩⟩, (va_up_id _ _).symm⟩)
            · -- 54 false
              refine x_aload_n h 2 dX0_changeBlocked_57 rfl rfl ?_
              refine xg_X0_1 h hc in_X0_changeBlocked_X0 (by decide +kernel) dX0_changeBlocked_58 ?_
              refine x_iload_n h 3 dX0_changeBlocked_61 rfl rfl ?_
              refine x_bipush h (nI 81) dX0_changeBlocked_62 (by decide) ?_
              refine x_iadd_n h dX0_changeBlocked_64 ?_
              refine xl_own h hc dX0_changeBlocked_65 (by omega) ?_
              refine x_iload_n h 1 dX0_changeBlocked_66 rfl rfl ?_
              refine x_icmp_eq h 73 dX0_changeBlocked_67 (by decide) (fun c_67 => ?_) (fun c_67 => ?_)
              · -- 67 true
                refine x_aload_n h 2 dX0_changeBlocked_73 rfl rfl ?_
                refine xg_X0_1 h hc in_X0_changeBlocked_X0 (by decide +kernel) dX0_changeBlocked_74 ?_
                refine x_iload_n h 3 dX0_changeBlocked_77 rfl rfl ?_
                refine x_iload h 0 dX0_changeBlocked_78 rfl ?_
                refine xs_own h hc dX0_changeBlocked_80 (by omega) ?_
                refine x_aload_n h 2 dX0_changeBlocked_81 rfl rfl ?_
                refine xg_X0_1 h hc in_X0_changeBlocked_X0 (by decide +kernel) dX0_changeBlocked_82 ?_
                refine x_iload_n h 3 dX0_changeBlocked_85 rfl rfl ?_
                refine x_bipush h (nI 81) dX0_changeBlocked_86 (by decide) ?_
                refine x_iadd_n h dX0_changeBlocked_88 ?_
                refine x_iload h 0 dX0_changeBlocked_89 rfl ?_
                refine xs_own h hc dX0_changeBlocked_91 (by omega) ?_
                refine x_aload_n h 2 dX0_changeBlocked_92 rfl rfl ?_
                refine x_callV h (As := []) 0 hx (c_X0_blockedPlaces hc) gX0_changeBlocked_X0_blockedPlaces rfl ⟨rfl, rfl⟩ (by decide +kernel) rfl (by decide) (hk_chip hc) (E_chip hc) rfl rfl (Nat.le_of_ble_eq_true rfl) dX0_changeBlocked_93 (fun rv M' P' hp => ?_)
                obtain ⟨⟨rfl, rfl⟩, rfl⟩ := hp
                exact hret _ _ _ _ _ dX0_changeBlocked_96 (by exact ⟨rfl, _, Or.inr ⟨j, _, hj, hb, rfl, rfl, Or.inr ⟨c_54, c_67, rfl, (by simp only [st2_va, va_up_up, va_up_k]; rfl)⟩⟩, (by simp only [st2_va, va_up_up, va_up_k]; rfl)⟩)
              · -- 67 false
                refine x_ldc h ((-1000002)) (by decide +kernel) dX0_changeBlocked_70 ?_
                exact hret _ _ _ _ _ dX0_changeBlocked_72 (by exact ⟨rfl, _, Or.inr ⟨j, _, hj, hb, rfl, rfl, Or.inl ⟨(by rintro ⟨q1, q2⟩; first | exact c_54 q1 | exact c_67 q2), rfl, rfl⟩⟩, (va_up_id _ _).symm⟩)
          · -- 24 false
            subst c_24
            refine x_iconst h ((-1)) dX0_changeBlocked_27 (by decide) ?_
            refine x_goto h 33 dX0_changeBlocked_28 (by decide) ?_
            refine x_istore_n h [(3, .int (-1)), (0, .ref (g.1 (24 * c))), (1, .int (nI j)), (2, .int (nI 1))] dX0_changeBlocked_33 rfl (by decide) rfl ?_
            refine x_iload_n h 3 dX0_changeBlocked_34 rfl rfl ?_
            refine x_iconst h (nI 1) dX0_changeBlocked_35 (by decide) ?_
            refine x_icmp_ne h 44 dX0_changeBlocked_36 (by decide) (fun c => absurd c (by decide)) (fun _ => ?_)
            refine x_bipush h (nI 20) dX0_changeBlocked_39 (by decide) ?_
            refine x_goto h 45 dX0_changeBlocked_41 (by decide) ?_
            refine x_istore h [(4, .int (nI 20)), (3, .int (-1)), (0, .ref (g.1 (24 * c))), (1, .int (nI j)), (2, .int (nI 1))] dX0_changeBlocked_45 (by decide) rfl ?_
            refine x_aload_n h 2 dX0_changeBlocked_47 rfl rfl ?_
            refine xg_X0_1 h hc in_X0_changeBlocked_X0 (by decide +kernel) dX0_changeBlocked_48 ?_
            refine x_iload_n h 3 dX0_changeBlocked_51 rfl rfl ?_
            refine xl_own h hc dX0_changeBlocked_52 (by omega) ?_
            refine x_iload_n h 1 dX0_changeBlocked_53 rfl rfl ?_
            refine x_icmp_ne h 70 dX0_changeBlocked_54 (by decide) (fun c_54 => ?_) (fun c_54 => ?_)
            · -- 54 true
              refine x_ldc h ((-1000002)) (by decide +kernel) dX0_changeBlocked_70 ?_
              exact hret _ _ _ _ _ dX0_changeBlocked_72 (by exact ⟨rfl, _, Or.inr ⟨j, _, hj, hb, rfl, rfl, Or.inl ⟨(by rintro ⟨q1, q2⟩; first | exact c_54 q1 | exact c_67 q2), rfl, rfl⟩⟩, (va_up_id _ _).symm⟩)
            · -- 54 false
              refine x_aload_n h 2 dX0_changeBlocked_57 rfl rfl ?_
              refine xg_X0_1 h hc in_X0_changeBlocked_X0 (by decide +kernel) dX0_changeBlocked_58 ?_
              refine x_iload_n h 3 dX0_changeBlocked_61 rfl rfl ?_
              refine x_bipush h (nI 81) dX0_changeBlocked_62 (by decide) ?_
              refine x_iadd_n h dX0_changeBlocked_64 ?_
              refine xl_own h hc dX0_changeBlocked_65 (by omega) ?_
              refine x_iload_n h 1 dX0_changeBlocked_66 rfl rfl ?_
              refine x_icmp_eq h 73 dX0_changeBlocked_67 (by decide) (fun c_67 => ?_) (fun c_67 => ?_)
              · -- 67 true
                refine x_aload_n h 2 dX0_changeBlocked_73 rfl rfl ?_
                refine xg_X0_1 h hc in_X0_changeBlocked_X0 (by decide +kernel) dX0_changeBlocked_74 ?_
                refine x_iload_n h 3 dX0_changeBlocked_77 rfl rfl ?_
                refine x_iload h 0 dX0_changeBlocked_78 rfl ?_
                refine xs_own h hc dX0_changeBlocked_80 (by omega) ?_
                refine x_aload_n h 2 dX0_changeBlocked_81 rfl rfl ?_
                refine xg_X0_1 h hc in_X0_changeBlocked_X0 (by decide +kernel) dX0_changeBlocked_82 ?_
                refine x_iload_n h 3 dX0_changeBlocked_85 rfl rfl ?_
                refine x_bipush h (nI 81) dX0_changeBlocked_86 (by decide) ?_
                refine x_iadd_n h dX0_changeBlocked_88 ?_
                refine x_iload h 0 dX0_changeBlocked_89 rfl ?_
                refine xs_own h hc dX0_changeBlocked_91 (by omega) ?_
                refine x_aload_n h 2 dX0_changeBlocked_92 rfl rfl ?_
                refine x_callV h (As := []) 0 hx (c_X0_blockedPlaces hc) gX0_changeBlocked_X0_blockedPlaces rfl ⟨rfl, rfl⟩ (by decide +kernel) rfl (by decide) (hk_chip hc) (E_chip hc) rfl rfl (Nat.le_of_ble_eq_true rfl) dX0_changeBlocked_93 (fun rv M' P' hp => ?_)
                obtain ⟨⟨rfl, rfl⟩, rfl⟩ := hp
                exact hret _ _ _ _ _ dX0_changeBlocked_96 (by exact ⟨rfl, _, Or.inr ⟨j, _, hj, hb, rfl, rfl, Or.inr ⟨c_54, c_67, rfl, (by simp only [st2_va, va_up_up, va_up_k]; rfl)⟩⟩, (by simp only [st2_va, va_up_up, va_up_k]; rfl)⟩)
              · -- 67 false
                refine x_ldc h ((-1000002)) (by decide +kernel) dX0_changeBlocked_70 ?_
                exact hret _ _ _ _ _ dX0_changeBlocked_72 (by exact ⟨rfl, _, Or.inr ⟨j, _, hj, hb, rfl, rfl, Or.inl ⟨(by rintro ⟨q1, q2⟩; first | exact c_54 q1 | exact c_67 q2), rfl, rfl⟩⟩, (va_up_id _ _).symm⟩)
        · -- 16 false
          refine x_ldc h ((-1000001)) (by decide +kernel) dX0_changeBlocked_19 ?_
          exact hret _ _ _ _ _ dX0_changeBlocked_21 (by refine ⟨rfl, _, Or.inl ⟨?_, rfl, rfl⟩, (va_up_id _ _).symm⟩; first | (exact fun q => InR_no1 (N := 81) (by decide) c_1 q.1) | (exact fun q => InR_no2 (N := 81) (by decide) c_7 q.1) | (exact fun q => InR_no1 (N := 2) (by decide) c_11 q.2) | (exact fun q => by obtain ⟨z, hz, rfl⟩ := q.2; exact c_16 (nI_le (by omega) (by decide))))

theorem dX2_spend_0 : decode cX2_spend 0 = .ok (.aload_n 0, 1) := by decide +kernel
theorem dX2_spend_1 : decode cX2_spend 1 = .ok (.dup, 1) := by decide +kernel
theorem dX2_spend_2 : decode cX2_spend 2 = .ok (.getfield 22, 3) := by decide +kernel
theorem dX2_spend_5 : decode cX2_spend 5 = .ok (.iload_n 1, 1) := by decide +kernel
theorem dX2_spend_6 : decode cX2_spend 6 = .ok (.isub, 1) := by decide +kernel
theorem dX2_spend_7 : decode cX2_spend 7 = .ok (.putfield 22, 3) := by decide +kernel
theorem dX2_spend_10 : decode cX2_spend 10 = .ok (.aload_n 0, 1) := by decide +kernel
theorem dX2_spend_11 : decode cX2_spend 11 = .ok (.dup, 1) := by decide +kernel
theorem dX2_spend_12 : decode cX2_spend 12 = .ok (.getfield 32, 3) := by decide +kernel
theorem dX2_spend_15 : decode cX2_spend 15 = .ok (.iload_n 1, 1) := by decide +kernel
theorem dX2_spend_16 : decode cX2_spend 16 = .ok (.iadd, 1) := by decide +kernel
theorem dX2_spend_17 : decode cX2_spend 17 = .ok (.putfield 32, 3) := by decide +kernel
theorem dX2_spend_20 : decode cX2_spend 20 = .ok (.return_, 1) := by decide +kernel
abbrev rmX2_spend : Room := { frames := 0, cells := 0, slots := 0, locals := 0 }
set_option maxRecDepth 20000 in
theorem in_X2_spend_X2 : ∀ w ∈ wsX20, w ∈ wsX2_spend := by decide +kernel

set_option maxRecDepth 100000 in
set_option maxHeartbeats 4000000 in
theorem c_X2_spend {l : Launch} {g : Geo} {M : Nat → Nat → Int32} {P : Nat → Nat} {c i : Nat} (hc : c < 6) (hi : i < 6) {a : Int32} : Met l yX2_spend wsX2_spend rmX2_spend (cPre g [.ref (g.1 (24 * c + 5 + i)), .int a] M P) (cQv g (fun M' P' => P = P' ∧ M' = va_up M c (spendX (M c) i a))) 0 0 (gA g) := by
  refine met_v (cc := cX2_spend) (maxL := 2) (by decide) rfl ⟨rfl, rfl⟩ (Nat.le_of_ble_eq_true rfl) (fun x hx h hret => ?_)
  replace h : Cxk x g cX2_spend 2 wsX2_spend RX2 rmX2_spend := h
  show X x 0 [(0, .ref (g.1 (24 * c + 5 + i))), (1, .int a)] [] M P
  refine x_aload_n h 0 dX2_spend_0 rfl rfl ?_
  refine x_dup h dX2_spend_1 rfl ?_
  refine xg_X2_4 h hc (by omega) in_X2_spend_X2 (by decide +kernel) dX2_spend_2 ?_
  refine x_iload_n h 1 dX2_spend_5 rfl rfl ?_
  refine x_isub h dX2_spend_6 ?_
  refine xp_X2_4 h hc (by omega) in_X2_spend_X2 (by decide +kernel) dX2_spend_7 ?_
  refine x_aload_n h 0 dX2_spend_10 rfl rfl ?_
  refine x_dup h dX2_spend_11 rfl ?_
  refine xg_X2_7 h hc (by omega) in_X2_spend_X2 (by decide +kernel) dX2_spend_12 ?_
  refine x_iload_n h 1 dX2_spend_15 rfl rfl ?_
  refine x_iadd h dX2_spend_16 ?_
  refine xp_X2_7 h hc (by omega) in_X2_spend_X2 (by decide +kernel) dX2_spend_17 ?_
  exact hret _ _ _ _ dX2_spend_20 (by refine ⟨rfl, ?_⟩; simp only [st2_va, va_up_up, va_up_k]; unfold spendX; congr 2; simp [upd])

theorem dX2_receive_0 : decode cX2_receive 0 = .ok (.aload_n 0, 1) := by decide +kernel
theorem dX2_receive_1 : decode cX2_receive 1 = .ok (.dup, 1) := by decide +kernel
theorem dX2_receive_2 : decode cX2_receive 2 = .ok (.getfield 22, 3) := by decide +kernel
theorem dX2_receive_5 : decode cX2_receive 5 = .ok (.iload_n 1, 1) := by decide +kernel
theorem dX2_receive_6 : decode cX2_receive 6 = .ok (.iadd, 1) := by decide +kernel
theorem dX2_receive_7 : decode cX2_receive 7 = .ok (.putfield 22, 3) := by decide +kernel
theorem dX2_receive_10 : decode cX2_receive 10 = .ok (.aload_n 0, 1) := by decide +kernel
theorem dX2_receive_11 : decode cX2_receive 11 = .ok (.dup, 1) := by decide +kernel
theorem dX2_receive_12 : decode cX2_receive 12 = .ok (.getfield 35, 3) := by decide +kernel
theorem dX2_receive_15 : decode cX2_receive 15 = .ok (.iload_n 1, 1) := by decide +kernel
theorem dX2_receive_16 : decode cX2_receive 16 = .ok (.iadd, 1) := by decide +kernel
theorem dX2_receive_17 : decode cX2_receive 17 = .ok (.putfield 35, 3) := by decide +kernel
theorem dX2_receive_20 : decode cX2_receive 20 = .ok (.return_, 1) := by decide +kernel
abbrev rmX2_receive : Room := { frames := 0, cells := 0, slots := 0, locals := 0 }
set_option maxRecDepth 20000 in
theorem in_X2_receive_X2 : ∀ w ∈ wsX20, w ∈ wsX2_receive := by decide +kernel

set_option maxRecDepth 100000 in
set_option maxHeartbeats 4000000 in
theorem c_X2_receive {l : Launch} {g : Geo} {M : Nat → Nat → Int32} {P : Nat → Nat} {c i : Nat} (hc : c < 6) (hi : i < 6) {a : Int32} : Met l yX2_receive wsX2_receive rmX2_receive (cPre g [.ref (g.1 (24 * c + 5 + i)), .int a] M P) (cQv g (fun M' P' => P = P' ∧ M' = va_up M c (recvX (M c) i a))) 0 0 (gA g) := by
  refine met_v (cc := cX2_receive) (maxL := 2) (by decide) rfl ⟨rfl, rfl⟩ (Nat.le_of_ble_eq_true rfl) (fun x hx h hret => ?_)
  replace h : Cxk x g cX2_receive 2 wsX2_receive RX2 rmX2_receive := h
  show X x 0 [(0, .ref (g.1 (24 * c + 5 + i))), (1, .int a)] [] M P
  refine x_aload_n h 0 dX2_receive_0 rfl rfl ?_
  refine x_dup h dX2_receive_1 rfl ?_
  refine xg_X2_4 h hc (by omega) in_X2_receive_X2 (by decide +kernel) dX2_receive_2 ?_
  refine x_iload_n h 1 dX2_receive_5 rfl rfl ?_
  refine x_iadd h dX2_receive_6 ?_
  refine xp_X2_4 h hc (by omega) in_X2_receive_X2 (by decide +kernel) dX2_receive_7 ?_
  refine x_aload_n h 0 dX2_receive_10 rfl rfl ?_
  refine x_dup h dX2_receive_11 rfl ?_
  refine xg_X2_8 h hc (by omega) in_X2_receive_X2 (by decide +kernel) dX2_receive_12 ?_
  refine x_iload_n h 1 dX2_receive_15 rfl rfl ?_
  refine x_iadd h dX2_receive_16 ?_
  refine xp_X2_8 h hc (by omega) in_X2_receive_X2 (by decide +kernel) dX2_receive_17 ?_
  exact hret _ _ _ _ dX2_receive_20 (by refine ⟨rfl, ?_⟩; simp only [st2_va, va_up_up, va_up_k]; unfold recvX; congr 2; simp [upd])
