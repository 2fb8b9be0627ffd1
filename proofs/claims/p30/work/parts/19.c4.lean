section ROWS2
variable {x : Ctx} {g : Geo} {cc : ByteArray} {nL : Nat} {Ts : List Cond} {own : String} {rm : Room} {pc : Nat} {lv lv' : List (Nat × Value)} {st : List Value} {M : Nat → Nat → Int32} {P : Nat → Nat}
def ushr (a b : Int32) : Int32 := (a.toUInt32 >>> (b.toUInt32 &&& Int32.toUInt32 31)).toInt32
theorem x_iushr (h : Cxk x g cc nL Ts own rm) {a b : Int32} (hd : decode cc pc = .ok (.iushr, 1)) (k : X x (pc + 1) lv (.int (ushr a b) :: st) M P) : X x pc lv (.int b :: .int a :: st) M P := fun H locs ls h1 h2 h3 => lv_iushr h.1.1 h.1.2.1 hd rfl (k H locs ls h1 h2 h3)
theorem x_ldcw (h : Cxk x g cc nL Ts own rm) {index : Nat} (v : Int32) (hc : Jvm.Cond.constant own index v ∈ Ts) (hd : decode cc pc = .ok (.ldc_w index, 3)) (k : X x (pc + 3) lv (.int v :: st) M P) : X x pc lv st M P := fun H locs ls h1 h2 h3 => lv_ldcw h.1.1 h.1.2.1 h.1.2.2.2.1 (h.1.2.2.2.2 _ hc) hd (k H locs ls h1 h2 h3)
theorem x_mmax (h : Cxk x g cc nL Ts own rm) {index : Nat} {a b : Int32} (hw : Cond.methodLink own index Lib.Math.max.name ∈ Ts ∧ Cond.static Lib.Math.max.name ∈ Ts ∧ Cond.initialized "java/lang/Math" ∈ Ts ∧ Cond.code Lib.Math.max.name Lib.Math.max.code 2 (some .int) ∈ Ts) (hR : 1 ≤ rm.frames ∧ (st.map fun v => v.category).sum + 13 ≤ rm.locals) (hd : decode cc pc = .ok (.invokestatic index, 3)) (k : X x (pc + 3) lv (.int (if a < b then b else a) :: st) M P) : X x pc lv (.int b :: .int a :: st) M P := by
  obtain ⟨⟨p, l, e, R, s⟩, ⟨m, args, below, meth, c0⟩, g', nL', Q⟩ := x
  obtain ⟨h1, h2, h3, h4, h5⟩ := h
  obtain rfl : nL = nL' := h4.symm
  obtain rfl : rm = R := h5.symm
  intro H locs ls hl hP hS
  exact va_mmax h1.1 h1.2.1 (h1.2.2.1.trans hl.1.symm) h1.2.2.2.1 (h1.2.2.2.2 _ hw.1) (h1.2.2.2.2 _ hw.2.1) (h1.2.2.2.2 _ hw.2.2.1) (h1.2.2.2.2 _ hw.2.2.2) hR.1 hR.2 (Nat.zero_le _) (Nat.zero_le _) hd (k H locs ls hl hP hS)
theorem x_mmin (h : Cxk x g cc nL Ts own rm) {index : Nat} {a b : Int32} (hw : Cond.methodLink own index Lib.Math.min.name ∈ Ts ∧ Cond.static Lib.Math.min.name ∈ Ts ∧ Cond.initialized "java/lang/Math" ∈ Ts ∧ Cond.code Lib.Math.min.name Lib.Math.min.code 2 (some .int) ∈ Ts) (hR : 1 ≤ rm.frames ∧ (st.map fun v => v.category).sum + 13 ≤ rm.locals) (hd : decode cc pc = .ok (.invokestatic index, 3)) (k : X x (pc + 3) lv (.int (if b < a then b else a) :: st) M P) : X x pc lv (.int b :: .int a :: st) M P := by
  obtain ⟨⟨p, l, e, R, s⟩, ⟨m, args, below, meth, c0⟩, g', nL', Q⟩ := x
  obtain ⟨h1, h2, h3, h4, h5⟩ := h
  obtain rfl : nL = nL' := h4.symm
  obtain rfl : rm = R := h5.symm
  intro H locs ls hl hP hS
  exact va_mmin h1.1 h1.2.1 (h1.2.2.1.trans hl.1.symm) h1.2.2.2.1 (h1.2.2.2.2 _ hw.1) (h1.2.2.2.2 _ hw.2.1) (h1.2.2.2.2 _ hw.2.2.1) (h1.2.2.2.2 _ hw.2.2.2) hR.1 hR.2 (Nat.zero_le _) (Nat.zero_le _) hd (k H locs ls hl hP hS)
end ROWS2
/-- how many of six bits -/
def bcnt (b : Nat) : Nat := cnt (fun k => b.testBit k) 6
def bc1 (x : Int32) : Int32 := x - (ushr x (nI 1) &&& nI 1431655765)
def bc2 (x : Int32) : Int32 := (x &&& nI 858993459) + (ushr x (nI 2) &&& nI 858993459)
def bc3 (x : Int32) : Int32 := (x + ushr x (nI 4)) &&& nI 252645135
def bc4 (x : Int32) : Int32 := x + ushr x (nI 8)
def bc5 (x : Int32) : Int32 := x + ushr x (nI 16)
theorem bc_all : ∀ b : Fin 64, (bc5 (bc4 (bc3 (bc2 (bc1 (nI b.val))))) &&& nI 63) = nI (bcnt b.val) := by decide +kernel
theorem bc_eq {b : Nat} (h : b < 64) : (bc5 (bc4 (bc3 (bc2 (bc1 (nI b))))) &&& nI 63) = nI (bcnt b) := bc_all ⟨b, h⟩
/-- a route becomes wire -/
def tkF (e : Enc) (X : Nat → Int32) (k : Nat) (L : List Nat) : Nat → Int32 := fun j => if 7 ≤ j ∧ j < 169 ∧ (j - 7) ∈ L ∧ X j = e.1 then e.2.1 k else X j
def takeE (e : Enc) (X : Nat → Int32) (k : Nat) (L : List Nat) : Nat → Int32 := upd (tkF e X k L) (169 + 9 * k + 5) (nI 1)
theorem tkF_0 (e : Enc) (X : Nat → Int32) (k : Nat) : tkF e X k [] = X := by
  funext j
  unfold tkF
  rw [if_neg (fun h => List.not_mem_nil h.2.2.1)]
theorem tkF_at {e : Enc} {X : Nat → Int32} {k a : Nat} {l : List Nat} (ha : a < 162) : tkF e X k l (7 + a) = if a ∈ l ∧ X (7 + a) = e.1 then e.2.1 k else X (7 + a) := by
  unfold tkF
  rw [Nat.add_sub_cancel_left]
  by_cases h : a ∈ l ∧ X (7 + a) = e.1
  · rw [if_pos ⟨by omega, by omega, h.1, h.2⟩, if_pos h]
  · rw [if_neg (fun q => h ⟨q.2.2.1, q.2.2.2⟩), if_neg h]
theorem tkF_s {e : Enc} {X : Nat → Int32} {k a : Nat} {l : List Nat} (ha : a < 162) (h : tkF e X k l (7 + a) = e.1) : upd (tkF e X k l) (7 + a) (e.2.1 k) = tkF e X k (l ++ [a]) := by
  have hX : X (7 + a) = e.1 := by
    rw [tkF_at ha] at h
    by_cases q : a ∈ l ∧ X (7 + a) = e.1
    · exact q.2
    · rw [if_neg q] at h; exact h
  funext j
  by_cases hj : j = 7 + a
  · subst hj
    rw [pk_us, tkF_at ha, if_pos ⟨List.mem_append_right _ (List.mem_singleton.mpr rfl), hX⟩]
  · rw [pk_un hj]
    unfold tkF
    by_cases q : 7 ≤ j ∧ j < 169 ∧ (j - 7) ∈ l ∧ X j = e.1
    · rw [if_pos q, if_pos ⟨q.1, q.2.1, List.mem_append_left _ q.2.2.1, q.2.2.2⟩]
    · rw [if_neg q, if_neg (fun z => q ⟨z.1, z.2.1, (List.mem_append.mp z.2.2.1).elim id (fun w => absurd (List.mem_singleton.mp w) (by omega)), z.2.2.2⟩)]
theorem tkF_n {e : Enc} {X : Nat → Int32} {k a : Nat} {l : List Nat} (ha : a < 162) (h : ¬ tkF e X k l (7 + a) = e.1) : tkF e X k l = tkF e X k (l ++ [a]) := by
  have hX : X (7 + a) = e.1 → a ∈ l := fun q => Classical.byContradiction (fun z => h (by rw [tkF_at ha, if_neg (fun w => z w.1)]; exact q))
  funext j
  unfold tkF
  by_cases q : 7 ≤ j ∧ j < 169 ∧ (j - 7) ∈ l ∧ X j = e.1
  · rw [if_pos q, if_pos ⟨q.1, q.2.1, List.mem_append_left _ q.2.2.1, q.2.2.2⟩]
  · rw [if_neg q, if_neg (fun z => q ⟨z.1, z.2.1, (List.mem_append.mp z.2.2.1).elim id (fun w => by
      have e1 : j = 7 + a := by have := List.mem_singleton.mp w; omega
      rw [List.mem_singleton.mp w]
      exact hX (by rw [← e1]; exact z.2.2.2)), z.2.2.2⟩)]
theorem RtM_v {M : Nat → Nat → Int32} {c : Nat} {Y : Nat → Int32} {L : List Nat} {acc : Acc} (hc : c < 6) (h : RtM M L acc) : RtM (va_up M c Y) L acc := RtM_fr h (va_up_n _ _ (by omega)) (va_up_n _ _ (by omega)) (fun j _ _ => by rw [va_up_n _ _ (by omega)])
theorem wir_cg {X Y : Nat → Int32} {n : Int32} (h : ∀ a, a < 162 → X (7 + a) = Y (7 + a)) : wir X n = wir Y n := cnt_congr (fun a ha => by rw [h a ha])
theorem via_cg {X Y : Nat → Int32} {n : Int32} (h : ∀ a, a < 162 → X (7 + a) = Y (7 + a)) : via X n = via Y n := cnt_congr (fun a ha => by rw [h a (by omega), h (a + 81) (by omega)])
/-- a claim's row anew, behind it the marks of the cells that were lost -/
def clmRow (X : Nat → Int32) (K : Nat) (h d cells vias w : Int32) : Nat → Int32 := upd (upd (upd (upd (upd (upd (upd (upd X 6 (nI (K + 1))) (223 + 13 * K) h) (223 + 13 * K + 1) d) (223 + 13 * K + 2) cells) (223 + 13 * K + 3) vias) (223 + 13 * K + 4) w) (223 + 13 * K + 5) (nI 0)) (223 + 13 * K + 6) (X 4)
theorem clmRow_o {X : Nat → Int32} {K : Nat} {h d cells vias w : Int32} {a : Nat} (ha : a < 162) : clmRow X K h d cells vias w (7 + a) = X (7 + a) := by
  unfold clmRow
  repeat rw [pk_un (by omega)]
def mkC (X Y : Nat → Int32) (K : Nat) (o : Int32) : Nat → Int32 := scan 400 Y (fun a u => if X (7 + a) = o then u ||| (nI 1 <<< (nI K &&& 31)) else u) 162
def claimE (mk : (Nat → Int32) → (Nat → Int32) → Nat → Int32 → Nat → Int32) (e : Enc) (X : Nat → Int32) (K v n : Nat) (w : Int32) : Nat → Int32 := mk X (clmRow X K (nI v) (nI n) (nI (wir X (e.2.1 v))) (nI (via X (e.2.1 v))) w) K (e.2.1 v)

theorem dJ6_bitCount_0f7a4_0 : decode cJ6_bitCount_0f7a4 0 = .ok (.iload_n 0, 1) := by decide +kernel
theorem dJ6_bitCount_0f7a4_1 : decode cJ6_bitCount_0f7a4 1 = .ok (.iload_n 0, 1) := by decide +kernel
theorem dJ6_bitCount_0f7a4_2 : decode cJ6_bitCount_0f7a4 2 = .ok (.iconst 1, 1) := by decide +kernel
theorem dJ6_bitCount_0f7a4_3 : decode cJ6_bitCount_0f7a4 3 = .ok (.iushr, 1) := by decide +kernel
theorem dJ6_bitCount_0f7a4_4 : decode cJ6_bitCount_0f7a4 4 = .ok (.ldc_w 265, 3) := by decide +kernel
theorem dJ6_bitCount_0f7a4_7 : decode cJ6_bitCount_0f7a4 7 = .ok (.iand, 1) := by decide +kernel
theorem dJ6_bitCount_0f7a4_8 : decode cJ6_bitCount_0f7a4 8 = .ok (.isub, 1) := by decide +kernel
theorem dJ6_bitCount_0f7a4_9 : decode cJ6_bitCount_0f7a4 9 = .ok (.istore_n 0, 1) := by decide +kernel
theorem dJ6_bitCount_0f7a4_10 : decode cJ6_bitCount_0f7a4 10 = .ok (.iload_n 0, 1) := by decide +kernel
theorem dJ6_bitCount_0f7a4_11 : decode cJ6_bitCount_0f7a4 11 = .ok (.ldc_w 266, 3) := by decide +kernel
theorem dJ6_bitCount_0f7a4_14 : decode cJ6_bitCount_0f7a4 14 = .ok (.iand, 1) := by decide +kernel
theorem dJ6_bitCount_0f7a4_15 : decode cJ6_bitCount_0f7a4 15 = .ok (.iload_n 0, 1) := by decide +kernel
theorem dJ6_bitCount_0f7a4_16 : decode cJ6_bitCount_0f7a4 16 = .ok (.iconst 2, 1) := by decide +kernel
theorem dJ6_bitCount_0f7a4_17 : decode cJ6_bitCount_0f7a4 17 = .ok (.iushr, 1) := by decide +kernel
theorem dJ6_bitCount_0f7a4_18 : decode cJ6_bitCount_0f7a4 18 = .ok (.ldc_w 266, 3) := by decide +kernel
theorem dJ6_bitCount_0f7a4_21 : decode cJ6_bitCount_0f7a4 21 = .ok (.iand, 1) := by decide +kernel
theorem dJ6_bitCount_0f7a4_22 : decode cJ6_bitCount_0f7a4 22 = .ok (.iadd, 1) := by decide +kernel
theorem dJ6_bitCount_0f7a4_23 : decode cJ6_bitCount_0f7a4 23 = .ok (.istore_n 0, 1) := by decide +kernel
theorem dJ6_bitCount_0f7a4_24 : decode cJ6_bitCount_0f7a4 24 = .ok (.iload_n 0, 1) := by decide +kernel
theorem dJ6_bitCount_0f7a4_25 : decode cJ6_bitCount_0f7a4 25 = .ok (.iload_n 0, 1) := by decide +kernel
theorem dJ6_bitCount_0f7a4_26 : decode cJ6_bitCount_0f7a4 26 = .ok (.iconst 4, 1) := by decide +kernel
theorem dJ6_bitCount_0f7a4_27 : decode cJ6_bitCount_0f7a4 27 = .ok (.iushr, 1) := by decide +kernel
theorem dJ6_bitCount_0f7a4_28 : decode cJ6_bitCount_0f7a4 28 = .ok (.iadd, 1) := by decide +kernel
theorem dJ6_bitCount_0f7a4_29 : decode cJ6_bitCount_0f7a4 29 = .ok (.ldc_w 267, 3) := by decide +kernel
theorem dJ6_bitCount_0f7a4_32 : decode cJ6_bitCount_0f7a4 32 = .ok (.iand, 1) := by decide +kernel
theorem dJ6_bitCount_0f7a4_33 : decode cJ6_bitCount_0f7a4 33 = .ok (.istore_n 0, 1) := by decide +kernel
theorem dJ6_bitCount_0f7a4_34 : decode cJ6_bitCount_0f7a4 34 = .ok (.iload_n 0, 1) := by decide +kernel
theorem dJ6_bitCount_0f7a4_35 : decode cJ6_bitCount_0f7a4 35 = .ok (.iload_n 0, 1) := by decide +kernel
theorem dJ6_bitCount_0f7a4_36 : decode cJ6_bitCount_0f7a4 36 = .ok (.bipush 8, 2) := by decide +kernel
theorem dJ6_bitCount_0f7a4_38 : decode cJ6_bitCount_0f7a4 38 = .ok (.iushr, 1) := by decide +kernel
theorem dJ6_bitCount_0f7a4_39 : decode cJ6_bitCount_0f7a4 39 = .ok (.iadd, 1) := by decide +kernel
theorem dJ6_bitCount_0f7a4_40 : decode cJ6_bitCount_0f7a4 40 = .ok (.istore_n 0, 1) := by decide +kernel
theorem dJ6_bitCount_0f7a4_41 : decode cJ6_bitCount_0f7a4 41 = .ok (.iload_n 0, 1) := by decide +kernel
theorem dJ6_bitCount_0f7a4_42 : decode cJ6_bitCount_0f7a4 42 = .ok (.iload_n 0, 1) := by decide +kernel
theorem dJ6_bitCount_0f7a4_43 : decode cJ6_bitCount_0f7a4 43 = .ok (.bipush 16, 2) := by decide +kernel
theorem dJ6_bitCount_0f7a4_45 : decode cJ6_bitCount_0f7a4 45 = .ok (.iushr, 1) := by decide +kernel
theorem dJ6_bitCount_0f7a4_46 : decode cJ6_bitCount_0f7a4 46 = .ok (.iadd, 1) := by decide +kernel
theorem dJ6_bitCount_0f7a4_47 : decode cJ6_bitCount_0f7a4 47 = .ok (.istore_n 0, 1) := by decide +kernel
theorem dJ6_bitCount_0f7a4_48 : decode cJ6_bitCount_0f7a4 48 = .ok (.iload_n 0, 1) := by decide +kernel
theorem dJ6_bitCount_0f7a4_49 : decode cJ6_bitCount_0f7a4 49 = .ok (.bipush 63, 2) := by decide +kernel
theorem dJ6_bitCount_0f7a4_51 : decode cJ6_bitCount_0f7a4 51 = .ok (.iand, 1) := by decide +kernel
theorem dJ6_bitCount_0f7a4_52 : decode cJ6_bitCount_0f7a4 52 = .ok (.ireturn, 1) := by decide +kernel
abbrev rmJ6_bitCount_0f7a4 : Room := { frames := 0, cells := 0, slots := 0, locals := 0 }

set_option maxRecDepth 100000 in
set_option maxHeartbeats 4000000 in
theorem c_J6_bitCount_0f7a4 {l : Launch} {g : Geo} {M : Nat → Nat → Int32} {P : Nat → Nat} {b : Nat} (hb : b < 64) : Met l yJ6_bitCount_0f7a4 wsJ6_bitCount_0f7a4 rmJ6_bitCount_0f7a4 (cPre g [.int (nI b)] M P) (cQi g (fun r M' P' => (P = P' ∧ M = M') ∧ r = nI (bcnt b))) 0 0 (gA g) := by
  refine met_i (cc := cJ6_bitCount_0f7a4) (maxL := 1) (by decide) rfl ⟨rfl, rfl⟩ (Nat.le_of_ble_eq_true rfl) (fun x hx h hret => ?_)
  replace h : Cxk x g cJ6_bitCount_0f7a4 1 wsJ6_bitCount_0f7a4 RJ6 rmJ6_bitCount_0f7a4 := h
  show X x 0 [(0, .int (nI b))] [] M P
  refine x_iload_n h 0 dJ6_bitCount_0f7a4_0 rfl rfl ?_
  refine x_iload_n h 0 dJ6_bitCount_0f7a4_1 rfl rfl ?_
  refine x_iconst h (nI 1) dJ6_bitCount_0f7a4_2 (by decide) ?_
  refine x_iushr h dJ6_bitCount_0f7a4_3 ?_
  refine x_ldcw h (nI 1431655765) (by decide +kernel) dJ6_bitCount_0f7a4_4 ?_
  refine x_iand h dJ6_bitCount_0f7a4_7 ?_
  refine x_isub h dJ6_bitCount_0f7a4_8 ?_
  refine x_istore_n h [(0, .int ((nI b) - ((ushr (nI b) (nI 1)) &&& (nI 1431655765))))] dJ6_bitCount_0f7a4_9 rfl (by decide) rfl ?_
  refine x_iload_n h 0 dJ6_bitCount_0f7a4_10 rfl rfl ?_
  refine x_ldcw h (nI 858993459) (by decide +kernel) dJ6_bitCount_0f7a4_11 ?_
  refine x_iand h dJ6_bitCount_0f7a4_14 ?_
  refine x_iload_n h 0 dJ6_bitCount_0f7a4_15 rfl rfl ?_
  refine x_iconst h (nI 2) dJ6_bitCount_0f7a4_16 (by decide) ?_
  refine x_iushr h dJ6_bitCount_0f7a4_17 ?_
  refine x_ldcw h (nI 858993459) (by decide +kernel) dJ6_bitCount_0f7a4_18 ?_
  refine x_iand h dJ6_bitCount_0f7a4_21 ?_
  refine x_iadd h dJ6_bitCount_0f7a4_22 ?_
  refine x_istore_n h [(0, .int ((((nI b) - ((ushr (nI b) (nI 1)) &&& (nI 1431655765))) &&& (nI 858993459)) + ((ushr ((nI b) - ((ushr (nI b) (nI 1)) &&& (nI 1431655765))) (nI 2)) &&& (nI 858993459))))] dJ6_bitCount_0f7a4_23 rfl (by decide) rfl ?_
  refine x_iload_n h 0 dJ6_bitCount_0f7a4_24 rfl rfl ?_
  refine x_iload_n h 0 dJ6_bitCount_0f7a4_25 rfl rfl ?_
  refine x_iconst h (nI 4) dJ6_bitCount_0f7a4_26 (by decide) ?_
  refine x_iushr h dJ6_bitCount_0f7a4_27 ?_
  refine x_iadd h dJ6_bitCount_0f7a4_28 ?_
  refine x_ldcw h (nI 252645135) (by decide +kernel) dJ6_bitCount_0f7a4_29 ?_
  refine x_iand h dJ6_bitCount_0f7a4_32 ?_
  refine x_istore_n h [(0, .int ((((((nI b) - ((ushr (nI b) (nI 1)) &&& (nI 1431655765))) &&& (nI 858993459)) + ((ushr ((nI b) - ((ushr (nI b) (nI 1)) &&& (nI 1431655765))) (nI 2)) &&& (nI 858993459))) + (ushr ((((nI b) - ((ushr (nI b) (nI 1)) &&& (nI 1431655765))) &&& (nI 858993459)) + ((ushr ((nI b) - ((ushr (nI b) (nI 1)) &&& (nI 1431655765))) (nI 2)) &&& (nI 858993459))) (nI 4))) &&& (nI 252645135)))] dJ6_bitCount_0f7a4_33 rfl (by decide) rfl ?_
  refine x_iload_n h 0 dJ6_bitCount_0f7a4_34 rfl rfl ?_
  refine x_iload_n h 0 dJ6_bitCount_0f7a4_35 rfl rfl ?_
  refine x_bipush h (nI 8) dJ6_bitCount_0f7a4_36 (by decide) ?_
  refine x_iushr h dJ6_bitCount_0f7a4_38 ?_
  refine x_iadd h dJ6_bitCount_0f7a4_39 ?_
  refine x_istore_n h [(0, .int (((((((nI b) - ((ushr (nI b) (nI 1)) &&& (nI 1431655765))) &&& (nI 858993459)) + ((ushr ((nI b) - ((ushr (nI b) (nI 1)) &&& (nI 1431655765))) (nI 2)) &&& (nI 858993459))) + (ushr ((((nI b) - ((ushr (nI b) (nI 1)) &&& (nI 1431655765))) &&& (nI 858993459)) + ((ushr ((nI b) - ((ushr (nI b) (nI 1)) &&& (nI 1431655765))) (nI 2)) &&& (nI 858993459))) (nI 4))) &&& (nI 252645135)) + (ushr ((((((nI b) - ((ushr (nI b) (nI 1)) &&& (nI 1431655765))) &&& (nI 858993459)) + ((ushr ((nI b) - ((ushr (nI b) (nI 1)) &&& (nI 1431655765))) (nI 2)) &&& (nI 858993459))) + (ushr ((((nI b) - ((ushr (nI b) (nI 1)) &&& (nI 1431655765))) &&& (nI 858993459)) + ((ushr ((nI b) - ((ushr (nI b) (nI 1)) &&& (nI 1431655765))) (nI 2)) &&& (nI 858993459))) (nI 4))) &&& (nI 252645135)) (nI 8))))] dJ6_bitCount_0f7a4_40 rfl (by decide) rfl ?_
  refine x_iload_n h 0 dJ6_bitCount_0f7a4_41 rfl rfl ?_
  refine x_iload_n h 0 dJ6_bitCount_0f7a4_42 rfl rfl ?_
  refine x_bipush h (nI 16) dJ6_bitCount_0f7a4_43 (by decide) ?_
  refine x_iushr h dJ6_bitCount_0f7a4_45 ?_
  refine x_iadd h dJ6_bitCount_0f7a4_46 ?_
  refine x_istore_n h [(0, .int ((((((((nI b) - ((ushr (nI b) (nI 1)) &&& (nI 1431655765))) &&& (nI 858993459)) + ((ushr ((nI b) - ((ushr (nI b) (nI 1)) &&& (nI 1431655765))) (nI 2)) &&& (nI 858993459))) + (ushr ((((nI b) - ((ushr (nI b) (nI 1)) &&& (nI 1431655765))) &&& (nI 858993459)) + ((ushr ((nI b) - ((ushr (nI b) (nI 1)) &&& (nI 1431655765))) (nI 2)) &&& (nI 858993459))) (nI 4))) &&& (nI 252645135)) + (ushr ((((((nI b) - ((ushr (nI b) (nI 1)) &&& (nI 1431655765))) &&& (nI 858993459)) + ((ushr ((nI b) - ((ushr (nI b) (nI 1)) &&& (nI 1431655765))) (nI 2)) &&& (nI 858993459))) + (ushr ((((nI b) - ((ushr (nI b) (nI 1)) &&& (nI 1431655765))) &&& (nI 858993459)) + ((ushr ((nI b) - ((ushr (nI b) (nI 1)) &&& (nI 1431655765))) (nI 2)) &&& (nI 858993459))) (nI 4))) &&& (nI 252645135)) (nI 8))) + (ushr (((((((nI b) - ((ushr (nI b) (nI 1)) &&& (nI 1431655765))) &&& (nI 858993459)) + ((ushr ((nI b) - ((ushr (nI b) (nI 1)) &&& (nI 1431655765))) (nI 2)) &&& (nI 858993459))) + (ushr ((((nI b) - ((ushr (nI b) (nI 1)) &&& (nI 1431655765))) &&& (nI 858993459)) + ((ushr ((nI b) - ((ushr (nI b) (nI 1)) &&& (nI 1431655765))) (nI 2)) &&& (nI 858993459))) (nI 4))) &&& (nI 252645135)) + (ushr ((((((nI b) - ((ushr (nI b) (nI 1)) &&& (nI 1431655765))) &&& (nI 858993459)) + ((ushr ((nI b) - ((ushr (nI b) (nI 1)) &&& (nI 1431655765))) (nI 2)) &&& (nI 858993459))) + (ushr ((((nI b) - ((ushr (nI b) (nI 1)) &&& (nI 1431655765))) &&& (nI 858993459)) + ((ushr ((nI b) - ((ushr (nI b) (nI 1)) &&& (nI 1431655765))) (nI 2)) &&& (nI 858993459))) (nI 4))) &&& (nI 252645135)) (nI 8))) (nI 16))))] dJ6_bitCount_0f7a4_47 rfl (by decide) rfl ?_
  refine x_iload_n h 0 dJ6_bitCount_0f7a4_48 rfl rfl ?_
  refine x_bipush h (nI 63) dJ6_bitCount_0f7a4_49 (by decide) ?_
  refine x_iand h dJ6_bitCount_0f7a4_51 ?_
  exact hret _ _ _ _ _ dJ6_bitCount_0f7a4_52 (by exact ⟨⟨rfl, rfl⟩, bc_eq hb⟩)

set_option maxRecDepth 20000 in
theorem ggX0_takeRoute_X3_cellAt : GoodIn wsX0_takeRoute wsX3_cellAt := goodIn_r _ [9, 10, 11, 12, 13, 14, 15, 16, 17, 18, 19, 20, 21, 22, 23, 24, 25, 26, 27] (by decide +kernel) (by decide +kernel)
set_option maxRecDepth 20000 in
theorem gX0_takeRoute_X3_cellAt : GoodIn wsX0_takeRoute (wsV RX0 166 RX3 yX3_cellAt wsX3_cellAt) := goodIn_app (goodIn_of _ (by decide +kernel)) ggX0_takeRoute_X3_cellAt
theorem dX0_takeRoute_0 : decode cX0_takeRoute 0 = .ok (.iconst 0, 1) := by decide +kernel
theorem dX0_takeRoute_1 : decode cX0_takeRoute 1 = .ok (.istore_n 3, 1) := by decide +kernel
theorem dX0_takeRoute_2 : decode cX0_takeRoute 2 = .ok (.iload_n 3, 1) := by decide +kernel
theorem dX0_takeRoute_3 : decode cX0_takeRoute 3 = .ok (.aload_n 1, 1) := by decide +kernel
theorem dX0_takeRoute_4 : decode cX0_takeRoute 4 = .ok (.getfield 163, 3) := by decide +kernel
theorem dX0_takeRoute_7 : decode cX0_takeRoute 7 = .ok (.if_icmp .ge 48, 3) := by decide +kernel
theorem dX0_takeRoute_10 : decode cX0_takeRoute 10 = .ok (.aload_n 1, 1) := by decide +kernel
theorem dX0_takeRoute_11 : decode cX0_takeRoute 11 = .ok (.iload_n 3, 1) := by decide +kernel
theorem dX0_takeRoute_12 : decode cX0_takeRoute 12 = .ok (.invokevirtual 166, 3) := by decide +kernel
theorem dX0_takeRoute_15 : decode cX0_takeRoute 15 = .ok (.istore 4, 2) := by decide +kernel
theorem dX0_takeRoute_17 : decode cX0_takeRoute 17 = .ok (.iload 4, 2) := by decide +kernel
theorem dX0_takeRoute_19 : decode cX0_takeRoute 19 = .ok (.ifCond .lt 30, 3) := by decide +kernel
theorem dX0_takeRoute_22 : decode cX0_takeRoute 22 = .ok (.iload 4, 2) := by decide +kernel
theorem dX0_takeRoute_24 : decode cX0_takeRoute 24 = .ok (.sipush 162, 3) := by decide +kernel
theorem dX0_takeRoute_27 : decode cX0_takeRoute 27 = .ok (.if_icmp .ge 22, 3) := by decide +kernel
theorem dX0_takeRoute_30 : decode cX0_takeRoute 30 = .ok (.aload_n 0, 1) := by decide +kernel
theorem dX0_takeRoute_31 : decode cX0_takeRoute 31 = .ok (.getfield 15, 3) := by decide +kernel
theorem dX0_takeRoute_34 : decode cX0_takeRoute 34 = .ok (.iload 4, 2) := by decide +kernel
theorem dX0_takeRoute_36 : decode cX0_takeRoute 36 = .ok (.iaload, 1) := by decide +kernel
theorem dX0_takeRoute_37 : decode cX0_takeRoute 37 = .ok (.iconst (-1), 1) := by decide +kernel
theorem dX0_takeRoute_38 : decode cX0_takeRoute 38 = .ok (.if_icmp .ne 11, 3) := by decide +kernel
theorem dX0_takeRoute_41 : decode cX0_takeRoute 41 = .ok (.aload_n 0, 1) := by decide +kernel
theorem dX0_takeRoute_42 : decode cX0_takeRoute 42 = .ok (.getfield 15, 3) := by decide +kernel
theorem dX0_takeRoute_45 : decode cX0_takeRoute 45 = .ok (.iload 4, 2) := by decide +kernel
theorem dX0_takeRoute_47 : decode cX0_takeRoute 47 = .ok (.iload_n 2, 1) := by decide +kernel
theorem dX0_takeRoute_48 : decode cX0_takeRoute 48 = .ok (.iastore, 1) := by decide +kernel
theorem dX0_takeRoute_49 : decode cX0_takeRoute 49 = .ok (.iinc 3 1, 3) := by decide +kernel
theorem dX0_takeRoute_52 : decode cX0_takeRoute 52 = .ok (.goto (-50), 3) := by decide +kernel
theorem dX0_takeRoute_55 : decode cX0_takeRoute 55 = .ok (.aload_n 0, 1) := by decide +kernel
theorem dX0_takeRoute_56 : decode cX0_takeRoute 56 = .ok (.getfield 23, 3) := by decide +kernel
theorem dX0_takeRoute_59 : decode cX0_takeRoute 59 = .ok (.iload_n 2, 1) := by decide +kernel
theorem dX0_takeRoute_60 : decode cX0_takeRoute 60 = .ok (.aaload, 1) := by decide +kernel
theorem dX0_takeRoute_61 : decode cX0_takeRoute 61 = .ok (.iconst 1, 1) := by decide +kernel
theorem dX0_takeRoute_62 : decode cX0_takeRoute 62 = .ok (.putfield 97, 3) := by decide +kernel
theorem dX0_takeRoute_65 : decode cX0_takeRoute 65 = .ok (.return_, 1) := by decide +kernel
abbrev rmX0_takeRoute : Room := { frames := 1, cells := 0, slots := 0, locals := 21 }
set_option maxRecDepth 20000 in
theorem in_X0_takeRoute_X0 : ∀ w ∈ wsX00, w ∈ wsX0_takeRoute := by decide +kernel
set_option maxRecDepth 20000 in
theorem in_X0_takeRoute_X2 : ∀ w ∈ wsX20, w ∈ wsX0_takeRoute := by decide +kernel
set_option maxRecDepth 20000 in
theorem in_X0_takeRoute_X3 : ∀ w ∈ wsX30, w ∈ wsX0_takeRoute := by decide +kernel

set_option maxRecDepth 100000 in
set_option maxHeartbeats 4000000 in
theorem c_X0_takeRoute {l : Launch} {g : Geo} {M : Nat → Nat → Int32} {P : Nat → Nat} {c : Nat} (hc : c < 6) {L : List Nat} {acc : Acc} {k : Nat} (hk : k < 6) (hR : RtM M L acc) (hL : L.length ≤ 324) (hLa : ∀ a, a ∈ L → a < 162) : Met l yX0_takeRoute wsX0_takeRoute rmX0_takeRoute (cPre g [.ref (g.1 (24 * c)), .ref (g.1 149), .int (nI k)] M P) (cQv g (fun M' P' => P = P' ∧ M' = va_up M c (takeE eC (M c) k L))) 0 0 (gA g) := by
  refine met_v (cc := cX0_takeRoute) (maxL := 5) (by decide) rfl ⟨rfl, rfl⟩ (Nat.le_of_ble_eq_true rfl) (fun x hx h hret => ?_)
  replace h : Cxk x g cX0_takeRoute 5 wsX0_takeRoute RX0 rmX0_takeRoute := h
  show X x 0 [(0, .ref (g.1 (24 * c))), (1, .ref (g.1 149)), (2, .int (nI k))] [] M P
  refine x_iconst h (nI 0) dX0_takeRoute_0 (by decide) ?_
  refine x_istore_n h [(3, .int (nI 0)), (0, .ref (g.1 (24 * c))), (1, .ref (g.1 149)), (2, .int (nI k))] dX0_takeRoute_1 rfl (by decide) rfl ?_
  have L2 : ∀ (fu : Nat) (m : Nat) (W : Nat → Nat → Int32), (L.length - m) < fu → (m ≤ L.length) → (W = va_up M c (tkF eC (M c) k (L.take m))) → X x 2 [(0, .ref (g.1 (24 * c))), (1, .ref (g.1 149)), (2, .int (nI k)), (3, .int (nI m))] [] W P := by
    intro fu
    induction fu with
    | zero => intro m W hmu2; exact absurd hmu2 (Nat.not_lt_zero _)
    | succ fu ih2 =>
      intro m W hmu2 hm hW
      refine x_iload_n h 3 dX0_takeRoute_2 rfl rfl ?_
      refine x_aload_n h 1 dX0_takeRoute_3 rfl rfl ?_
      refine xg_X3_11 h in_X0_takeRoute_X3 (by decide +kernel) dX0_takeRoute_4 ?_
      refine x_top (nI L.length) (by rw [hW, va_up_n _ _ (by omega)]; exact hR.1) ?_
      refine x_icmp_ge_n h 55 dX0_takeRoute_7 (by decide) (by omega) (by omega) (fun c_7 => ?_) (fun c_7 => ?_)
      · -- 7 true
        refine x_aload_n h 0 dX0_takeRoute_55 rfl rfl ?_
        refine xg_X0_3 h hc in_X0_takeRoute_X0 (by decide +kernel) dX0_takeRoute_56 ?_
        refine x_iload_n h 2 dX0_takeRoute_59 rfl rfl ?_
        refine xa_nets h hc dX0_takeRoute_60 (by omega) ?_
        refine x_iconst h (nI 1) dX0_takeRoute_61 (by decide) ?_
        refine xp_X2_5 h hc (by omega) (by decide) in_X0_takeRoute_X2 (by decide +kernel) dX0_takeRoute_62 ?_
        exact hret _ _ _ _ dX0_takeRoute_65 (by obtain rfl : m = L.length := (by omega); refine ⟨rfl, ?_⟩; rw [st2_va, hW, va_up_up, va_up_k, List.take_length]; rfl)
      · -- 7 false
        have hml : m < L.length := by omega
        have ham : L.getD m 0 < 162 := hLa _ (by rw [List.getD_eq_getElem?_getD, List.getElem?_eq_getElem hml]; exact List.getElem_mem hml)
        refine x_aload_n h 1 dX0_takeRoute_10 rfl rfl ?_
        refine x_iload_n h 3 dX0_takeRoute_11 rfl rfl ?_
        refine x_callV h (As := [.int (nI m)]) 1 hx (c_X3_cellAt (L := L) (acc := acc) (by rw [hW]; exact RtM_v hc hR) hL hml) gX0_takeRoute_X3_cellAt rfl ⟨rfl, rfl⟩ (by decide +kernel) rfl (by decide) (by decide) E_149 rfl rfl (Nat.le_of_ble_eq_true rfl) dX0_takeRoute_12 (fun rv M' P' hp => ?_)
        obtain ⟨⟨rfl, rfl⟩, rfl⟩ := hp
        refine x_istore h [(4, .int (nI (L.getD m 0))), (0, .ref (g.1 (24 * c))), (1, .ref (g.1 149)), (2, .int (nI k)), (3, .int (nI m))] dX0_takeRoute_15 (by decide) rfl ?_
        refine x_iload h 0 dX0_takeRoute_17 rfl ?_
        refine x_if_lt_n h 49 dX0_takeRoute_19 (by decide) (by omega) ?_
        refine x_iload h 0 dX0_takeRoute_22 rfl ?_
        refine x_sipush h (nI 162) dX0_takeRoute_24 (by decide) ?_
        refine x_icmp_ge_n h 49 dX0_takeRoute_27 (by decide) (by omega) (by decide) (fun c_27 => by omega) (fun c_27 => ?_)
        refine x_aload_n h 1 dX0_takeRoute_30 rfl rfl ?_
        refine xg_X0_1 h hc in_X0_takeRoute_X0 (by decide +kernel) dX0_takeRoute_31 ?_
        refine x_iload h 0 dX0_takeRoute_34 rfl ?_
        refine xl_own h hc dX0_takeRoute_36 (by omega) ?_
        refine x_iconst h ((-1)) dX0_takeRoute_37 (by decide) ?_
        refine x_icmp_ne h 49 dX0_takeRoute_38 (by decide) (fun c_38 => ?_) (fun c_38 => ?_)
        · -- 38 true
          refine x_iinc_n h 4 (n := 1) [(3, .int (nI (m + 1))), (4, .int (nI (L.getD m 0))), (0, .ref (g.1 (24 * c))), (1, .ref (g.1 149)), (2, .int (nI k))] dX0_takeRoute_49 rfl (by decide) rfl ?_
          refine x_goto h 2 dX0_takeRoute_52 (by decide) ?_
          exact x_lv (ih2 (m + 1) W (by omega) (by omega) (by first | (rw [st2_va, hW, va_up_up, va_up_k, take_s hml]; exact congrArg _ (tkF_s ham (by rw [hW, va_up_k] at c_38; exact c_38))) | (rw [hW, take_s hml, tkF_n ham (by rw [hW, va_up_k] at c_38; exact c_38)]))) [2, 3, 4, 0] rfl
        · -- 38 false
          refine x_aload_n h 1 dX0_takeRoute_41 rfl rfl ?_
          refine xg_X0_1 h hc in_X0_takeRoute_X0 (by decide +kernel) dX0_takeRoute_42 ?_
          refine x_iload h 0 dX0_takeRoute_45 rfl ?_
          refine x_iload_n h 3 dX0_takeRoute_47 rfl rfl ?_
          refine xs_own h hc dX0_takeRoute_48 (by omega) ?_
          refine x_iinc_n h 4 (n := 1) [(3, .int (nI (m + 1))), (4, .int (nI (L.getD m 0))), (0, .ref (g.1 (24 * c))), (1, .ref (g.1 149)), (2, .int (nI k))] dX0_takeRoute_49 rfl (by decide) rfl ?_
          refine x_goto h 2 dX0_takeRoute_52 (by decide) ?_
          exact x_lv (ih2 (m + 1) (st2 W c (7 + (L.getD m 0)) (nI k)) (by omega) (by omega) (by first | (rw [st2_va, hW, va_up_up, va_up_k, take_s hml]; exact congrArg _ (tkF_s ham (by rw [hW, va_up_k] at c_38; exact c_38))) | (rw [hW, take_s hml, tkF_n ham (by rw [hW, va_up_k] at c_38; exact c_38)]))) [2, 3, 4, 0] rfl
  exact x_lv (L2 _ 0 M (Nat.lt_succ_self _) (by omega) (by rw [List.take_zero, tkF_0, va_up_id])) [1, 2, 3, 0] rfl

set_option maxRecDepth 20000 in
theorem ggX0_addClaim_X0_cellsOwnedBy : GoodIn wsX0_addClaim wsX0_cellsOwnedBy := goodIn_r _ [17, 11, 22, 23, 24, 25, 26, 27, 28, 29] (by decide +kernel) (by decide +kernel)
set_option maxRecDepth 20000 in
theorem gX0_addClaim_X0_cellsOwnedBy : GoodIn wsX0_addClaim (wsV RX0 115 RX0 yX0_cellsOwnedBy wsX0_cellsOwnedBy) := goodIn_app (goodIn_of _ (by decide +kernel)) ggX0_addClaim_X0_cellsOwnedBy
set_option maxRecDepth 20000 in
theorem ggX0_addClaim_X0_viasOf : GoodIn wsX0_addClaim wsX0_viasOf := goodIn_r _ [21, 11, 22, 23, 24, 25, 26, 27, 28, 29] (by decide +kernel) (by decide +kernel)
set_option maxRecDepth 20000 in
theorem gX0_addClaim_X0_viasOf : GoodIn wsX0_addClaim (wsV RX0 119 RX0 yX0_viasOf wsX0_viasOf) := goodIn_app (goodIn_of _ (by decide +kernel)) ggX0_addClaim_X0_viasOf
theorem dX0_addClaim_0 : decode cX0_addClaim 0 = .ok (.aload_n 0, 1) := by decide +kernel
theorem dX0_addClaim_1 : decode cX0_addClaim 1 = .ok (.getfield 49, 3) := by decide +kernel
theorem dX0_addClaim_4 : decode cX0_addClaim 4 = .ok (.bipush 12, 2) := by decide +kernel
theorem dX0_addClaim_6 : decode cX0_addClaim 6 = .ok (.if_icmp .lt 4, 3) := by decide +kernel
theorem dX0_addClaim_9 : decode cX0_addClaim 9 = .ok (.return_, 1) := by decide +kernel
theorem dX0_addClaim_10 : decode cX0_addClaim 10 = .ok (.aload_n 0, 1) := by decide +kernel
theorem dX0_addClaim_11 : decode cX0_addClaim 11 = .ok (.getfield 49, 3) := by decide +kernel
theorem dX0_addClaim_14 : decode cX0_addClaim 14 = .ok (.istore 4, 2) := by decide +kernel
theorem dX0_addClaim_16 : decode cX0_addClaim 16 = .ok (.aload_n 0, 1) := by decide +kernel
theorem dX0_addClaim_17 : decode cX0_addClaim 17 = .ok (.dup, 1) := by decide +kernel
theorem dX0_addClaim_18 : decode cX0_addClaim 18 = .ok (.getfield 49, 3) := by decide +kernel
theorem dX0_addClaim_21 : decode cX0_addClaim 21 = .ok (.iconst 1, 1) := by decide +kernel
theorem dX0_addClaim_22 : decode cX0_addClaim 22 = .ok (.iadd, 1) := by decide +kernel
theorem dX0_addClaim_23 : decode cX0_addClaim 23 = .ok (.putfield 49, 3) := by decide +kernel
theorem dX0_addClaim_26 : decode cX0_addClaim 26 = .ok (.aload_n 0, 1) := by decide +kernel
theorem dX0_addClaim_27 : decode cX0_addClaim 27 = .ok (.getfield 30, 3) := by decide +kernel
theorem dX0_addClaim_30 : decode cX0_addClaim 30 = .ok (.iload 4, 2) := by decide +kernel
theorem dX0_addClaim_32 : decode cX0_addClaim 32 = .ok (.aaload, 1) := by decide +kernel
theorem dX0_addClaim_33 : decode cX0_addClaim 33 = .ok (.astore 5, 2) := by decide +kernel
theorem dX0_addClaim_35 : decode cX0_addClaim 35 = .ok (.aload 5, 2) := by decide +kernel
theorem dX0_addClaim_37 : decode cX0_addClaim 37 = .ok (.iload_n 1, 1) := by decide +kernel
theorem dX0_addClaim_38 : decode cX0_addClaim 38 = .ok (.putfield 169, 3) := by decide +kernel
theorem dX0_addClaim_41 : decode cX0_addClaim 41 = .ok (.aload 5, 2) := by decide +kernel
theorem dX0_addClaim_43 : decode cX0_addClaim 43 = .ok (.iload_n 2, 1) := by decide +kernel
theorem dX0_addClaim_44 : decode cX0_addClaim 44 = .ok (.putfield 172, 3) := by decide +kernel
theorem dX0_addClaim_47 : decode cX0_addClaim 47 = .ok (.aload 5, 2) := by decide +kernel
theorem dX0_addClaim_49 : decode cX0_addClaim 49 = .ok (.aload_n 0, 1) := by decide +kernel
theorem dX0_addClaim_50 : decode cX0_addClaim 50 = .ok (.iload_n 1, 1) := by decide +kernel
theorem dX0_addClaim_51 : decode cX0_addClaim 51 = .ok (.invokevirtual 115, 3) := by decide +kernel
theorem dX0_addClaim_54 : decode cX0_addClaim 54 = .ok (.putfield 175, 3) := by decide +kernel
theorem dX0_addClaim_57 : decode cX0_addClaim 57 = .ok (.aload 5, 2) := by decide +kernel
theorem dX0_addClaim_59 : decode cX0_addClaim 59 = .ok (.aload_n 0, 1) := by decide +kernel
theorem dX0_addClaim_60 : decode cX0_addClaim 60 = .ok (.iload_n 1, 1) := by decide +kernel
theorem dX0_addClaim_61 : decode cX0_addClaim 61 = .ok (.invokevirtual 119, 3) := by decide +kernel
theorem dX0_addClaim_64 : decode cX0_addClaim 64 = .ok (.putfield 178, 3) := by decide +kernel
theorem dX0_addClaim_67 : decode cX0_addClaim 67 = .ok (.aload 5, 2) := by decide +kernel
theorem dX0_addClaim_69 : decode cX0_addClaim 69 = .ok (.iload_n 3, 1) := by decide +kernel
theorem dX0_addClaim_70 : decode cX0_addClaim 70 = .ok (.putfield 181, 3) := by decide +kernel
theorem dX0_addClaim_73 : decode cX0_addClaim 73 = .ok (.aload 5, 2) := by decide +kernel
theorem dX0_addClaim_75 : decode cX0_addClaim 75 = .ok (.iconst 0, 1) := by decide +kernel
theorem dX0_addClaim_76 : decode cX0_addClaim 76 = .ok (.putfield 182, 3) := by decide +kernel
theorem dX0_addClaim_79 : decode cX0_addClaim 79 = .ok (.aload 5, 2) := by decide +kernel
theorem dX0_addClaim_81 : decode cX0_addClaim 81 = .ok (.aload_n 0, 1) := by decide +kernel
theorem dX0_addClaim_82 : decode cX0_addClaim 82 = .ok (.getfield 55, 3) := by decide +kernel
theorem dX0_addClaim_85 : decode cX0_addClaim 85 = .ok (.putfield 185, 3) := by decide +kernel
theorem dX0_addClaim_88 : decode cX0_addClaim 88 = .ok (.iconst 0, 1) := by decide +kernel
theorem dX0_addClaim_89 : decode cX0_addClaim 89 = .ok (.istore 6, 2) := by decide +kernel
theorem dX0_addClaim_91 : decode cX0_addClaim 91 = .ok (.iload 6, 2) := by decide +kernel
theorem dX0_addClaim_93 : decode cX0_addClaim 93 = .ok (.sipush 162, 3) := by decide +kernel
theorem dX0_addClaim_96 : decode cX0_addClaim 96 = .ok (.if_icmp .ge 34, 3) := by decide +kernel
theorem dX0_addClaim_99 : decode cX0_addClaim 99 = .ok (.aload_n 0, 1) := by decide +kernel
theorem dX0_addClaim_100 : decode cX0_addClaim 100 = .ok (.getfield 15, 3) := by decide +kernel
theorem dX0_addClaim_103 : decode cX0_addClaim 103 = .ok (.iload 6, 2) := by decide +kernel
theorem dX0_addClaim_105 : decode cX0_addClaim 105 = .ok (.iaload, 1) := by decide +kernel
theorem dX0_addClaim_106 : decode cX0_addClaim 106 = .ok (.iload_n 1, 1) := by decide +kernel
theorem dX0_addClaim_107 : decode cX0_addClaim 107 = .ok (.if_icmp .ne 17, 3) := by decide +kernel
theorem dX0_addClaim_110 : decode cX0_addClaim 110 = .ok (.aload_n 0, 1) := by decide +kernel
theorem dX0_addClaim_111 : decode cX0_addClaim 111 = .ok (.getfield 18, 3) := by decide +kernel
theorem dX0_addClaim_114 : decode cX0_addClaim 114 = .ok (.iload 6, 2) := by decide +kernel
theorem dX0_addClaim_116 : decode cX0_addClaim 116 = .ok (.dup2, 1) := by decide +kernel
theorem dX0_addClaim_117 : decode cX0_addClaim 117 = .ok (.iaload, 1) := by decide +kernel
theorem dX0_addClaim_118 : decode cX0_addClaim 118 = .ok (.iconst 1, 1) := by decide +kernel
theorem dX0_addClaim_119 : decode cX0_addClaim 119 = .ok (.iload 4, 2) := by decide +kernel
theorem dX0_addClaim_121 : decode cX0_addClaim 121 = .ok (.ishl, 1) := by decide +kernel
theorem dX0_addClaim_122 : decode cX0_addClaim 122 = .ok (.ior, 1) := by decide +kernel
theorem dX0_addClaim_123 : decode cX0_addClaim 123 = .ok (.iastore, 1) := by decide +kernel
theorem dX0_addClaim_124 : decode cX0_addClaim 124 = .ok (.iinc 6 1, 3) := by decide +kernel
theorem dX0_addClaim_127 : decode cX0_addClaim 127 = .ok (.goto (-36), 3) := by decide +kernel
theorem dX0_addClaim_130 : decode cX0_addClaim 130 = .ok (.return_, 1) := by decide +kernel
abbrev rmX0_addClaim : Room := { frames := 1, cells := 0, slots := 0, locals := 23 }
set_option maxRecDepth 20000 in
theorem in_X0_addClaim_X0 : ∀ w ∈ wsX00, w ∈ wsX0_addClaim := by decide +kernel
set_option maxRecDepth 20000 in
theorem in_X0_addClaim_X1 : ∀ w ∈ wsX10, w ∈ wsX0_addClaim := by decide +kernel

set_option maxRecDepth 100000 in
set_option maxHeartbeats 4000000 in
theorem c_X0_addClaim {l : Launch} {g : Geo} {M : Nat → Nat → Int32} {P : Nat → Nat} {c : Nat} (hc : c < 6) {K : Nat} (hK : M c 6 = nI K) (hK12 : K < 12) {v n : Nat} {w : Int32} : Met l yX0_addClaim wsX0_addClaim rmX0_addClaim (cPre g [.ref (g.1 (24 * c)), .int (nI v), .int (nI n), .int w] M P) (cQv g (fun M' P' => P = P' ∧ M' = va_up M c (claimE mkC eC (M c) K v n w))) 0 0 (gA g) := by
  refine met_v (cc := cX0_addClaim) (maxL := 7) (by decide) rfl ⟨rfl, rfl⟩ (Nat.le_of_ble_eq_true rfl) (fun x hx h hret => ?_)
  replace h : Cxk x g cX0_addClaim 7 wsX0_addClaim RX0 rmX0_addClaim := h
  show X x 0 [(0, .ref (g.1 (24 * c))), (1, .int (nI v)), (2, .int (nI n)), (3, .int w)] [] M P
  refine x_aload_n h 0 dX0_addClaim_0 rfl rfl ?_
  refine xg_X0_6 h hc in_X0_addClaim_X0 (by decide +kernel) dX0_addClaim_1 ?_
  refine x_top (nI K) (hK) ?_
  refine x_bipush h (nI 12) dX0_addClaim_4 (by decide) ?_
  refine x_icmp_lt_n h 10 dX0_addClaim_6 (by decide) (by omega) (by decide) (fun c_6 => ?_) (fun c_6 => by omega)
  refine x_aload_n h 0 dX0_addClaim_10 rfl rfl ?_
  refine xg_X0_6 h hc in_X0_addClaim_X0 (by decide +kernel) dX0_addClaim_11 ?_
  refine x_top (nI K) (hK) ?_
  refine x_istore h [(4, .int (nI K)), (0, .ref (g.1 (24 * c))), (1, .int (nI v)), (2, .int (nI n)), (3, .int w)] dX0_addClaim_14 (by decide) rfl ?_
  refine x_aload_n h 1 dX0_addClaim_16 rfl rfl ?_
  refine x_dup h dX0_addClaim_17 rfl ?_
  refine xg_X0_6 h hc in_X0_addClaim_X0 (by decide +kernel) dX0_addClaim_18 ?_
  refine x_top (nI K) (hK) ?_
  refine x_iconst h (nI 1) dX0_addClaim_21 (by decide) ?_
  refine x_iadd_n h dX0_addClaim_22 ?_
  refine xp_X0_6 h hc in_X0_addClaim_X0 (by decide +kernel) dX0_addClaim_23 ?_
  refine x_aload_n h 1 dX0_addClaim_26 rfl rfl ?_
  refine xg_X0_4 h hc in_X0_addClaim_X0 (by decide +kernel) dX0_addClaim_27 ?_
  refine x_iload h 0 dX0_addClaim_30 rfl ?_
  refine xa_clms h hc dX0_addClaim_32 (by omega) ?_
  refine x_astore h [(5, .ref (g.1 (24 * c + 12 + K))), (4, .int (nI K)), (0, .ref (g.1 (24 * c))), (1, .int (nI v)), (2, .int (nI n)), (3, .int w)] dX0_addClaim_33 (by decide) rfl ?_
  refine x_aload h 0 dX0_addClaim_35 rfl ?_
  refine x_iload_n h 3 dX0_addClaim_37 rfl rfl ?_
  refine xp_X1_0 h hc (by omega) in_X0_addClaim_X1 (by decide +kernel) dX0_addClaim_38 ?_
  refine x_aload h 0 dX0_addClaim_41 rfl ?_
  refine x_iload_n h 4 dX0_addClaim_43 rfl rfl ?_
  refine xp_X1_1 h hc (by omega) in_X0_addClaim_X1 (by decide +kernel) dX0_addClaim_44 ?_
  obtain ⟨W0, hW0⟩ : ∃ q : Nat → Nat → Int32, q = st2 (st2 (st2 M c 6 (nI (K + 1))) c (223 + 13 * K) (nI v)) c (223 + 13 * K + 1) (nI n) := ⟨_, rfl⟩
  refine x_mem W0 hW0.symm ?_
  have hWo : ∀ a, a < 162 → W0 c (7 + a) = M c (7 + a) := fun a ha => by rw [hW0]; simp only [st2_k]; repeat rw [pk_un (by omega)]
  refine x_aload h 0 dX0_addClaim_47 rfl ?_
  refine x_aload_n h 2 dX0_addClaim_49 rfl rfl ?_
  refine x_iload_n h 3 dX0_addClaim_50 rfl rfl ?_
  refine x_callV h (As := [.int (nI v)]) 1 hx (c_X0_cellsOwnedBy hc) gX0_addClaim_X0_cellsOwnedBy rfl ⟨rfl, rfl⟩ (by decide +kernel) rfl (by decide) (hk_chip hc) (E_chip hc) rfl rfl (Nat.le_of_ble_eq_true rfl) dX0_addClaim_51 (fun rv M' P' hp => ?_)
  obtain ⟨⟨rfl, rfl⟩, rfl⟩ := hp
  refine x_top (nI (wir (M c) (nI v))) (by rw [wir_cg hWo]) ?_
  refine xp_X1_2 h hc (by omega) in_X0_addClaim_X1 (by decide +kernel) dX0_addClaim_54 ?_
  refine x_aload h 0 dX0_addClaim_57 rfl ?_
  refine x_aload_n h 2 dX0_addClaim_59 rfl rfl ?_
  refine x_iload_n h 3 dX0_addClaim_60 rfl rfl ?_
  refine x_callV h (As := [.int (nI v)]) 1 hx (c_X0_viasOf hc) gX0_addClaim_X0_viasOf rfl ⟨rfl, rfl⟩ (by decide +kernel) rfl (by decide) (hk_chip hc) (E_chip hc) rfl rfl (Nat.le_of_ble_eq_true rfl) dX0_addClaim_61 (fun rv M' P' hp => ?_)
  obtain ⟨⟨rfl, rfl⟩, rfl⟩ := hp
  refine x_top (nI (via (M c) (nI v))) (by rw [via_cg (X := _) (Y := M c) (fun a ha => by rw [st2_k, pk_un (by omega)]; exact hWo a ha)]) ?_
  refine xp_X1_3 h hc (by omega) in_X0_addClaim_X1 (by decide +kernel) dX0_addClaim_64 ?_
  refine x_aload h 0 dX0_addClaim_67 rfl ?_
  refine x_iload_n h 5 dX0_addClaim_69 rfl rfl ?_
  refine xp_X1_4 h hc (by omega) in_X0_addClaim_X1 (by decide +kernel) dX0_addClaim_70 ?_
  refine x_aload h 0 dX0_addClaim_73 rfl ?_
  refine x_iconst h (nI 0) dX0_addClaim_75 (by decide) ?_
  refine xp_X1_5 h hc (by omega) in_X0_addClaim_X1 (by decide +kernel) dX0_addClaim_76 ?_
  refine x_aload h 0 dX0_addClaim_79 rfl ?_
  refine x_aload_n h 2 dX0_addClaim_81 rfl rfl ?_
  refine xg_X0_7 h hc in_X0_addClaim_X0 (by decide +kernel) dX0_addClaim_82 ?_
  refine x_top ((M c 4)) (by (simp only [hW0, st2_k]; repeat rw [pk_un (by omega)])) ?_
  refine xp_X1_6 h hc (by omega) in_X0_addClaim_X1 (by decide +kernel) dX0_addClaim_85 ?_
  refine x_iconst h (nI 0) dX0_addClaim_88 (by decide) ?_
  refine x_istore h [(6, .int (nI 0)), (5, .ref (g.1 (24 * c + 12 + K))), (4, .int (nI K)), (0, .ref (g.1 (24 * c))), (1, .int (nI v)), (2, .int (nI n)), (3, .int w)] dX0_addClaim_89 (by decide) rfl ?_
  have L91 : ∀ (fu : Nat) (i : Nat) (W : Nat → Nat → Int32), (162 - i) < fu → (i ≤ 162) → (W = va_up M c (scan 400 (clmRow (M c) K (nI v) (nI n) (nI (wir (M c) (nI v))) (nI (via (M c) (nI v))) w) (fun a u => if M c (7 + a) = nI v then u ||| (nI 1 <<< (nI K &&& 31)) else u) i)) → X x 91 [(0, .ref (g.1 (24 * c))), (1, .int (nI v)), (4, .int (nI K)), (6, .int (nI i))] [] W P := by
    intro fu
    induction fu with
    | zero => intro i W hmu91; exact absurd hmu91 (Nat.not_lt_zero _)
    | succ fu ih91 =>
      intro i W hmu91 hi hW
      refine x_iload h 3 dX0_addClaim_91 rfl ?_
      refine x_sipush h (nI 162) dX0_addClaim_93 (by decide) ?_
      refine x_icmp_ge_n h 130 dX0_addClaim_96 (by decide) (by omega) (by decide) (fun c_96 => ?_) (fun c_96 => ?_)
      · -- 96 true
        exact hret _ _ _ _ dX0_addClaim_130 (by obtain rfl : i = 162 := (by omega); refine ⟨rfl, ?_⟩; rw [hW]; rfl)
      · -- 96 false
        refine x_aload_n h 0 dX0_addClaim_99 rfl rfl ?_
        refine xg_X0_1 h hc in_X0_addClaim_X0 (by decide +kernel) dX0_addClaim_100 ?_
        refine x_iload h 3 dX0_addClaim_103 rfl ?_
        refine xl_own h hc dX0_addClaim_105 (by omega) ?_
        refine x_iload_n h 1 dX0_addClaim_106 rfl rfl ?_
        refine x_icmp_ne h 124 dX0_addClaim_107 (by decide) (fun c_107 => ?_) (fun c_107 => ?_)
        · -- 107 true
          have hown : ¬ M c (7 + i) = nI v := by rw [hW, va_up_k, scan_ge _ _ (by omega)] at c_107; rw [← clmRow_o (X := M c) (K := K) (by omega : i < 162)]; exact c_107
          refine x_iinc_n h 3 (n := 1) [(6, .int (nI (i + 1))), (0, .ref (g.1 (24 * c))), (1, .int (nI v)), (4, .int (nI K))] dX0_addClaim_124 rfl (by decide) rfl ?_
          refine x_goto h 91 dX0_addClaim_127 (by decide) ?_
          exact x_lv (ih91 (i + 1) W (by omega) (by omega) (by first | (rw [st2_va, hW, va_up_up, va_up_k]; exact congrArg _ (scan_s 400 (clmRow (M c) K (nI v) (nI n) (nI (wir (M c) (nI v))) (nI (via (M c) (nI v))) w) (fun a u => if M c (7 + a) = nI v then u ||| (nI 1 <<< (nI K &&& 31)) else u) i (by rw [if_pos hown, scan_at]))) | (rw [hW, scan_n 400 (clmRow (M c) K (nI v) (nI n) (nI (wir (M c) (nI v))) (nI (via (M c) (nI v))) w) (fun a u => if M c (7 + a) = nI v then u ||| (nI 1 <<< (nI K &&& 31)) else u) i (if_neg hown)]))) [1, 2, 3, 0] rfl
        · -- 107 false
          have hown : M c (7 + i) = nI v := by rw [hW, va_up_k, scan_ge _ _ (by omega)] at c_107; rw [← clmRow_o (X := M c) (K := K) (by omega : i < 162)]; exact c_107
          refine x_aload_n h 0 dX0_addClaim_110 rfl rfl ?_
          refine xg_X0_2 h hc in_X0_addClaim_X0 (by decide +kernel) dX0_addClaim_111 ?_
          refine x_iload h 3 dX0_addClaim_114 rfl ?_
          refine x_dup2 h dX0_addClaim_116 rfl rfl ?_
          refine xl_lost h hc dX0_addClaim_117 (by omega) ?_
          refine x_iconst h (nI 1) dX0_addClaim_118 (by decide) ?_
          refine x_iload h 2 dX0_addClaim_119 rfl ?_
          refine x_ishl h dX0_addClaim_121 ?_
          refine x_ior h dX0_addClaim_122 ?_
          refine xs_lost h hc dX0_addClaim_123 (by omega) ?_
          refine x_iinc_n h 3 (n := 1) [(6, .int (nI (i + 1))), (0, .ref (g.1 (24 * c))), (1, .int (nI v)), (4, .int (nI K))] dX0_addClaim_124 rfl (by decide) rfl ?_
          refine x_goto h 91 dX0_addClaim_127 (by decide) ?_
          exact x_lv (ih91 (i + 1) (st2 W c (400 + i) ((W c (400 + i)) ||| ((nI 1) <<< ((nI K) &&& 31)))) (by omega) (by omega) (by first | (rw [st2_va, hW, va_up_up, va_up_k]; exact congrArg _ (scan_s 400 (clmRow (M c) K (nI v) (nI n) (nI (wir (M c) (nI v))) (nI (via (M c) (nI v))) w) (fun a u => if M c (7 + a) = nI v then u ||| (nI 1 <<< (nI K &&& 31)) else u) i (by rw [if_pos hown, scan_at]))) | (rw [hW, scan_n 400 (clmRow (M c) K (nI v) (nI n) (nI (wir (M c) (nI v))) (nI (via (M c) (nI v))) w) (fun a u => if M c (7 + a) = nI v then u ||| (nI 1 <<< (nI K &&& 31)) else u) i (if_neg hown)]))) [1, 2, 3, 0] rfl
  exact x_lv (L91 _ 0 (st2 (st2 (st2 (st2 (st2 W0 c (223 + 13 * K + 2) (nI (wir (M c) (nI v)))) c (223 + 13 * K + 3) (nI (via (M c) (nI v)))) c (223 + 13 * K + 4) w) c (223 + 13 * K + 5) (nI 0)) c (223 + 13 * K + 6) (M c 4)) (Nat.lt_succ_self _) (by omega) (by rw [scan_0]; simp only [st2_va, hW0, va_up_up, va_up_k]; rfl)) [3, 4, 2, 0] rfl
