/-! THE LAW'S OWN ROWS -/
def LC (x : Ctx) (b L : Nat) (xs : Nat → Int32) : Prop := va_X b L xs x.1.2.2.2.2 x.1.2.2.2.2.heap ∧ b < x.1.2.2.2.2.heap.size ∧ (∀ k, k < 158 → x.1.2.2.2.2.heap.size ≤ x.2.2.1.1 k) ∧ x.2.1.2.2.2.1.sig.returnType = ret ∧ x.2.1.2.2.2.1.locks = false ∧ x.2.2.2.2 = lw_Z x.2.1.2.2.1 #[Value.ref b] x.1.2.2.2.2 ∧ x.2.1.2.1 = #[Value.ref b]
section LROWS
variable {x : Ctx} {g : Geo} {E : Heap → Prop} {n1 n2 k1 k2 : Nat} {cc : ByteArray} {nL : Nat} {Ts : List Cond} {own : String} {rm : Room} {pc index : Nat} {lv lv' : List (Nat × Value)} {st : List Value} {M : Nat → Nat → Int32} {P : Nat → Nat} {b L : Nat} {xs : Nat → Int32}
theorem tt_widen (h1 : n1 ≤ k1) (h2 : n2 ≤ k2) (k : T x E k1 k2 pc lv st M P) : T x E n1 n2 pc lv st M P := fun H locs ls a b c d => W.widen h1 h2 (k H locs ls a b c d)
theorem tt_tin (h : Tk x g E n1 n2 cc nL Ts own rm) {dflt lo hi : Int} {offs : Array Int} {len : Nat} {a : Int32} (off : Int) (tgt : Nat) (hd : decode cc pc = .ok (.tableswitch dflt lo hi offs, len)) (h1 : ¬ a.toInt < lo) (h2 : ¬ hi < a.toInt) (ho : offs[(a.toInt - lo).toNat]? = some off) (ht : (pc : Int) + off = (tgt : Int)) (k : T x E n1 n2 tgt lv st M P) : T x E n1 n2 pc lv (.int a :: st) M P := fun H locs ls g1 g2 g3 g4 => lv_tableIn h.1.1.1 h.1.1.2.1 hd h1 h2 ho ht (k H locs ls g1 g2 g3 g4)
theorem tt_tout (h : Tk x g E n1 n2 cc nL Ts own rm) {dflt lo hi : Int} {offs : Array Int} {len : Nat} {a : Int32} (tgt : Nat) (hd : decode cc pc = .ok (.tableswitch dflt lo hi offs, len)) (hx : a.toInt < lo ∨ hi < a.toInt) (ht : (pc : Int) + dflt = (tgt : Int)) (k : T x E n1 n2 tgt lv st M P) : T x E n1 n2 pc lv (.int a :: st) M P := fun H locs ls g1 g2 g3 g4 => lv_tableOut h.1.1.1 h.1.1.2.1 hd hx ht (k H locs ls g1 g2 g3 g4)
theorem tt_cell (h : Tk x g (fun _ => True) n1 n2 cc nL Ts own rm) (hc : LC x b L xs) {k : Nat} (hk : k < 2 ^ 31) (hL : L < 2 ^ 31) (hT : GoodIn Ts (va_wsS own index yL_cell wsL_cell)) (hR : mRoom rm rmL_cell 2) (hst : (st.map fun v => v.category).sum ≤ 8) (hd : decode cc pc = .ok (.invokestatic index, 3)) (kk : ∀ r : Int32, T x (fun _ => True) n1 n2 (pc + 3) lv (.int r :: st) M P) : T x (fun _ => True) n1 n2 pc lv (.int (nI k) :: .ref b :: st) M P := by
  obtain ⟨⟨p, l', e, R, s⟩, ⟨mm, args, below, meth, cd⟩, g', nL', Q⟩ := x
  obtain ⟨⟨h1, h2, h3, h4, h5⟩, hEs, hn1, hn2⟩ := h
  obtain rfl : g = g' := h3.symm
  obtain rfl : nL = nL' := h4.symm
  obtain rfl : rm = R := h5.symm
  obtain ⟨hX, hbl, hsz, -⟩ := hc
  intro H locs ls hl hP hEH hS
  have hbA : ¬ tA g s b := fun q => q.elim (fun ⟨i, hi, e⟩ => by
    have h9 : s.heap.size ≤ g.1 i := hsz i hi
    have hbl : b < s.heap.size := hbl
    omega) (fun q => absurd q (Nat.not_le.mpr hbl))
  have hXH : va_X b L xs s H := va_X.kept hX (hS.2.1 b hbl hbA)
  refine va_calli (va_runS (As := [.ref b, .int (nI k)]) (rest := st) h1 (c_L_cell hk hL) (va_cwS 2 h1.2.2.2.2 hT rfl rfl rfl (by decide +kernel) hR) ⟨fun w U gg mk q => ⟨q.1, va_X.moved (u := U) (U := U.calling gg mk w) (Vm.Alike.refl U.vm) q.2.1, q.2.2⟩, fun U hU hW => ⟨rfl, by rw [hU]; exact va_X.moved hW.alike hXH, by rw [hU]; exact Nat.lt_of_lt_of_le hbl hS.1⟩⟩ rfl rfl hl.1 rfl (lv_room hst) hd ⟨hn1, hn2⟩) hS (fun q _ z => absurd z id) (fun q z => absurd z id) (fun rv u t H1 locs1 ht hvm hp hB hz1 hk1 hS1 => ?_)
  exact kk rv H1 locs1 ls hl (va_P.kept hP (fun k q hq => hk1 _ ((hP k _ hq).lt) id)) trivial hS1
theorem tt_route {l : Launch} {post : Int32 → (Nat → Nat → Int32) → (Nat → Nat) → Prop} {As : List Value} (h : Tk x g (fun _ => True) n1 n2 cc nL Ts own rm) (hx : x.1.2.1 = l) (hM : ∀ sz, Met l yL_isRoute wsL_isRoute rmL_isRoute (cPreS g As M P sz) (cQz g sz post) 1 6 (fun q => gA g q ∨ sz ≤ q)) (hT : GoodIn Ts (va_wsS own index yL_isRoute wsL_isRoute)) (hn : As.length = 3) (hR : mRoom rm rmL_isRoute 17) (hst : (st.map fun v => v.category).sum ≤ 8) (hN : n1 + 1 ≤ rm.cells) (hS6 : n2 + 6 ≤ rm.slots) (hd : decode cc pc = .ok (.invokestatic index, 3)) (kk : ∀ (rv : Int32) (M' : Nat → Nat → Int32) (P' : Nat → Nat), post rv M' P' → T x (fun _ => True) (n1 + 1) (n2 + 6) (pc + 3) lv (.int rv :: st) M' P') : T x (fun _ => True) n1 n2 pc lv (As.reverse ++ st) M P := by
  obtain ⟨⟨p, l', e, R, s⟩, ⟨mm, args, below, meth, cd⟩, g', nL', Q⟩ := x
  obtain ⟨⟨h1, h2, h3, h4, h5⟩, hEs, hn1, hn2⟩ := h
  obtain rfl : g = g' := h3.symm
  obtain rfl : nL = nL' := h4.symm
  obtain rfl : rm = R := h5.symm
  obtain rfl : l = l' := hx.symm
  intro H locs ls hl hP hEH hS
  refine va_calli (va_runS (As := As) (rest := st) h1 (hM H.size) (va_cwS 3 h1.2.2.2.2 hT rfl rfl rfl (by decide +kernel) hR) ⟨cPreS_blind _ _ _ _ _, fun U hU hW => ⟨rfl, ⟨by rw [hU]; exact hP, h2.callT hS hU hW⟩, by rw [hU]⟩⟩ rfl hn hl.1 rfl (lv_room hst) hd ⟨hN, hS6⟩) hS (fun q hq z => z.elim Or.inl (fun z => absurd z (Nat.not_le.mpr hq))) (fun q z => z.elim Or.inl (fun z => Or.inr (Nat.le_trans hS.1 z))) (fun rv u t H1 locs1 ht hvm hp hB hz1 hk1 hS1 => ?_)
  rw [ht] at hB
  exact kk rv u.1 u.2 hp H1 locs1 ls hl hB trivial hS1
theorem tt_ret (h : Tk x g (fun _ => True) n1 n2 cL_law nL Ts own room_1) (hc : LC x b L xs) (hN : n1 ≤ 600000) (hS6 : n2 ≤ 7302250) (hd : decode cL_law pc = .ok (.ireturn, 1)) : T x (fun _ => True) n1 n2 pc lv [.int 1] M P := by
  obtain ⟨⟨p, l', e, R, s⟩, ⟨mm, args, below, meth, cd⟩, g', nL', Q⟩ := x
  obtain ⟨⟨⟨hx, hb, -⟩, h2, h3, h4, h50⟩, -⟩ := h
  obtain ⟨-, -, hsz0, hr0, hlk0, hQ0, ha0⟩ := hc
  have hr : meth.sig.returnType = ret := hr0
  have hlk : meth.locks = false := hlk0
  have hQ : Q = lw_Z below #[Value.ref b] s := hQ0
  have ha : args = #[Value.ref b] := ha0
  have h5 : R = room_1 := h50
  have hsz : ∀ k, k < 158 → s.heap.size ≤ g'.1 k := hsz0
  clear hr0 hlk0 hQ0 ha0 h50 hsz0
  subst hQ ha h5
  intro H locs ls g1 g2 g3 g4
  refine va_forget (fun q hq => ?_) (W.widen hN hS6 (lw_ret hx hb hr hlk hd))
  rcases g4.2.2 q hq with ⟨i, hi, e⟩ | e
  · rw [e]; exact hsz i hi
  · exact e
end LROWS
