/-! THE CLAIM OUT OF ONE WALK OF THE LAW'S BODY. Your part is whole_start (and what it stands on); all else here is the same for every law, but numbers. -/
def R_law : String := "WireDigsLaw"
def lw_P (b : Addr) (xs : List Int32) (args : Array Value) (s : State) : Prop := args = #[.ref b] ∧ s.IntsAt b xs ∧ xs.length ≤ 3072 ∧ (Jvm.Cond.and given_1 narrow_1).before args s = true
def lw_Q (_ : Array Value) (s : State) (o : Outcome) (t : State) : Prop := o = .returned (some (.int 1)) ∧ Framed s o t [] 600000 7302250
def lw_Z (below : List Frame) (a : Array Value) (s : State) : State → Prop := fun t => ∃ o, t.status = .running ∧ Ended t below o ∧ lw_Q a s o t
/-- the law's own end, with 1 on the stack, nothing written that was there before, its room as the claim has it -/
theorem lw_ret {p : Program} {l : Launch} {e : Env} {s : State} {m : MethodId} {below : List Frame} {meth : Method} {c : Code} {b : Nat} (hx : p.tables.exec = Jvm.exec) (hb : c.code = code) (hr : meth.sig.returnType = ret) (hlocks : meth.locks = false) {pc : Nat} {H : Heap} {ls : Array Slot} (hdg : decode code pc = .ok (.ireturn, 1)) : W p l e room_1 s m #[Value.ref b] below meth c H [] 600000 7302250 (lw_Z below #[Value.ref b] s) (F0 m pc ls [.int 1]) := by
  intro T hT X
  obtain ⟨fs, hret, hrun, hended, hW, hframe⟩ := X.leave (v := some (.int 1)) (hlocks := hlocks) (fun h => by rw [hr] at h; cases h)
  have hmeth' : T.vm.method? m = some meth := X.method'
  refine ⟨T.setFrames fs, ?_, .returned (some (.int 1)), hrun, hended, rfl, ⟨_, rfl⟩, hW, hframe⟩
  jvm_step X.here [X.here.top, hx, hb, hdg, hmeth', hr, ret, narrow_b1]
  (try refine ⟨rfl, ?_⟩); (try refine ⟨rfl, ?_⟩)
  first | (intro acts; rw [hret _ acts rfl rfl rfl]) | rw [hret _ _ rfl rfl rfl]
  exact Steps.refl _
/-- what holds at the law's entry: the machine, the code, the tables' words (any of lw_tbl by 'hts w (by decide +kernel)'), the script of L ints xs at the cell b, what the Statement gives of the start (any of its parts by flat_of_before) -/
def lw_At (p : Program) (s : State) (m : MethodId) (meth : Method) (c : Code) (b L : Nat) (xs : Nat → Int32) : Prop :=
  p.tables.exec = Jvm.exec ∧ c.code = code ∧ meth.sig.returnType = ret ∧ c.maxLocals = 4 ∧ s.vm.findClass R_law = some m.cls ∧ (∀ w ∈ lw_tbl, w.before #[Value.ref b] s = true) ∧ va_X b L xs s s.heap ∧ b < s.heap.size ∧ meth.locks = false ∧ (Jvm.Cond.and given_1 narrow_1).before #[Value.ref b] s = true
/-! the law's own rows -/
def Lk (x : iC) (g : Geo) (b L : Nat) (xs : Nat → Int32) : Prop :=
  Yk x g.2.1 g.2.2.1 cL_law 4 wsL_law RL room_1 ∧ (gStat g x.1.2.2.2.2 x.1.2.2.2.2.heap ∧ gInj g ∧ gNest x.1.2.2.2.2 ∧ ∀ k, k < 168 → x.1.2.2.2.2.heap.size ≤ g.1 k) ∧ (x.2.2.2.2.1 = fun q : Nat => x.1.2.2.2.2.heap.size ≤ q) ∧ va_X b L xs x.1.2.2.2.2 x.1.2.2.2.2.heap ∧ b < x.1.2.2.2.2.heap.size
theorem gDA {A : Nat → Prop} {g : Geo} (h : gInj g) (hA : ∀ k, k < 168 → A (g.1 k)) (E : Nat → va_E) : va_D A (wW g.1 E) := by
  refine ⟨fun i j p q hi hj hpq => ?_, fun k q hk => ?_⟩
  · obtain ⟨h1, rfl⟩ := wW_at hi
    obtain ⟨h2, rfl⟩ := wW_at hj
    exact h i j h1 h2 hpq
  · obtain ⟨h1, rfl⟩ := wW_at hk
    exact hA k h1
section LROWS
variable {x : iC} {g : Geo} {b L : Nat} {xs : Nat → Int32} {pc : Nat} {lv : List (Nat × Value)} {st : List Value} {ws : va_W} {N S : Nat}
theorem y_slen (h : Lk x g b L xs) (hd : decode cL_law pc = .ok (.arraylength, 1)) (k : Y x (pc + 1) lv (.int (nI L) :: st) ws N S) : Y x pc lv (.ref b :: st) ws N S := by
  obtain ⟨⟨p, l', e, R, s⟩, ⟨m, args, below, meth, c⟩, D', nL', A, Q⟩ := x
  obtain ⟨⟨⟨hx, hb, -⟩, -⟩, -, hAe, hX, hbl⟩ := h
  intro H locs ls g1 g2 g3 g4
  have hbA : ¬ A b := by
    have e : A = fun q : Nat => s.heap.size ≤ q := hAe
    rw [e]; exact Nat.not_le.mpr hbl
  exact va_slen hx hb hX hbl hbA g4 hd (k H locs ls g1 g2 g3 g4)
theorem y_sld (h : Lk x g b L xs) {i : Nat} (hi : i < L) (hL : L < 2 ^ 31) (hd : decode cL_law pc = .ok (.iaload, 1)) (k : Y x (pc + 1) lv (.int (xs i) :: st) ws N S) : Y x pc lv (.int (nI i) :: .ref b :: st) ws N S := by
  obtain ⟨⟨p, l', e, R, s⟩, ⟨m, args, below, meth, c⟩, D', nL', A, Q⟩ := x
  obtain ⟨⟨⟨hx, hb, -⟩, -⟩, -, hAe, hX, hbl⟩ := h
  intro H locs ls g1 g2 g3 g4
  have hbA : ¬ A b := by
    have e : A = fun q : Nat => s.heap.size ≤ q := hAe
    rw [e]; exact Nat.not_le.mpr hbl
  refine va_sld hx hb hX hbl hbA g4 (vp_in_nI hi hL) hd ?_
  rw [nI_clamp (Nat.lt_trans hi hL)]
  exact k H locs ls g1 g2 g3 g4
theorem y_tin (h : Lk x g b L xs) {dflt lo hi : Int} {offs : Array Int} {len : Nat} {a : Int32} (off : Int) (tgt : Nat) (hd : decode cL_law pc = .ok (.tableswitch dflt lo hi offs, len)) (h1 : ¬ a.toInt < lo) (h2 : ¬ hi < a.toInt) (ho : offs[(a.toInt - lo).toNat]? = some off) (ht : (pc : Int) + off = (tgt : Int)) (k : Y x tgt lv st ws N S) : Y x pc lv (.int a :: st) ws N S := fun H locs ls g1 g2 g3 g4 => lv_tableIn h.1.1.1 h.1.1.2.1 hd h1 h2 ho ht (k H locs ls g1 g2 g3 g4)
theorem y_tout (h : Lk x g b L xs) {dflt lo hi : Int} {offs : Array Int} {len : Nat} {a : Int32} (tgt : Nat) (hd : decode cL_law pc = .ok (.tableswitch dflt lo hi offs, len)) (hx : a.toInt < lo ∨ hi < a.toInt) (ht : (pc : Int) + dflt = (tgt : Int)) (k : Y x tgt lv st ws N S) : Y x pc lv (.int a :: st) ws N S := fun H locs ls g1 g2 g3 g4 => lv_tableOut h.1.1.1 h.1.1.2.1 hd hx ht (k H locs ls g1 g2 g3 g4)
theorem y_callV (h : Lk x g b L xs) {M : Nat → Nat → Int32} {P : Nat → Nat} {y : MethodName} {bytes : ByteArray} {maxL index : Nat} {ret : Option FieldType} {wy wy' : List Cond} {rm' : Room} {C : String} {As : List Value} {l : Launch} {post : Int32 → (Nat → Nat → Int32) → (Nat → Nat) → Prop} {k ci : Nat} {fs : List Value} {r : vw_C} (n : Nat) (hx : x.1.2.1 = l) (hM : Met l y wy rm' (cPre g (.ref (g.1 k) :: As) M P) (cQi g post) 0 0 (gA g)) (hT : GoodIn wsL_law (wsV RL index C y wy)) (hw : wy = Cond.code y bytes maxL ret :: wy') (hz : rm'.cells = 0 ∧ rm'.slots = 0) (hd0 : y.cls = C ∧ y.cls ≠ "java/lang/invoke/MethodHandle" ∧ y.cls ≠ "java/lang/invoke/VarHandle" ∧ (parseMethodDescriptor y.desc).map (fun d => d.parameters.length) = some n) (hn : As.length = n) (hR : mRoom room_1 rm' maxL) (hk : k < 168) (hE : enc g M P k = .inr (ci, fs)) (hc : vwCl[ci]? = some r) (hrC : r.1 = C) (hst : (st.map fun v => v.category).sum ≤ 8) (hN : N ≤ room_1.cells) (hS : S ≤ room_1.slots) (hd : decode cL_law pc = .ok (.invokevirtual index, 3))
    (kk : ∀ (rv : Int32) (M' : Nat → Nat → Int32) (P' : Nat → Nat), post rv M' P' → Y x (pc + 3) lv (.int rv :: st) (wW g.1 (enc g M' P')) N S) : Y x pc lv (As.reverse ++ .ref (g.1 k) :: st) (wW g.1 (enc g M P)) N S := by
  obtain ⟨⟨p, l', e, R, s⟩, ⟨m, args, below, meth, c⟩, D', nL', A, Q⟩ := x
  obtain ⟨⟨h1, ⟨hE0, hA⟩, h30, h40, h50⟩, ⟨hSt, hIj, hNe, hsz⟩, hAe0, -⟩ := h
  have h3 : D' = g.2.1 := h30
  have h4 : nL' = 4 := h40
  have h5 : R = room_1 := h50
  have hAe : A = fun q : Nat => s.heap.size ≤ q := hAe0
  have hx1 : l' = l := hx
  clear hAe0 h30 h40 h50 hx
  subst h3 h4 h5 hx1
  intro H locs ls g1 g2 g3 g4
  have g2 : Wd g M P H := g2
  have hAg : ∀ q, gA g q → A q := fun q hq => by
    obtain ⟨i, hi, rfl⟩ := hq
    rw [hAe]
    exact hsz i hi
  have hSt1 : gStat g s H := hSt.kept (fun a ha _ => g4.2.1 a ha (by rw [hAe]; exact Nat.not_le.mpr ha))
  have hG0 : Gd g s s.heap := ⟨hE0.1, hSt, hIj, hNe⟩
  refine va_calli (va_runV (As := As) (rest := st) h1 hM (cwV n h1.2.2.2.2 hT hw hz.1 hz.2 hd0 hR) ⟨cPre_blind _ _ _ _, ?_, fun U hU hW => ⟨rfl, by rw [hU]; exact g2, (hE0.warm hW).1, by rw [hU]; exact hSt1.moved hW.alike, hIj, va_Nw.warmF hW hNe.1, va_Nw.warmF hW hNe.2⟩⟩ rfl hn g1.1 rfl (lv_room hst) hd ⟨hN, hS⟩) g4 (fun q _ z => hAg q z) (fun q z => hAg q z) (fun rv u t H1 locs1 ht hvm hp hB hz1 hk1 hS1 => ?_)
  · rw [← hrC]; exact gRecv hG0 g2 hk hE hc
  · rw [ht] at hB
    exact kk rv u.1 u.2 hp H1 locs1 ls g1 hB (gDA hIj (fun i hi => by rw [hAe]; exact hsz i hi) _) hS1
end LROWS
