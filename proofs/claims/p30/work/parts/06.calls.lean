section CALLS
variable {x : Ctx} {g : Geo} {cc : ByteArray} {nL : Nat} {Ts : List Cond} {own : String} {rm : Room} {pc : Nat} {lv lv' : List (Nat × Value)} {st : List Value} {M M' : Nat → Nat → Int32} {P P' : Nat → Nat}
theorem gA_keep {g : Geo} {H0 H H1 : Heap} {locs : List Loc} (hS : va_S (gA g) H0 H locs) {U : State} (h : gStat g U H0) : gStat g U H := h.kept (fun a h1 h2 => hS.2.1 a h1 h2)
theorem Gd.call {g : Geo} {s U : State} {H : Heap} {locs : List Loc} (h : Gd g s s.heap) (hS : va_S (gA g) s.heap H locs) (hU : U.heap = H) (hW : s.WarmedH U.vm) : Gd g U U.heap := ⟨va_K.moved hW.alike h.1, by rw [hU]; exact (h.2.1.kept (fun a h1 h2 => hS.2.1 a h1 h2)).moved hW.alike, h.2.2.1, va_Nw.warmF hW h.2.2.2.1, va_Nw.warmF hW h.2.2.2.2⟩
/-- a receiver of the world -/
theorem gRecv {g : Geo} {s : State} {H : Heap} {k ci : Nat} {fs : List Value} {r : vw_C} (h : Gd g s s.heap) (hP : Wd g M P H) (hk : k < 158) (hE : enc g M P k = .inr (ci, fs)) (hc : vwCl[ci]? = some r) : ∃ cell : Cell, H[g.1 k]? = some cell ∧ cell.vm.isStatics = false ∧ s.vm.findClass r.1 = some cell.cls := va_recv h.1 hP (q0 := k) hc (by rw [wW_get hk, hE])
variable {y : MethodName} {bytes : ByteArray} {maxL index : Nat} {ret : Option FieldType} {ws ws' : List Cond} {rm' : Room} {C : String} {As : List Value}
abbrev mRoom (rm rm' : Room) (maxL : Nat) : Prop := rm'.frames + 1 ≤ rm.frames ∧ 8 + (maxL + 11) + rm'.locals ≤ rm.locals
theorem x_callV (h : Cxk x g cc nL Ts own rm) {l : Launch} {post : Int32 → (Nat → Nat → Int32) → (Nat → Nat) → Prop} {k ci : Nat} {fs : List Value} {r : vw_C} (n : Nat) (hx : x.1.2.1 = l) (hM : Met l y ws rm' (cPre g (.ref (g.1 k) :: As) M P) (cQi g post) 0 0 (gA g)) (hT : GoodIn Ts (wsV own index C y ws)) (hw : ws = Cond.code y bytes maxL ret :: ws') (hz : rm'.cells = 0 ∧ rm'.slots = 0) (hd0 : y.cls = C ∧ y.cls ≠ "java/lang/invoke/MethodHandle" ∧ y.cls ≠ "java/lang/invoke/VarHandle" ∧ (parseMethodDescriptor y.desc).map (fun d => d.parameters.length) = some n) (hn : As.length = n) (hR : mRoom rm rm' maxL) (hk : k < 158) (hE : enc g M P k = .inr (ci, fs)) (hc : vwCl[ci]? = some r) (hrC : r.1 = C) (hst : (st.map fun v => v.category).sum ≤ 8) (hd : decode cc pc = .ok (.invokevirtual index, 3))
    (kk : ∀ (rv : Int32) (M' : Nat → Nat → Int32) (P' : Nat → Nat), post rv M' P' → X x (pc + 3) lv (.int rv :: st) M' P') : X x pc lv (As.reverse ++ .ref (g.1 k) :: st) M P := by
  obtain ⟨⟨p, l', e, R, s⟩, ⟨m, args, below, meth, c⟩, g', nL', Q⟩ := x
  obtain ⟨h1, h2, h3, h4, h5⟩ := h
  obtain rfl : g = g' := h3.symm
  obtain rfl : nL = nL' := h4.symm
  obtain rfl : rm = R := h5.symm
  obtain rfl : l = l' := hx.symm
  intro H locs ls hl hP hS
  refine va_calli (va_runV (As := As) (rest := st) h1 hM (cwV n h1.2.2.2.2 hT hw hz.1 hz.2 hd0 hR) ⟨cPre_blind _ _ _ _, ?_, fun U hU hW => ⟨rfl, by rw [hU]; exact hP, h2.call hS hU hW⟩⟩ rfl hn hl.1 rfl (lv_room hst) hd ⟨Nat.zero_le _, Nat.zero_le _⟩) hS (fun q _ z => z) (fun q z => z) (fun rv u t H1 locs1 ht hvm hp hB hz1 hk1 hS1 => ?_)
  · rw [← hrC]; exact gRecv h2 hP hk hE hc
  · rw [ht] at hB
    exact kk rv u.1 u.2 hp H1 locs1 ls hl hB hS1
theorem x_callVv (h : Cxk x g cc nL Ts own rm) {l : Launch} {post : (Nat → Nat → Int32) → (Nat → Nat) → Prop} {k ci : Nat} {fs : List Value} {r : vw_C} (n : Nat) (hx : x.1.2.1 = l) (hM : Met l y ws rm' (cPre g (.ref (g.1 k) :: As) M P) (cQv g post) 0 0 (gA g)) (hT : GoodIn Ts (wsV own index C y ws)) (hw : ws = Cond.code y bytes maxL ret :: ws') (hz : rm'.cells = 0 ∧ rm'.slots = 0) (hd0 : y.cls = C ∧ y.cls ≠ "java/lang/invoke/MethodHandle" ∧ y.cls ≠ "java/lang/invoke/VarHandle" ∧ (parseMethodDescriptor y.desc).map (fun d => d.parameters.length) = some n) (hn : As.length = n) (hR : mRoom rm rm' maxL) (hk : k < 158) (hE : enc g M P k = .inr (ci, fs)) (hc : vwCl[ci]? = some r) (hrC : r.1 = C) (hst : (st.map fun v => v.category).sum ≤ 8) (hd : decode cc pc = .ok (.invokevirtual index, 3))
    (kk : ∀ (M' : Nat → Nat → Int32) (P' : Nat → Nat), post M' P' → X x (pc + 3) lv st M' P') : X x pc lv (As.reverse ++ .ref (g.1 k) :: st) M P := by
  obtain ⟨⟨p, l', e, R, s⟩, ⟨m, args, below, meth, c⟩, g', nL', Q⟩ := x
  obtain ⟨h1, h2, h3, h4, h5⟩ := h
  obtain rfl : g = g' := h3.symm
  obtain rfl : nL = nL' := h4.symm
  obtain rfl : rm = R := h5.symm
  obtain rfl : l = l' := hx.symm
  intro H locs ls hl hP hS
  refine va_callv (va_runV (As := As) (rest := st) h1 hM (cwV n h1.2.2.2.2 hT hw hz.1 hz.2 hd0 hR) ⟨cPre_blind _ _ _ _, ?_, fun U hU hW => ⟨rfl, by rw [hU]; exact hP, h2.call hS hU hW⟩⟩ rfl hn hl.1 rfl (lv_room hst) hd ⟨Nat.zero_le _, Nat.zero_le _⟩) hS (fun q _ z => z) (fun q z => z) (fun u t H1 locs1 ht hvm hp hB hz1 hk1 hS1 => ?_)
  · rw [← hrC]; exact gRecv h2 hP hk hE hc
  · rw [ht] at hB
    exact kk u.1 u.2 hp H1 locs1 ls hl hB hS1
theorem x_callVr (h : Cxk x g cc nL Ts own rm) {l : Launch} {post : Nat → (Nat → Nat → Int32) → (Nat → Nat) → Prop} {k ci : Nat} {fs : List Value} {r : vw_C} (n : Nat) (hx : x.1.2.1 = l) (hM : Met l y ws rm' (cPre g (.ref (g.1 k) :: As) M P) (cQr g post) 0 0 (gA g)) (hT : GoodIn Ts (wsV own index C y ws)) (hw : ws = Cond.code y bytes maxL ret :: ws') (hz : rm'.cells = 0 ∧ rm'.slots = 0) (hd0 : y.cls = C ∧ y.cls ≠ "java/lang/invoke/MethodHandle" ∧ y.cls ≠ "java/lang/invoke/VarHandle" ∧ (parseMethodDescriptor y.desc).map (fun d => d.parameters.length) = some n) (hn : As.length = n) (hR : mRoom rm rm' maxL) (hk : k < 158) (hE : enc g M P k = .inr (ci, fs)) (hc : vwCl[ci]? = some r) (hrC : r.1 = C) (hst : (st.map fun v => v.category).sum ≤ 8) (hd : decode cc pc = .ok (.invokevirtual index, 3))
    (kk : ∀ (q : Nat) (M' : Nat → Nat → Int32) (P' : Nat → Nat), post q M' P' → X x (pc + 3) lv (.ref (g.1 q) :: st) M' P') : X x pc lv (As.reverse ++ .ref (g.1 k) :: st) M P := by
  obtain ⟨⟨p, l', e, R, s⟩, ⟨m, args, below, meth, c⟩, g', nL', Q⟩ := x
  obtain ⟨h1, h2, h3, h4, h5⟩ := h
  obtain rfl : g = g' := h3.symm
  obtain rfl : nL = nL' := h4.symm
  obtain rfl : rm = R := h5.symm
  obtain rfl : l = l' := hx.symm
  intro H locs ls hl hP hS
  refine va_callr (va_runV (As := As) (rest := st) h1 hM (cwV n h1.2.2.2.2 hT hw hz.1 hz.2 hd0 hR) ⟨cPre_blind _ _ _ _, ?_, fun U hU hW => ⟨rfl, by rw [hU]; exact hP, h2.call hS hU hW⟩⟩ rfl hn hl.1 rfl (lv_room hst) hd ⟨Nat.zero_le _, Nat.zero_le _⟩) hS (fun q _ z => z) (fun q z => z) (fun u ra t H1 locs1 ht hvm hp hB hz1 hk1 hS1 => ?_)
  · rw [← hrC]; exact gRecv h2 hP hk hE hc
  · obtain ⟨⟨q, rfl, hq⟩, hB⟩ := hB
    rw [ht] at hB
    exact kk q u.1 u.2 hq H1 locs1 ls hl hB hS1
theorem x_callS (h : Cxk x g cc nL Ts own rm) {l : Launch} {post : Int32 → (Nat → Nat → Int32) → (Nat → Nat) → Prop} (n : Nat) (hx : x.1.2.1 = l) (hM : Met l y ws rm' (cPre g As M P) (cQi g post) 0 0 (gA g)) (hT : GoodIn Ts (va_wsS own index y ws)) (hw : ws = Cond.code y bytes maxL ret :: ws') (hz : rm'.cells = 0 ∧ rm'.slots = 0) (hd0 : y.cls ≠ "java/lang/invoke/MethodHandle" ∧ y.cls ≠ "java/lang/invoke/VarHandle" ∧ (parseMethodDescriptor y.desc).map (fun d => d.parameters.length) = some n) (hn : As.length = n) (hR : mRoom rm rm' maxL) (hst : (st.map fun v => v.category).sum ≤ 8) (hd : decode cc pc = .ok (.invokestatic index, 3))
    (kk : ∀ (rv : Int32) (M' : Nat → Nat → Int32) (P' : Nat → Nat), post rv M' P' → X x (pc + 3) lv (.int rv :: st) M' P') : X x pc lv (As.reverse ++ st) M P := by
  obtain ⟨⟨p, l', e, R, s⟩, ⟨m, args, below, meth, c⟩, g', nL', Q⟩ := x
  obtain ⟨h1, h2, h3, h4, h5⟩ := h
  obtain rfl : g = g' := h3.symm
  obtain rfl : nL = nL' := h4.symm
  obtain rfl : rm = R := h5.symm
  obtain rfl : l = l' := hx.symm
  intro H locs ls hl hP hS
  refine va_calli (va_runS (As := As) (rest := st) h1 hM (va_cwS n h1.2.2.2.2 hT hw hz.1 hz.2 hd0 hR) ⟨cPre_blind _ _ _ _, fun U hU hW => ⟨rfl, by rw [hU]; exact hP, h2.call hS hU hW⟩⟩ rfl hn hl.1 rfl (lv_room hst) hd ⟨Nat.zero_le _, Nat.zero_le _⟩) hS (fun q _ z => z) (fun q z => z) (fun rv u t H1 locs1 ht hvm hp hB hz1 hk1 hS1 => ?_)
  rw [ht] at hB
  exact kk rv u.1 u.2 hp H1 locs1 ls hl hB hS1
end CALLS
/-! entries and ends -/
def RetI (x : Ctx) (cc : ByteArray) (post : Int32 → (Nat → Nat → Int32) → (Nat → Nat) → Prop) : Prop := ∀ (pc : Nat) (lv : List (Nat × Value)) (r : Int32) (M : Nat → Nat → Int32) (P : Nat → Nat), decode cc pc = .ok (.ireturn, 1) → post r M P → X x pc lv [.int r] M P
def RetZ (x : Ctx) (cc : ByteArray) (post : Int32 → (Nat → Nat → Int32) → (Nat → Nat) → Prop) : Prop := ∀ (pc : Nat) (lv : List (Nat × Value)) (r : Int32) (M : Nat → Nat → Int32) (P : Nat → Nat), decode cc pc = .ok (.ireturn, 1) → (r = 0 ∨ r = 1) → post r M P → X x pc lv [.int r] M P
def RetV (x : Ctx) (cc : ByteArray) (post : (Nat → Nat → Int32) → (Nat → Nat) → Prop) : Prop := ∀ (pc : Nat) (lv : List (Nat × Value)) (M : Nat → Nat → Int32) (P : Nat → Nat), decode cc pc = .ok (.return_, 1) → post M P → X x pc lv [] M P
def RetR (x : Ctx) (g : Geo) (cc : ByteArray) (post : Nat → (Nat → Nat → Int32) → (Nat → Nat) → Prop) : Prop := ∀ (pc : Nat) (lv : List (Nat × Value)) (k : Nat) (M : Nat → Nat → Int32) (P : Nat → Nat), decode cc pc = .ok (.areturn, 1) → post k M P → X x pc lv [.ref (g.1 k)] M P
theorem met_i {l : Launch} {y : MethodName} {ws ws' : List Cond} {rm : Room} {g : Geo} {av : List Value} {M : Nat → Nat → Int32} {P : Nat → Nat} {post : Int32 → (Nat → Nat → Int32) → (Nat → Nat) → Prop} {cc : ByteArray} {maxL : Nat} (hy : plainName y.cls = true) (hw : ws = Cond.code y cc maxL (some .int) :: ws') (hz : rm.cells = 0 ∧ rm.slots = 0) (hav : (lg_sl av).length ≤ maxL)
    (body : ∀ x : Ctx, x.1.2.1 = l → Cxk x g cc maxL ws y.cls rm → RetI x cc post → X x 0 (lv_args 0 av) [] M P) : Met l y ws rm (cPre g av M P) (cQi g post) 0 0 (gA g) := by
  refine Met.ofW (cc := cc) (maxL := maxL) (ret := some .int) hy hw ?_
  intro p e s m args below meth c s₁ B hml hv
  obtain ⟨rfl, hP, hG⟩ := hv
  have hl := lv_entry av (n := maxL) hav
  rw [lg_entry_eq]
  refine body ((p, l, e, _, s), (m, _, below, meth, c), g, maxL, _) rfl ⟨⟨B.exec, B.bytes, hml, findClass_of_methodNamed B.named, atoms_spec (ws := ws) B.pre⟩, hG, rfl, rfl, rfl⟩ ?_ s.heap [] _ hl hP va_S.rf
  intro pc lv r M1 P1 hd hp H locs ls hl hP1 hS
  exact W.iret (v := r) B.exec B.bytes B.returns (fun t ht hW => ⟨⟨r, (M1, P1), rfl, hp, by show Wd g M1 P1 t.heap; rw [ht]; exact hP1⟩, hS.F ht⟩) hS.2.2 hd B.notSynchronized
theorem met_z {l : Launch} {y : MethodName} {ws ws' : List Cond} {rm : Room} {g : Geo} {av : List Value} {M : Nat → Nat → Int32} {P : Nat → Nat} {post : Int32 → (Nat → Nat → Int32) → (Nat → Nat) → Prop} {cc : ByteArray} {maxL : Nat} (hy : plainName y.cls = true) (hw : ws = Cond.code y cc maxL (some .boolean) :: ws') (hz : rm.cells = 0 ∧ rm.slots = 0) (hav : (lg_sl av).length ≤ maxL)
    (body : ∀ x : Ctx, x.1.2.1 = l → Cxk x g cc maxL ws y.cls rm → RetZ x cc post → X x 0 (lv_args 0 av) [] M P) : Met l y ws rm (cPre g av M P) (cQi g post) 0 0 (gA g) := by
  refine Met.ofW (cc := cc) (maxL := maxL) (ret := some .boolean) hy hw ?_
  intro p e s m args below meth c s₁ B hml hv
  obtain ⟨rfl, hP, hG⟩ := hv
  have hl := lv_entry av (n := maxL) hav
  rw [lg_entry_eq]
  refine body ((p, l, e, _, s), (m, _, below, meth, c), g, maxL, _) rfl ⟨⟨B.exec, B.bytes, hml, findClass_of_methodNamed B.named, atoms_spec (ws := ws) B.pre⟩, hG, rfl, rfl, rfl⟩ ?_ s.heap [] _ hl hP va_S.rf
  intro pc lv r M1 P1 hd hr hp H locs ls hl hP1 hS
  exact W.zret (v := r) B.exec B.bytes B.returns (by rcases hr with rfl | rfl <;> rfl) (fun t ht hW => ⟨⟨r, (M1, P1), rfl, hp, by show Wd g M1 P1 t.heap; rw [ht]; exact hP1⟩, hS.F ht⟩) hS.2.2 hd B.notSynchronized
theorem met_v {l : Launch} {y : MethodName} {ws ws' : List Cond} {rm : Room} {g : Geo} {av : List Value} {M : Nat → Nat → Int32} {P : Nat → Nat} {post : (Nat → Nat → Int32) → (Nat → Nat) → Prop} {cc : ByteArray} {maxL : Nat} (hy : plainName y.cls = true) (hw : ws = Cond.code y cc maxL none :: ws') (hz : rm.cells = 0 ∧ rm.slots = 0) (hav : (lg_sl av).length ≤ maxL)
    (body : ∀ x : Ctx, x.1.2.1 = l → Cxk x g cc maxL ws y.cls rm → RetV x cc post → X x 0 (lv_args 0 av) [] M P) : Met l y ws rm (cPre g av M P) (cQv g post) 0 0 (gA g) := by
  refine Met.ofW (cc := cc) (maxL := maxL) (ret := none) hy hw ?_
  intro p e s m args below meth c s₁ B hml hv
  obtain ⟨rfl, hP, hG⟩ := hv
  have hl := lv_entry av (n := maxL) hav
  rw [lg_entry_eq]
  refine body ((p, l, e, _, s), (m, _, below, meth, c), g, maxL, _) rfl ⟨⟨B.exec, B.bytes, hml, findClass_of_methodNamed B.named, atoms_spec (ws := ws) B.pre⟩, hG, rfl, rfl, rfl⟩ ?_ s.heap [] _ hl hP va_S.rf
  intro pc lv M1 P1 hd hp H locs ls hl hP1 hS
  exact W.vret B.exec B.bytes B.returns (fun t ht hW => ⟨⟨(M1, P1), rfl, hp, by show Wd g M1 P1 t.heap; rw [ht]; exact hP1⟩, hS.F ht⟩) hS.2.2 hd B.notSynchronized
theorem met_r {l : Launch} {y : MethodName} {ws ws' : List Cond} {rm : Room} {g : Geo} {av : List Value} {M : Nat → Nat → Int32} {P : Nat → Nat} {C : String} {post : Nat → (Nat → Nat → Int32) → (Nat → Nat) → Prop} {cc : ByteArray} {maxL : Nat} (hy : plainName y.cls = true) (hw : ws = Cond.code y cc maxL (some (.object C)) :: ws') (hz : rm.cells = 0 ∧ rm.slots = 0) (hav : (lg_sl av).length ≤ maxL)
    (body : ∀ x : Ctx, x.1.2.1 = l → Cxk x g cc maxL ws y.cls rm → RetR x g cc post → X x 0 (lv_args 0 av) [] M P) : Met l y ws rm (cPre g av M P) (cQr g post) 0 0 (gA g) := by
  refine Met.ofW (cc := cc) (maxL := maxL) (ret := some (.object C)) hy hw ?_
  intro p e s m args below meth c s₁ B hml hv
  obtain ⟨rfl, hP, hG⟩ := hv
  have hl := lv_entry av (n := maxL) hav
  rw [lg_entry_eq]
  refine body ((p, l, e, _, s), (m, _, below, meth, c), g, maxL, _) rfl ⟨⟨B.exec, B.bytes, hml, findClass_of_methodNamed B.named, atoms_spec (ws := ws) B.pre⟩, hG, rfl, rfl, rfl⟩ ?_ s.heap [] _ hl hP va_S.rf
  intro pc lv k M1 P1 hd hp H locs ls hl hP1 hS
  exact W.aret (v := .ref (g.1 k)) B.exec B.bytes B.returns (Or.inl ⟨C, rfl⟩) (Or.inr ⟨_, rfl⟩) (fun t ht hW => ⟨⟨(M1, P1), g.1 k, rfl, trivial, ⟨k, rfl, hp⟩, by show Wd g M1 P1 t.heap; rw [ht]; exact hP1⟩, hS.F ht⟩) hS.2.2 hd B.notSynchronized
