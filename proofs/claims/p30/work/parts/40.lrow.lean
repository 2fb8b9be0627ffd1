section LONGS
variable {x : Ctx} {g : Geo} {cc : ByteArray} {nL : Nat} {Ts : List Cond} {own : String} {rm : Room} {pc : Nat} {lv lv' : List (Nat × Value)} {st : List Value} {M M' : Nat → Nat → Int32} {P P' : Nat → Nat}
theorem x_ldc2 (h : Cxk x g cc nL Ts own rm) {index : Nat} (v : Int64) (hc : Jvm.Cond.constantLong own index v ∈ Ts) (hd : decode cc pc = .ok (.ldc2_w index, 3)) (k : X x (pc + 3) lv (.long v :: st) M P) : X x pc lv (st) M P := fun H locs ls h1 h2 h3 => lv_ldc2 h.1.1 h.1.2.1 h.1.2.2.2.1 (h.1.2.2.2.2 _ hc) hd (k H locs ls h1 h2 h3)
theorem x_lload (h : Cxk x g cc nL Ts own rm) {i : Nat} (q : Nat) {v : Int64} (hq : lv[q]? = some (i, .long v)) (hd : decode cc pc = .ok (.lload i, 2)) (k : X x (pc + 2) lv (.long v :: st) M P) : X x pc lv (st) M P := fun H locs ls h1 h2 h3 => lv_lload h.1.1 h.1.2.1 hd (lv_at h1 q hq) (k H locs ls h1 h2 h3)
theorem x_lload_n (h : Cxk x g cc nL Ts own rm) {n : Fin 4} {i : Nat} (q : Nat) {v : Int64} (hi : (n : Nat) = i) (hq : lv[q]? = some (i, .long v)) (hd : decode cc pc = .ok (.lload_n n, 1)) (k : X x (pc + 1) lv (.long v :: st) M P) : X x pc lv (st) M P := fun H locs ls h1 h2 h3 => lv_lload_n h.1.1 h.1.2.1 hd hi (lv_at h1 q hq) (k H locs ls h1 h2 h3)
theorem x_lstore (h : Cxk x g cc nL Ts own rm) {i : Nat} {v : Int64} (lv' : List (Nat × Value)) (hd : decode cc pc = .ok (.lstore i, 2)) (hi : i + 1 < nL) (hl : (i, Value.long v) :: lv.filter (fun q => !(q.1 == i) && (!(q.1 == i + 1) && !(q.1 + 1 == i && q.2.category == 2))) = lv') (k : X x (pc + 2) lv' st M P) : X x pc lv (.long v :: st) M P := fun H locs ls h1 h2 h3 => lv_lstore h.1.1 h.1.2.1 hd h1 (by rw [h.2.2.2.1]; exact hi) hl (fun ls' hl' => k H locs ls' hl' h2 h3)
theorem x_lstore_n (h : Cxk x g cc nL Ts own rm) {n : Fin 4} {i : Nat} (hni : (n : Nat) = i) {v : Int64} (lv' : List (Nat × Value)) (hd : decode cc pc = .ok (.lstore_n n, 1)) (hi : i + 1 < nL) (hl : (i, Value.long v) :: lv.filter (fun q => !(q.1 == i) && (!(q.1 == i + 1) && !(q.1 + 1 == i && q.2.category == 2))) = lv') (k : X x (pc + 1) lv' st M P) : X x pc lv (.long v :: st) M P := fun H locs ls h1 h2 h3 => lv_lstore_n h.1.1 h.1.2.1 hd hni h1 (by rw [h.2.2.2.1]; exact hi) hl (fun ls' hl' => k H locs ls' hl' h2 h3)
theorem x_ladd (h : Cxk x g cc nL Ts own rm) {a b : Int64} (hd : decode cc pc = .ok (.ladd, 1)) (k : X x (pc + 1) lv (.long (a + b) :: st) M P) : X x pc lv (.long b :: .long a :: st) M P := fun H locs ls h1 h2 h3 => lv_ladd h.1.1 h.1.2.1 hd (k H locs ls h1 h2 h3)
theorem x_lmul (h : Cxk x g cc nL Ts own rm) {a b : Int64} (hd : decode cc pc = .ok (.lmul, 1)) (k : X x (pc + 1) lv (.long (a * b) :: st) M P) : X x pc lv (.long b :: .long a :: st) M P := fun H locs ls h1 h2 h3 => lv_lmul h.1.1 h.1.2.1 hd (k H locs ls h1 h2 h3)
theorem x_land (h : Cxk x g cc nL Ts own rm) {a b : Int64} (hd : decode cc pc = .ok (.land, 1)) (k : X x (pc + 1) lv (.long (a &&& b) :: st) M P) : X x pc lv (.long b :: .long a :: st) M P := fun H locs ls h1 h2 h3 => lv_land h.1.1 h.1.2.1 hd (k H locs ls h1 h2 h3)
theorem x_i2l (h : Cxk x g cc nL Ts own rm) {a : Int32} (hd : decode cc pc = .ok (.i2l, 1)) (k : X x (pc + 1) lv (.long a.toInt64 :: st) M P) : X x pc lv (.int a :: st) M P := fun H locs ls h1 h2 h3 => lv_i2l h.1.1 h.1.2.1 hd rfl (k H locs ls h1 h2 h3)
theorem x_lcmp (h : Cxk x g cc nL Ts own rm) {a b : Int64} (hd : decode cc pc = .ok (.lcmp, 1)) (k : X x (pc + 1) lv (.int (lg_cmp a b) :: st) M P) : X x pc lv (.long b :: .long a :: st) M P := fun H locs ls h1 h2 h3 => W.lcmp h.1.1 h.1.2.1 hd (k H locs ls h1 h2 h3)
theorem lg_cmp_0 (a : Int64) : lg_cmp a a = nI 0 := by
  have h : ¬ a < a := by rw [Int64.lt_iff_toInt_lt]; omega
  unfold lg_cmp
  simp [h]
  rfl
def cQl (g : Geo) (post : Int64 → (Nat → Nat → Int32) → (Nat → Nat) → Prop) : Array Value → State → Outcome → State → Prop := va_Ql (S := Mem) (fun r u => post r u.1 u.2) (fun u t => Wd g u.1 u.2 t.heap) (gA g)
variable {y : MethodName} {bytes : ByteArray} {maxL index : Nat} {ret : Option FieldType} {ws ws' : List Cond} {rm' : Room} {C : String} {As : List Value}
theorem x_callSl (h : Cxk x g cc nL Ts own rm) {l : Launch} {post : Int64 → (Nat → Nat → Int32) → (Nat → Nat) → Prop} (n : Nat) (hx : x.1.2.1 = l) (hM : Met l y ws rm' (cPre g As M P) (cQl g post) 0 0 (gA g)) (hT : GoodIn Ts (va_wsS own index y ws)) (hw : ws = Cond.code y bytes maxL ret :: ws') (hz : rm'.cells = 0 ∧ rm'.slots = 0) (hd0 : y.cls ≠ "java/lang/invoke/MethodHandle" ∧ y.cls ≠ "java/lang/invoke/VarHandle" ∧ (parseMethodDescriptor y.desc).map (fun d => d.parameters.length) = some n) (hn : As.length = n) (hR : mRoom rm rm' maxL) (hst : (st.map fun v => v.category).sum ≤ 8) (hd : decode cc pc = .ok (.invokestatic index, 3))
    (kk : ∀ (rv : Int64) (M' : Nat → Nat → Int32) (P' : Nat → Nat), post rv M' P' → X x (pc + 3) lv (.long rv :: st) M' P') : X x pc lv (As.reverse ++ st) M P := by
  obtain ⟨⟨p, l', e, R, s⟩, ⟨m, args, below, meth, c⟩, g', nL', Q⟩ := x
  obtain ⟨h1, h2, h3, h4, h5⟩ := h
  obtain rfl : g = g' := h3.symm
  obtain rfl : nL = nL' := h4.symm
  obtain rfl : rm = R := h5.symm
  obtain rfl : l = l' := hx.symm
  intro H locs ls hl hP hS
  refine va_calll (va_runS (As := As) (rest := st) h1 hM (va_cwS n h1.2.2.2.2 hT hw hz.1 hz.2 hd0 hR) ⟨cPre_blind _ _ _ _, fun U hU hW => ⟨rfl, by rw [hU]; exact hP, h2.call hS hU hW⟩⟩ rfl hn hl.1 rfl (lv_room hst) hd ⟨Nat.zero_le _, Nat.zero_le _⟩) hS (fun q _ z => z) (fun q z => z) (fun rv u t H1 locs1 ht hvm hp hB hz1 hk1 hS1 => ?_)
  rw [ht] at hB
  exact kk rv u.1 u.2 hp H1 locs1 ls hl hB hS1
end LONGS
def RetL (x : Ctx) (cc : ByteArray) (post : Int64 → (Nat → Nat → Int32) → (Nat → Nat) → Prop) : Prop := ∀ (pc : Nat) (lv : List (Nat × Value)) (r : Int64) (M : Nat → Nat → Int32) (P : Nat → Nat), decode cc pc = .ok (.lreturn, 1) → post r M P → X x pc lv [.long r] M P
theorem met_l {l : Launch} {y : MethodName} {ws ws' : List Cond} {rm : Room} {g : Geo} {av : List Value} {M : Nat → Nat → Int32} {P : Nat → Nat} {post : Int64 → (Nat → Nat → Int32) → (Nat → Nat) → Prop} {cc : ByteArray} {maxL : Nat} (hy : plainName y.cls = true) (hw : ws = Cond.code y cc maxL (some .long) :: ws') (hz : rm.cells = 0 ∧ rm.slots = 0) (hav : (lg_sl av).length ≤ maxL)
    (body : ∀ x : Ctx, x.1.2.1 = l → Cxk x g cc maxL ws y.cls rm → RetL x cc post → X x 0 (lv_args 0 av) [] M P) : Met l y ws rm (cPre g av M P) (cQl g post) 0 0 (gA g) := by
  refine Met.ofW (cc := cc) (maxL := maxL) (ret := some .long) hy hw ?_
  intro p e s m args below meth c s₁ B hml hv
  obtain ⟨rfl, hP, hG⟩ := hv
  have hl := lv_entry av (n := maxL) hav
  rw [lg_entry_eq]
  refine body ((p, l, e, _, s), (m, _, below, meth, c), g, maxL, _) rfl ⟨⟨B.exec, B.bytes, hml, findClass_of_methodNamed B.named, atoms_spec (ws := ws) B.pre⟩, hG, rfl, rfl, rfl⟩ ?_ s.heap [] _ hl hP va_S.rf
  intro pc lv r M1 P1 hd hp H locs ls hl hP1 hS
  exact W.lret (v := r) B.exec B.bytes B.returns (fun t ht hW => ⟨⟨r, (M1, P1), rfl, hp, by show Wd g M1 P1 t.heap; rw [ht]; exact hP1⟩, hS.F ht⟩) hS.2.2 hd B.notSynchronized
