/-! MARKS BESIDE THE WORLD -/
def zE (g : Geo) (a : Nat) (cL : ClassId) (m : Nat → Nat) (H : Heap) : Prop := va_P g.2.1 vwCl (mW a cL m) H
def ZC (x : Ctx) (g : Geo) (a : Nat) (cL : ClassId) : Prop := va_K g.2.1 vwCl [(cL, .long)] x.1.2.2.2.2 ∧ (∀ k, k < 158 → g.1 k ≠ a) ∧ x.1.2.2.2.2.heap.size ≤ a
theorem Est_z {g : Geo} {a : Nat} {cL : ClassId} (m : Nat → Nat) (hd : ∀ k, k < 158 → g.1 k ≠ a) : Est g (zE g a cL m) := fun H H1 hE hk => va_P.kept hE (fun k q hq => by
  have e : q.1 = a := (mW_D a cL m).2 k q hq
  have hl : a < H.size := (hE 0 _ rfl).lt
  rw [e]
  exact hk a hl (fun ⟨k, hk, e⟩ => hd k hk e.symm))
theorem va_S_mono {A A' : Nat → Prop} {H0 H : Heap} {locs : List Loc} (hm : ∀ q, A q → A' q) (h : va_S A H0 H locs) : va_S A' H0 H locs := ⟨h.1, fun q h1 h2 => h.2.1 q h1 (fun z => h2 (hm q z)), fun l hl => hm _ (h.2.2 l hl)⟩
section ZROWS
variable {x : Ctx} {g : Geo} {a : Nat} {cL : ClassId} {m : Nat → Nat} {E : Heap → Prop} {n1 n2 : Nat} {cc : ByteArray} {nL : Nat} {Ts : List Cond} {own : String} {rm : Room} {pc index : Nat} {lv lv' : List (Nat × Value)} {st : List Value} {M : Nat → Nat → Int32} {P : Nat → Nat}
theorem tt_marked (h : Tk x g (zE g a cL m) n1 n2 cc nL Ts own rm) (hz : ZC x g a cL) {c : Nat} (hc : c < 162) (hm : ∀ x, m x ≤ 2) (hT : GoodIn Ts (va_wsS own index yL_marked wsL_marked)) (hR : mRoom rm rmL_marked 2) (hst : (st.map fun v => v.category).sum ≤ 8) (hd : decode cc pc = .ok (.invokestatic index, 3)) (kk : T x (zE g a cL m) n1 n2 (pc + 3) lv (.int (nI (m c)) :: st) M P) : T x (zE g a cL m) n1 n2 pc lv (.int (nI c) :: .ref a :: st) M P := by
  obtain ⟨⟨p, l', e, R, s⟩, ⟨mm, args, below, meth, cd⟩, g', nL', Q⟩ := x
  obtain ⟨⟨h1, h2, h3, h4, h5⟩, hEs, hn1, hn2⟩ := h
  obtain rfl : g = g' := h3.symm
  obtain rfl : nL = nL' := h4.symm
  obtain rfl : rm = R := h5.symm
  obtain ⟨hK, hne, hsz⟩ := hz
  intro H locs ls hl hP hEH hS
  refine va_calli (va_runS (As := [.ref a, .int (nI c)]) (rest := st) h1 (c_L_marked hc hm) (va_cwS 2 h1.2.2.2.2 hT rfl rfl rfl (by decide +kernel) hR) ⟨mPre_blind _ _ _ _ _, fun U hU hW => ⟨rfl, by rw [hU]; exact hEH, va_K.moved hW.alike hK⟩⟩ rfl rfl hl.1 rfl (lv_room hst) hd ⟨hn1, hn2⟩) hS (fun q _ z => Or.inr (by rw [z]; exact hsz)) (fun q z => Or.inr (by rw [z]; exact hsz)) (fun rv u t H1 locs1 ht hvm hp hB hz1 hk1 hS1 => ?_)
  obtain rfl := hp
  rw [ht] at hB
  exact kk H1 locs1 ls hl (va_P.kept hP (fun k q hq => by
    have hlt := (hP k _ hq).lt
    obtain ⟨hk, rfl⟩ := wW_at hq
    exact hk1 _ hlt (fun e => hne k hk e))) hB hS1
theorem tt_marks (h : Tk x g (zE g a cL m) n1 n2 cc nL Ts own rm) (hz : ZC x g a cL) {c hh : Nat} (hc : c < 162) (hm : ∀ x, m x ≤ 2) (h2h : hh ≤ 2) (hT : GoodIn Ts (va_wsS own index yL_marks wsL_marks)) (hR : mRoom rm rmL_marks 3) (hst : (st.map fun v => v.category).sum ≤ 8) (hd : decode cc pc = .ok (.invokestatic index, 3)) (kk : T x (zE g a cL (updN m c hh)) n1 n2 (pc + 3) lv st M P) : T x (zE g a cL m) n1 n2 pc lv (.int (nI hh) :: .int (nI c) :: .ref a :: st) M P := by
  obtain ⟨⟨p, l', e, R, s⟩, ⟨mm, args, below, meth, cd⟩, g', nL', Q⟩ := x
  obtain ⟨⟨h1, h2, h3, h4, h5⟩, hEs, hn1, hn2⟩ := h
  obtain rfl : g = g' := h3.symm
  obtain rfl : nL = nL' := h4.symm
  obtain rfl : rm = R := h5.symm
  obtain ⟨hK, hne, hsz⟩ := hz
  intro H locs ls hl hP hEH hS
  refine va_callv (va_runS (As := [.ref a, .int (nI c), .int (nI hh)]) (rest := st) h1 (c_L_marks hc hm h2h) (va_cwS 3 h1.2.2.2.2 hT rfl rfl rfl (by decide +kernel) hR) ⟨mPre_blind _ _ _ _ _, fun U hU hW => ⟨rfl, by rw [hU]; exact hEH, va_K.moved hW.alike hK⟩⟩ rfl rfl hl.1 rfl (lv_room hst) hd ⟨hn1, hn2⟩) hS (fun q _ z => Or.inr (by rw [z]; exact hsz)) (fun q z => Or.inr (by rw [z]; exact hsz)) (fun u t H1 locs1 ht hvm hp hB hz1 hk1 hS1 => ?_)
  rw [ht] at hB
  exact kk H1 locs1 ls hl (va_P.kept hP (fun k q hq => by
    have hlt := (hP k _ hq).lt
    obtain ⟨hk, rfl⟩ := wW_at hq
    exact hk1 _ hlt (fun e => hne k hk e))) hB hS1
theorem tt_new (h : Cxk x g cc nL Ts own rm) (hw : Cond.arrayClass .long ∈ Ts) (hN : 1 ≤ rm.cells) (hS6 : 6 ≤ rm.slots) (hd : decode cc pc = .ok (.newarray .long, 2)) (kk : ∀ (a : Nat) (cL : ClassId), ZC x g a cL → T x (zE g a cL (fun _ => 0)) 1 6 (pc + 2) lv (.ref a :: st) M P) : X x pc lv (.int (nI 6) :: st) M P := by
  obtain ⟨⟨p, l', e, R, s⟩, ⟨mm, args, below, meth, cd⟩, g', nL', Q⟩ := x
  obtain ⟨h1, h2, h3, h4, h5⟩ := h
  obtain rfl : g = g' := h3.symm
  obtain rfl : nL = nL' := h4.symm
  obtain rfl : rm = R := h5.symm
  intro H locs ls hl hP hS
  have hS0 : va_S (tA g s) s.heap H locs := va_S_mono (fun q z => Or.inl z) hS
  have hD0 : va_D (tA g s) (wW g.1 (enc g M P)) := (gD h2.2.2.1 _).weaken (fun _ _ _ z => Or.inl z)
  refine va_newa (atype := .long) (ty := .long) (a0 := (6, .inr (.inl (fun _ => 0)))) (N' := 6) h1.1 h1.2.1 (h1.2.2.2.2 _ hw) rfl h2.1 hP hD0 hS0 (fun q z => Or.inr z) (fun _ => rfl) (by decide) (by decide) (by decide) hN hS6 hd (fun q c' H1 hK1 hP1 hD1 hS1 => ?_)
  have hlen : (wW g.1 (enc g M P)).length = 158 := wW_len
  have hq : (wW g.1 (enc g M P) ++ [(q, .inl (c', (6, .inr (.inl (fun _ => 0)))))])[158]? = some (q, .inl (c', (6, .inr (.inl (fun _ => 0))))) := by
    rw [List.getElem?_append_right (by omega), hlen]
    rfl
  have hk : ∀ k, k < 158 → (wW g.1 (enc g M P) ++ [(q, .inl (c', (6, .inr (.inl (fun _ => 0)))))])[k]? = some (g.1 k, enc g M P k) := fun k hk => by
    rw [List.getElem?_append_left (by omega), wW_get hk]
  have hne : ∀ k, k < 158 → g.1 k ≠ q := fun k h e => by
    have := hD1.1 k 158 _ _ (hk k h) hq e
    omega
  refine kk q c' ⟨hK1.sub [5] rfl, hne, ?_⟩ H1 locs ls hl (fun k z hz => ?_) (fun k z hz => ?_) hS1
  · rcases hD1.2 158 _ hq with ⟨k, hk2, e⟩ | e
    · exact absurd e.symm (hne k hk2)
    · exact e
  · obtain ⟨h9, rfl⟩ := wW_at hz
    exact hP1 k _ (hk k h9)
  · have h9 : k = 0 := by
      have h1 := (List.getElem?_eq_some_iff.mp hz).1
      have : (mW q c' (fun _ => 0)).length = 1 := rfl
      omega
    subst h9
    have hz : some (q, .inl (c', 6, .inr (.inl (mkF (fun _ => 0))))) = some z := hz
    rw [← Option.some.inj hz, ← mkF_0]
    exact hP1 158 _ hq
end ZROWS
/-! a method that makes one cell of its own -/
def cPreS (g : Geo) (av : List Value) (M : Nat → Nat → Int32) (P : Nat → Nat) (sz : Nat) : Array Value → State → Prop := va_Pc av (fun U => (Wd g M P U.heap ∧ Gd g U U.heap) ∧ U.heap.size = sz)
theorem cPreS_blind (g : Geo) (av : List Value) (M : Nat → Nat → Int32) (P : Nat → Nat) (sz : Nat) : FrameBlind (cPreS g av M P sz) := fun a U gg mk q => by
  obtain ⟨h1, h2, h3⟩ := q
  exact ⟨h1, (cPre_blind g av M P a U gg mk ⟨h1, h2⟩).2, h3⟩
def cQz (g : Geo) (sz : Nat) (post : Int32 → (Nat → Nat → Int32) → (Nat → Nat) → Prop) : Array Value → State → Outcome → State → Prop := va_Qi (S := Mem) (fun r u => post r u.1 u.2) (fun u t => Wd g u.1 u.2 t.heap) (fun q => gA g q ∨ sz ≤ q)
def RetT (x : Ctx) (cc : ByteArray) (post : Int32 → (Nat → Nat → Int32) → (Nat → Nat) → Prop) : Prop := ∀ (E : Heap → Prop) (pc : Nat) (lv : List (Nat × Value)) (r : Int32) (M : Nat → Nat → Int32) (P : Nat → Nat), decode cc pc = .ok (.ireturn, 1) → (r = 0 ∨ r = 1) → post r M P → T x E 1 6 pc lv [.int r] M P
theorem met_t {l : Launch} {y : MethodName} {ws ws' : List Cond} {rm : Room} {g : Geo} {av : List Value} {M : Nat → Nat → Int32} {P : Nat → Nat} {post : Int32 → (Nat → Nat → Int32) → (Nat → Nat) → Prop} {cc : ByteArray} {maxL sz : Nat} (hy : plainName y.cls = true) (hw : ws = Cond.code y cc maxL (some .boolean) :: ws') (hav : (lg_sl av).length ≤ maxL)
    (body : ∀ x : Ctx, x.1.2.1 = l → Cxk x g cc maxL ws y.cls rm → RetZ x cc post → RetT x cc post → X x 0 (lv_args 0 av) [] M P) : Met l y ws rm (cPreS g av M P sz) (cQz g sz post) 1 6 (fun q => gA g q ∨ sz ≤ q) := by
  refine Met.ofW (cc := cc) (maxL := maxL) (ret := some .boolean) hy hw ?_
  intro p e s m args below meth c s₁ B hml hv
  obtain ⟨rfl, ⟨hP, hG⟩, rfl⟩ := hv
  have hl := lv_entry av (n := maxL) hav
  rw [lg_entry_eq]
  refine body ((p, l, e, _, s), (m, _, below, meth, c), g, maxL, _) rfl ⟨⟨B.exec, B.bytes, hml, findClass_of_methodNamed B.named, atoms_spec (ws := ws) B.pre⟩, hG, rfl, rfl, rfl⟩ ?_ ?_ s.heap [] _ hl hP va_S.rf
  · intro pc lv r M1 P1 hd hr hp H locs ls hl hP1 hS
    have hS := va_S_mono (A' := fun q => gA g q ∨ s.heap.size ≤ q) (fun q z => Or.inl z) hS
    refine W.widen (k := 1) (n := 6) (by decide) (by decide) ?_
    show W p l e _ s m _ below meth c H locs 1 6 (MQ below (cQz g s.heap.size post) _ s 1 6 (fun q => gA g q ∨ s.heap.size ≤ q)) _
    exact W.zret (v := r) B.exec B.bytes B.returns (by rcases hr with rfl | rfl <;> rfl) (fun t ht hW => ⟨⟨r, (M1, P1), rfl, hp, by show Wd g M1 P1 t.heap; rw [ht]; exact hP1⟩, hS.F ht⟩) hS.2.2 hd B.notSynchronized
  · intro E pc lv r M1 P1 hd hr hp H locs ls hl hP1 _ hS
    exact W.zret (v := r) B.exec B.bytes B.returns (by rcases hr with rfl | rfl <;> rfl) (fun t ht hW => ⟨⟨r, (M1, P1), rfl, hp, by show Wd g M1 P1 t.heap; rw [ht]; exact hP1⟩, hS.F ht⟩) hS.2.2 hd B.notSynchronized
