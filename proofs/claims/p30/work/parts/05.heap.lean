section HEAP
variable {x : Ctx} {g : Geo} {cc : ByteArray} {nL : Nat} {Ts : List Cond} {own : String} {rm : Room} {pc : Nat} {lv lv' : List (Nat × Value)} {st : List Value} {M M' : Nat → Nat → Int32} {P P' : Nat → Nat}
theorem gS_put {A : Nat → Prop} {H0 H : Heap} {locs : List Loc} (h : va_S A H0 H locs) : va_S A H0 H locs := h
/-- an int array's element -/
theorem x_iald (h : Cxk x g cc nL Ts own rm) {k n j : Nat} {f : Nat → Int32} (v : Int32) (hk : k < 158) (hE : enc g M P k = .inl (g.2.2.1 0, n, .inl f)) (hd : decode cc pc = .ok (.iaload, 1)) (hj : j < n) (hn : n < 2 ^ 31) (hv : f j = v) (kk : X x (pc + 1) lv (.int v :: st) M P) : X x pc lv (.int (nI j) :: .ref (g.1 k) :: st) M P := by
  obtain ⟨⟨p, l, e, R, s⟩, ⟨m, args, below, meth, c⟩, g', nL', Q⟩ := x
  obtain ⟨h1, h2, h3, h4, h5⟩ := h
  obtain rfl : g = g' := h3.symm
  intro H locs ls hl hP hS
  have q := va_iald (m := m) (args := args) (H := H) (rest := st) (i := nI j) h1.1 h1.2.1 h2.1 hP k 0 (cA := g.2.2.1 0) (n := n) (f := f) (a := g.1 k) (by rw [wW_get hk, hE]) rfl (vp_in_nI hj hn) hd (cells := 0) (slots := 0) (locs := locs) (p := p) (l := l) (e := e) (R := R) (below := below) (meth := meth) (Q := Q) (ls := ls)
  refine q ?_
  rw [nI_clamp (by omega), hv]
  exact kk H locs ls hl hP hS
theorem x_zald (h : Cxk x g cc nL Ts own rm) {k n j : Nat} {f : Nat → Int32} (v : Int32) (hk : k < 158) (hE : enc g M P k = .inl (g.2.2.1 1, n, .inl f)) (hd : decode cc pc = .ok (.baload, 1)) (hj : j < n) (hn : n < 2 ^ 31) (hv : f j = v) (kk : X x (pc + 1) lv (.int v :: st) M P) : X x pc lv (.int (nI j) :: .ref (g.1 k) :: st) M P := by
  obtain ⟨⟨p, l, e, R, s⟩, ⟨m, args, below, meth, c⟩, g', nL', Q⟩ := x
  obtain ⟨h1, h2, h3, h4, h5⟩ := h
  obtain rfl : g = g' := h3.symm
  intro H locs ls hl hP hS
  have q := va_zald (m := m) (args := args) (H := H) (rest := st) (i := nI j) h1.1 h1.2.1 h2.1 hP k 1 (cA := g.2.2.1 1) (n := n) (f := f) (a := g.1 k) (by rw [wW_get hk, hE]) rfl (vp_in_nI hj hn) hd (cells := 0) (slots := 0) (locs := locs) (p := p) (l := l) (e := e) (R := R) (below := below) (meth := meth) (Q := Q) (ls := ls)
  refine q ?_
  rw [nI_clamp (by omega), hv]
  exact kk H locs ls hl hP hS
theorem x_iast (h : Cxk x g cc nL Ts own rm) {k n j : Nat} {f : Nat → Int32} {v : Int32} (M' : Nat → Nat → Int32) (hk : k < 158) (hE : enc g M P k = .inl (g.2.2.1 0, n, .inl f)) (hd : decode cc pc = .ok (.iastore, 1)) (hj : j < n) (hn : n < 2 ^ 31) (hU : va_up (enc g M P) k (.inl (g.2.2.1 0, n, .inl (upd f j v))) = enc g M' P) (kk : X x (pc + 1) lv st M' P) : X x pc lv (.int v :: .int (nI j) :: .ref (g.1 k) :: st) M P := by
  obtain ⟨⟨p, l, e, R, s⟩, ⟨m, args, below, meth, c⟩, g', nL', Q⟩ := x
  obtain ⟨h1, h2, h3, h4, h5⟩ := h
  obtain rfl : g = g' := h3.symm
  intro H locs ls hl hP hS
  have q := va_iast (m := m) (args := args) (H := H) (rest := st) (i := nI j) (x := v) h1.1 h1.2.1 h2.1 hP (gD h2.2.2.1 _) hS k 0 (cA := g.2.2.1 0) (n := n) (f := f) (a := g.1 k) (by rw [wW_get hk, hE]) rfl (vp_in_nI hj hn) hd (cells := 0) (slots := 0) (p := p) (l := l) (e := e) (R := R) (below := below) (meth := meth) (Q := Q) (ls := ls)
  refine q (fun H1 locs1 hP1 _ hS1 => ?_)
  rw [nI_clamp (by omega), wW_set hk, hU] at hP1
  exact kk H1 locs1 ls hl hP1 hS1
theorem x_zast (h : Cxk x g cc nL Ts own rm) {k n j : Nat} {f : Nat → Int32} {v : Int32} (M' : Nat → Nat → Int32) (hk : k < 158) (hE : enc g M P k = .inl (g.2.2.1 1, n, .inl f)) (hd : decode cc pc = .ok (.bastore, 1)) (hz : vp_nar .boolean v = v) (hj : j < n) (hn : n < 2 ^ 31) (hU : va_up (enc g M P) k (.inl (g.2.2.1 1, n, .inl (upd f j v))) = enc g M' P) (kk : X x (pc + 1) lv st M' P) : X x pc lv (.int v :: .int (nI j) :: .ref (g.1 k) :: st) M P := by
  obtain ⟨⟨p, l, e, R, s⟩, ⟨m, args, below, meth, c⟩, g', nL', Q⟩ := x
  obtain ⟨h1, h2, h3, h4, h5⟩ := h
  obtain rfl : g = g' := h3.symm
  intro H locs ls hl hP hS
  have q := va_zast (m := m) (args := args) (H := H) (rest := st) (i := nI j) (x := v) h1.1 h1.2.1 h2.1 hP (gD h2.2.2.1 _) hS k 1 (cA := g.2.2.1 1) (n := n) (f := f) (a := g.1 k) (by rw [wW_get hk, hE]) rfl (vp_in_nI hj hn) hd (cells := 0) (slots := 0) (p := p) (l := l) (e := e) (R := R) (below := below) (meth := meth) (Q := Q) (ls := ls)
  refine q (fun H1 locs1 hP1 _ hS1 => ?_)
  rw [nI_clamp (by omega), hz, wW_set hk, hU] at hP1
  exact kk H1 locs1 ls hl hP1 hS1
/-- an element of a row of cells -/
theorem x_aald (h : Cxk x g cc nL Ts own rm) {k n j : Nat} (t : Nat) {C : String} {f : Nat → Option Nat} (v : Nat) (hk : k < 158) (ht : (gT g)[t]? = some (g.2.2.1 t, .object C)) (hE : enc g M P k = .inl (g.2.2.1 t, n, .inr (.inr (.inr (.inr f))))) (hd : decode cc pc = .ok (.aaload, 1)) (hj : j < n) (hn : n < 2 ^ 31) (hv : f j = some v) (kk : X x (pc + 1) lv (.ref v :: st) M P) : X x pc lv (.int (nI j) :: .ref (g.1 k) :: st) M P := by
  obtain ⟨⟨p, l, e, R, s⟩, ⟨m, args, below, meth, c⟩, g', nL', Q⟩ := x
  obtain ⟨h1, h2, h3, h4, h5⟩ := h
  obtain rfl : g = g' := h3.symm
  intro H locs ls hl hP hS
  have q := va_aldq (m := m) (args := args) (H := H) (rest := st) (i := nI j) h1.1 h1.2.1 h2.1 hP k t (cA := g.2.2.1 t) (C := C) (n := n) (f := f) (a := g.1 k) (by rw [wW_get hk, hE]) ht (vp_in_nI hj hn) hd (cells := 0) (slots := 0) (locs := locs) (p := p) (l := l) (e := e) (R := R) (below := below) (meth := meth) (Q := Q) (ls := ls)
  refine q ?_
  rw [nI_clamp (by omega), hv]
  exact kk H locs ls hl hP hS
theorem x_aast (h : Cxk x g cc nL Ts own rm) {k n j kv ci : Nat} (t : Nat) {r : vw_C} {vs : List Value} {f : Nat → Option Nat} (P' : Nat → Nat) (hk : k < 158) (hkv : kv < 158) (ht : (gT g)[t]? = some (g.2.2.1 t, .object r.1)) (hE : enc g M P k = .inl (g.2.2.1 t, n, .inr (.inr (.inr (.inr f))))) (hV : enc g M P kv = .inr (ci, vs)) (hci : vwCl[ci]? = some r) (hd : decode cc pc = .ok (.aastore, 1)) (hj : j < n) (hn : n < 2 ^ 31) (hU : va_up (enc g M P) k (.inl (g.2.2.1 t, n, .inr (.inr (.inr (.inr (va_up f j (some (g.1 kv)))))))) = enc g M P') (kk : X x (pc + 1) lv st M P') : X x pc lv (.ref (g.1 kv) :: .int (nI j) :: .ref (g.1 k) :: st) M P := by
  obtain ⟨⟨p, l, e, R, s⟩, ⟨m, args, below, meth, c⟩, g', nL', Q⟩ := x
  obtain ⟨h1, h2, h3, h4, h5⟩ := h
  obtain rfl : g = g' := h3.symm
  intro H locs ls hl hP hS
  have q := va_astq (m := m) (args := args) (H := H) (rest := st) (i := nI j) h1.1 h1.2.1 h2.1 hP (gD h2.2.2.1 _) hS k t kv ci (cA := g.2.2.1 t) (r := r) (n := n) (f := f) (a := g.1 k) (v := g.1 kv) (vs := vs) (by rw [wW_get hk, hE]) ht (by rw [wW_get hkv, hV]) hci (vp_in_nI hj hn) hd (cells := 0) (slots := 0) (p := p) (l := l) (e := e) (R := R) (below := below) (meth := meth) (Q := Q) (ls := ls)
  refine q (fun H1 locs1 hP1 _ hS1 => ?_)
  rw [nI_clamp (by omega), wW_set hk, hU] at hP1
  exact kk H1 locs1 ls hl hP1 hS1
theorem x_alen (h : Cxk x g cc nL Ts own rm) {k n : Nat} (hk : k < 158) {f : (Nat → Int32) ⊕ (Nat → Int64) ⊕ (Nat → UInt32) ⊕ (Nat → UInt64) ⊕ (Nat → Option Nat)} (t : Nat) {ty : FieldType} (ht : (gT g)[t]? = some (g.2.2.1 t, ty)) (hE : enc g M P k = .inl (g.2.2.1 t, n, f)) (hd : decode cc pc = .ok (.arraylength, 1)) (kk : X x (pc + 1) lv (.int (nI n) :: st) M P) : X x pc lv (.ref (g.1 k) :: st) M P := by
  obtain ⟨⟨p, l, e, R, s⟩, ⟨m, args, below, meth, c⟩, g', nL', Q⟩ := x
  obtain ⟨h1, h2, h3, h4, h5⟩ := h
  obtain rfl : g = g' := h3.symm
  intro H locs ls hl hP hS
  exact va_alen (H := H) (rest := st) h1.1 h1.2.1 h2.1 hP k t (cA := g.2.2.1 t) (a := g.1 k) (by rw [wW_get hk, hE]) ht (v := nI n) rfl hd (kk H locs ls hl hP hS)
/-- a field -/
theorem x_get (h : Cxk x g cc nL Ts own rm) {k ci index : Nat} {ref C : String} {T : u_T} {N : Nat} {fs : List Value} (fld : Nat) (v : Value) (hk : k < 158) (hE : enc g M P k = .inr (ci, fs)) (hc : vwCl[ci]? = some (C, T, N)) (hf : fld < N) (hv : fs[fld]? = some v) (hsame : ref = (T fld).1) (hin : ∀ w ∈ u_ws C T N, w ∈ Ts) (hlink : Cond.fieldLink own index ref (T fld).2.1 (T fld).2.2.1 ∈ Ts) (hd : decode cc pc = .ok (.getfield index, 3)) (kk : X x (pc + 3) lv (v :: st) M P) : X x pc lv (.ref (g.1 k) :: st) M P := by
  obtain ⟨⟨p, l, e, R, s⟩, ⟨m, args, below, meth, c⟩, g', nL', Q⟩ := x
  obtain ⟨h1, h2, h3, h4, h5⟩ := h
  obtain rfl : g = g' := h3.symm
  subst hsame
  intro H locs ls hl hP hS
  exact va_get (H := H) (rest := st) h1.1 h1.2.1 h1.2.2.2.2 hin h1.2.2.2.1 h2.1 hP k (fs := fs) (a := g.1 k) (by rw [wW_get hk, hE]) hc fld hf (h1.2.2.2.2 _ hlink) (fun _ z => z) hv hd (kk H locs ls hl hP hS)
theorem x_put (h : Cxk x g cc nL Ts own rm) {k ci index : Nat} {ref C : String} {T : u_T} {N : Nat} {fs : List Value} {v : Value} (fld : Nat) (M' : Nat → Nat → Int32) (P' : Nat → Nat) (ty0 : Nat → FieldType) (hk : k < 158) (hE : enc g M P k = .inr (ci, fs)) (hc : vwCl[ci]? = some (C, T, N)) (hf : fld < N) (hlen : fs.length = N) (hty : ∀ k, k < N → parseFieldDescriptor (T k).2.2.1 = some (ty0 k)) (hnm : ∀ a, a < N → ∀ b, b < N → a ≠ b → (T a).2.1 ≠ (T b).2.1) (hfin : (T fld).2.2.2 = false) (hn : narrow (ty0 fld) v = v) (hfit : fits (ty0 fld) v = true) (hsame : ref = (T fld).1) (hU : va_up (enc g M P) k (.inr (ci, fs.set fld v)) = enc g M' P') (hin : ∀ w ∈ u_ws C T N, w ∈ Ts) (hlink : Cond.fieldLink own index ref (T fld).2.1 (T fld).2.2.1 ∈ Ts) (hd : decode cc pc = .ok (.putfield index, 3)) (kk : X x (pc + 3) lv st M' P') : X x pc lv (v :: .ref (g.1 k) :: st) M P := by
  obtain ⟨⟨p, l, e, R, s⟩, ⟨m, args, below, meth, c⟩, g', nL', Q⟩ := x
  obtain ⟨h1, h2, h3, h4, h5⟩ := h
  obtain rfl : g = g' := h3.symm
  subst hsame
  intro H locs ls hl hP hS
  have q := va_put (m := m) (args := args) (H := H) (rest := st) h1.1 h1.2.1 h1.2.2.2.2 hin ty0 hty hnm h1.2.2.2.1 h2.1 hP (gD h2.2.2.1 _) hS k (fs := fs) (a := g.1 k) (v := v) (by rw [wW_get hk, hE]) hc fld hf (h1.2.2.2.2 _ hlink) (fun _ z => z) hfin (hty fld hf) hn hfit (by rw [hlen]; exact hf) hd (cells := 0) (slots := 0) (p := p) (l := l) (e := e) (R := R) (below := below) (meth := meth) (Q := Q) (ls := ls)
  refine q (fun H1 locs1 hP1 _ hS1 => ?_)
  rw [wW_set hk, hU] at hP1
  exact kk H1 locs1 ls hl hP1 hS1
/-- a static array -/
theorem x_gets (h : Cxk x g cc nL Ts own rm) {index t N : Nat} {n d : String} {f : Nat → Value} (hZ : va_Z "WireDigs" n d (.ref (g.2.2.2 t)) (gA g) x.1.2.2.2.2 x.1.2.2.2.2.heap ∧ va_T .int (g.2.2.2 t) N f (gA g) x.1.2.2.2.2 x.1.2.2.2.2.heap) (hlink : Cond.fieldLink own index "WireDigs" n d ∈ Ts) (hd : decode cc pc = .ok (.getstatic index, 3)) (kk : X x (pc + 3) lv (.ref (g.2.2.2 t) :: st) M P) : X x pc lv st M P := by
  obtain ⟨⟨p, l, e, R, s⟩, ⟨m, args, below, meth, c⟩, g', nL', Q⟩ := x
  obtain ⟨h1, h2, h3, h4, h5⟩ := h
  obtain rfl : g = g' := h3.symm
  intro H locs ls hl hP hS
  exact va_gets (H := H) (rest := st) h1.1 h1.2.1 hZ.1 hS h1.2.2.2.1 (h1.2.2.2.2 _ hlink) (fun _ z => z) hd (kk H locs ls hl hP hS)
theorem x_getsN (h : Cxk x g cc nL Ts own rm) {index t N : Nat} {n d : String} {f : Nat → Value} (hZ : va_Z "WireDigs" n d (.ref (g.2.2.2 t)) (gA g) x.1.2.2.2.2 x.1.2.2.2.2.heap ∧ va_T .int (g.2.2.2 t) N f (gA g) x.1.2.2.2.2 x.1.2.2.2.2.heap) (hlink : va_Nw (.fieldLinkNest own index "WireDigs" n d "WireDigs") x.1.2.2.2.2) (hd : decode cc pc = .ok (.getstatic index, 3)) (kk : X x (pc + 3) lv (.ref (g.2.2.2 t) :: st) M P) : X x pc lv st M P := by
  obtain ⟨⟨p, l, e, R, s⟩, ⟨m, args, below, meth, c⟩, g', nL', Q⟩ := x
  obtain ⟨h1, h2, h3, h4, h5⟩ := h
  obtain rfl : g = g' := h3.symm
  intro H locs ls hl hP hS
  exact va_getsN (H := H) (rest := st) h1.1 h1.2.1 hZ.1 hS h1.2.2.2.1 (va_Nw.use rfl hlink) (fun _ z => z) hd (kk H locs ls hl hP hS)
theorem x_ti (h : Cxk x g cc nL Ts own rm) {t N j : Nat} {f : Nat → Value} (v : Int32) (hT : va_T .int t N f (gA g) x.1.2.2.2.2 x.1.2.2.2.2.heap) (hd : decode cc pc = .ok (.iaload, 1)) (hj : j < N) (hn : N < 2 ^ 31) (hv : f j = .int v) (kk : X x (pc + 1) lv (.int v :: st) M P) : X x pc lv (.int (nI j) :: .ref t :: st) M P := by
  obtain ⟨⟨p, l, e, R, s⟩, ⟨m, args, below, meth, c⟩, g', nL', Q⟩ := x
  obtain ⟨h1, h2, h3, h4, h5⟩ := h
  obtain rfl : g = g' := h3.symm
  intro H locs ls hl hP hS
  exact va_ti (H := H) (rest := st) (i := nI j) h1.1 h1.2.1 hT hS (vp_in_nI hj hn) (v := .int v) (by rw [nI_clamp (by omega), hv]) hd (kk H locs ls hl hP hS)
end HEAP
