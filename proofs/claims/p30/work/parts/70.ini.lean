/-! THE JUDGEMENT Y, for constructors and for the law: a world is a list of cells; N cells and S slots are made so far -/
abbrev iC : Type := (Program × Launch × Env × Room × State) × (MethodId × Array Value × List Frame × Method × Code) × va_G × Nat × (Nat → Prop) × (State → Prop)
def Y (x : iC) (pc : Nat) (lv : List (Nat × Value)) (st : List Value) (ws : va_W) (N S : Nat) : Prop :=
  ∀ (H : Heap) (locs : List Loc) (ls : Array Slot), lv_has ls x.2.2.2.1 lv → va_P x.2.2.1 vwCl ws H → va_D x.2.2.2.2.1 ws → va_S x.2.2.2.2.1 x.1.2.2.2.2.heap H locs → W x.1.1 x.1.2.1 x.1.2.2.1 x.1.2.2.2.1 x.1.2.2.2.2 x.2.1.1 x.2.1.2.1 x.2.1.2.2.1 x.2.1.2.2.2.1 x.2.1.2.2.2.2 H locs N S x.2.2.2.2.2 (F0 x.2.1.1 pc ls st)
def iT (cA : Nat → ClassId) : List (ClassId × FieldType) := [(cA 0, .int), (cA 1, .boolean), (cA 2, .object RX2), (cA 3, .object RX1), (cA 4, .object RX0)]
def iEn (D : va_G) (cA : Nat → ClassId) (U : State) : Prop := va_K D vwCl (iT cA) U ∧ (va_AO RX2 U ∧ va_AO RX1 U ∧ va_AO RX0 U) ∧ va_Nw (.methodLinkNest RX0 27 yX2_init "WireDigs") U ∧ va_Nw (.methodLinkNest RX0 34 yX1_init "WireDigs") U
theorem iEn.warm {D : va_G} {cA : Nat → ClassId} {s U : State} (hW : s.WarmedH U.vm) (h : iEn D cA s) : iEn D cA U := ⟨va_K.moved hW.alike h.1, ⟨va_AO.moved hW.alike h.2.1.1, va_AO.moved hW.alike h.2.1.2.1, va_AO.moved hW.alike h.2.1.2.2⟩, va_Nw.warmM hW h.2.2.1, va_Nw.warmM hW h.2.2.2⟩
theorem iEn.same {D : va_G} {cA : Nat → ClassId} {s U : State} (hv : s.vm = U.vm) (h : iEn D cA s) : iEn D cA U := by
  have ha : s.vm.Alike U.vm := by rw [hv]; exact Vm.Alike.refl U.vm
  exact ⟨va_K.moved ha h.1, ⟨va_AO.moved ha h.2.1.1, va_AO.moved ha h.2.1.2.1, va_AO.moved ha h.2.1.2.2⟩, va_Nw.same rfl hv h.2.2.1, va_Nw.same rfl hv h.2.2.2⟩
def Yk (x : iC) (D : va_G) (cA : Nat → ClassId) (cc : ByteArray) (nL : Nat) (Ts : List Cond) (own : String) (rm : Room) : Prop :=
  CallFix x.1.1 x.2.1.1 x.2.1.2.2.2.2 cc nL x.1.2.2.2.2 x.2.1.2.1 Ts own ∧ (iEn D cA x.1.2.2.2.2 ∧ ∀ q : Nat, x.1.2.2.2.2.heap.size ≤ q → x.2.2.2.2.1 q) ∧ x.2.2.1 = D ∧ x.2.2.2.1 = nL ∧ x.1.2.2.2.1 = rm
/-! worlds in another order -/
theorem va_P_iff {D : va_G} {cl : List vw_C} {ws : va_W} {H : Heap} : va_P D cl ws H ↔ ∀ q ∈ ws, va_at D cl q H := by
  refine ⟨fun h q hq => ?_, fun h k q hk => h q (List.mem_of_getElem? hk)⟩
  obtain ⟨k, hk⟩ := List.getElem?_of_mem hq
  exact h k q hk
theorem va_P.perm {D : va_G} {cl : List vw_C} {ws ws' : va_W} {H : Heap} (hp : ws.Perm ws') (h : va_P D cl ws H) : va_P D cl ws' H := va_P_iff.mpr (fun q hq => va_P_iff.mp h q (hp.mem_iff.mpr hq))
theorem va_D_iff {A : Nat → Prop} {ws : va_W} : va_D A ws ↔ (ws.map Prod.fst).Nodup ∧ ∀ q ∈ ws, A q.1 := by
  constructor
  · intro h
    refine ⟨?_, fun q hq => ?_⟩
    · refine List.pairwise_iff_getElem.mpr (fun i j hi hj hij he => ?_)
      rw [List.length_map] at hi hj
      rw [List.getElem_map, List.getElem_map] at he
      have := h.1 i j _ _ (List.getElem?_eq_getElem hi) (List.getElem?_eq_getElem hj) he
      omega
    · obtain ⟨k, hk⟩ := List.getElem?_of_mem hq
      exact h.2 k q hk
  · intro h
    refine ⟨fun i j p q hi hj hpq => ?_, fun k q hk => h.2 q (List.mem_of_getElem? hk)⟩
    have hn := List.pairwise_iff_getElem.mp h.1
    obtain ⟨hil, rfl⟩ := List.getElem?_eq_some_iff.mp hi
    obtain ⟨hjl, rfl⟩ := List.getElem?_eq_some_iff.mp hj
    rcases Nat.lt_trichotomy i j with hc | hc | hc
    · exact absurd (by rw [List.getElem_map, List.getElem_map]; exact hpq) (hn i j (by rw [List.length_map]; exact hil) (by rw [List.length_map]; exact hjl) hc)
    · exact hc
    · exact absurd (by rw [List.getElem_map, List.getElem_map]; exact hpq.symm) (hn j i (by rw [List.length_map]; exact hjl) (by rw [List.length_map]; exact hil) hc)
theorem va_D.perm {A : Nat → Prop} {ws ws' : va_W} (hp : ws.Perm ws') (h : va_D A ws) : va_D A ws' := by
  rw [va_D_iff] at h ⊢
  exact ⟨((hp.map Prod.fst).nodup_iff).mp h.1, fun q hq => h.2 q (hp.mem_iff.mpr hq)⟩
theorem pm_init {α : Type} (c : α) (tl X pl : List α) : ((c :: tl) ++ (X ++ pl)).Perm ((X ++ [c]) ++ (tl ++ pl)) := by
  have h1 : (tl ++ (X ++ pl)).Perm (X ++ (tl ++ pl)) := List.perm_append_comm_assoc tl X pl
  have h2 : (X ++ c :: (tl ++ pl)).Perm (c :: (X ++ (tl ++ pl))) := List.perm_middle
  rw [List.cons_append, List.append_assoc, List.cons_append, List.nil_append]
  exact (List.Perm.cons c h1).trans h2.symm
theorem pm_new {α : Type} (c : α) (X pl : List α) : ((X ++ pl) ++ [c]).Perm ((X ++ [c]) ++ pl) := by
  rw [List.append_assoc, List.append_assoc]
  exact List.Perm.append_left X List.perm_append_comm
/-! an array's cell tells only what lies in it -/
theorem arrV_cg {cA : ClassId} {N : Nat} {f f' : Nat → Value} (h : ∀ j, j < N → f j = f' j) : arrV cA N f = arrV cA N f' := by
  unfold arrV
  have : (fun j : Fin N => f j.val) = (fun j : Fin N => f' j.val) := funext fun j => h j.val j.isLt
  rw [this]
theorem at_i {D : va_G} {cl : List vw_C} {a N : Nat} {c : ClassId} {f f' : Nat → Int32} (h : ∀ j, j < N → f j = f' j) {H : Heap} (hp : va_at D cl (a, .inl (c, N, .inl f)) H) : va_at D cl (a, .inl (c, N, .inl f')) H := by
  have e : arrV c N (fun j => .int (f j)) = arrV c N (fun j => .int (f' j)) := arrV_cg (fun j hj => by rw [h j hj])
  show H[a]? = some (vp_cell c (N, .inl f'))
  rw [vp_cell_i, ← e]
  exact hp
theorem at_q {D : va_G} {cl : List vw_C} {a N : Nat} {c : ClassId} {f f' : Nat → Option Nat} (h : ∀ j, j < N → f j = f' j) {H : Heap} (hp : va_at D cl (a, .inl (c, N, .inr (.inr (.inr (.inr f))))) H) : va_at D cl (a, .inl (c, N, .inr (.inr (.inr (.inr f'))))) H := by
  have e : arrV c N (fun j => va_rf (f j)) = arrV c N (fun j => va_rf (f' j)) := arrV_cg (fun j hj => by rw [h j hj])
  show H[a]? = some (vp_cell c (N, .inr (.inr (.inr (.inr f')))))
  rw [vp_cell_q, ← e]
  exact hp
section YROWS
variable {x : iC} {D : va_G} {cA : Nat → ClassId} {cc : ByteArray} {nL : Nat} {Ts : List Cond} {own : String} {rm : Room} {pc : Nat} {lv lv' : List (Nat × Value)} {st : List Value} {ws : va_W} {N S : Nat}
theorem y_lv (k : Y x pc lv' st ws N S) (is : List Nat) (hl : lv_pick lv is = lv') : Y x pc lv st ws N S := fun H locs ls h1 h2 h3 h4 => k H locs ls (lv_sub h1 is hl) h2 h3 h4
theorem y_iconst (h : Yk x D cA cc nL Ts own rm) {n : Int} (v : Int32) (hd : decode cc pc = .ok (.iconst n, 1)) (hv : Int32.ofInt n = v) (k : Y x (pc + 1) lv (.int v :: st) ws N S) : Y x pc lv st ws N S := fun H locs ls h1 h2 h3 h4 => lv_iconst h.1.1 h.1.2.1 hd hv (k H locs ls h1 h2 h3 h4)
theorem y_bipush (h : Yk x D cA cc nL Ts own rm) {n : Int} (v : Int32) (hd : decode cc pc = .ok (.bipush n, 2)) (hv : (Int8.ofInt n).toInt32 = v) (k : Y x (pc + 2) lv (.int v :: st) ws N S) : Y x pc lv st ws N S := fun H locs ls h1 h2 h3 h4 => lv_bipush h.1.1 h.1.2.1 hd hv (k H locs ls h1 h2 h3 h4)
theorem y_sipush (h : Yk x D cA cc nL Ts own rm) {n : Int} (v : Int32) (hd : decode cc pc = .ok (.sipush n, 3)) (hv : (Int16.ofInt n).toInt32 = v) (k : Y x (pc + 3) lv (.int v :: st) ws N S) : Y x pc lv st ws N S := fun H locs ls h1 h2 h3 h4 => lv_sipush h.1.1 h.1.2.1 hd hv (k H locs ls h1 h2 h3 h4)
theorem y_iload (h : Yk x D cA cc nL Ts own rm) {i : Nat} (q : Nat) {v : Int32} (hd : decode cc pc = .ok (.iload i, 2)) (hq : lv[q]? = some (i, .int v)) (k : Y x (pc + 2) lv (.int v :: st) ws N S) : Y x pc lv st ws N S := fun H locs ls h1 h2 h3 h4 => lv_iload h.1.1 h.1.2.1 hd (lv_at h1 q hq) (k H locs ls h1 h2 h3 h4)
theorem y_iload_n (h : Yk x D cA cc nL Ts own rm) {n : Fin 4} {i : Nat} (q : Nat) {v : Int32} (hd : decode cc pc = .ok (.iload_n n, 1)) (hi : (n : Nat) = i) (hq : lv[q]? = some (i, .int v)) (k : Y x (pc + 1) lv (.int v :: st) ws N S) : Y x pc lv st ws N S := fun H locs ls h1 h2 h3 h4 => lv_iload_n h.1.1 h.1.2.1 hd hi (lv_at h1 q hq) (k H locs ls h1 h2 h3 h4)
theorem y_aload (h : Yk x D cA cc nL Ts own rm) {i : Nat} (q : Nat) {v : Nat} (hd : decode cc pc = .ok (.aload i, 2)) (hq : lv[q]? = some (i, .ref v)) (k : Y x (pc + 2) lv (.ref v :: st) ws N S) : Y x pc lv st ws N S := fun H locs ls h1 h2 h3 h4 => lv_aload h.1.1 h.1.2.1 hd (lv_at h1 q hq) (k H locs ls h1 h2 h3 h4)
theorem y_aload_n (h : Yk x D cA cc nL Ts own rm) {n : Fin 4} {i : Nat} (q : Nat) {v : Nat} (hd : decode cc pc = .ok (.aload_n n, 1)) (hi : (n : Nat) = i) (hq : lv[q]? = some (i, .ref v)) (k : Y x (pc + 1) lv (.ref v :: st) ws N S) : Y x pc lv st ws N S := fun H locs ls h1 h2 h3 h4 => lv_aload_n h.1.1 h.1.2.1 hd hi (lv_at h1 q hq) (k H locs ls h1 h2 h3 h4)
theorem y_istore (h : Yk x D cA cc nL Ts own rm) {i : Nat} {v : Int32} (lv' : List (Nat × Value)) (hd : decode cc pc = .ok (.istore i, 2)) (hi : i < nL) (hl : (i, Value.int v) :: lv.filter (fun q => !(q.1 == i) && !(q.1 + 1 == i && q.2.category == 2)) = lv') (k : Y x (pc + 2) lv' st ws N S) : Y x pc lv (.int v :: st) ws N S := fun H locs ls h1 h2 h3 h4 => lv_istore h.1.1 h.1.2.1 hd h1 (by rw [h.2.2.2.1]; exact hi) hl (fun ls' hl' => k H locs ls' hl' h2 h3 h4)
theorem y_istore_n (h : Yk x D cA cc nL Ts own rm) {n : Fin 4} {i : Nat} {v : Int32} (lv' : List (Nat × Value)) (hd : decode cc pc = .ok (.istore_n n, 1)) (hni : (n : Nat) = i) (hi : i < nL) (hl : (i, Value.int v) :: lv.filter (fun q => !(q.1 == i) && !(q.1 + 1 == i && q.2.category == 2)) = lv') (k : Y x (pc + 1) lv' st ws N S) : Y x pc lv (.int v :: st) ws N S := fun H locs ls h1 h2 h3 h4 => lv_istore_n h.1.1 h.1.2.1 hd hni h1 (by rw [h.2.2.2.1]; exact hi) hl (fun ls' hl' => k H locs ls' hl' h2 h3 h4)
theorem y_astore (h : Yk x D cA cc nL Ts own rm) {i : Nat} {v : Nat} (lv' : List (Nat × Value)) (hd : decode cc pc = .ok (.astore i, 2)) (hi : i < nL) (hl : (i, Value.ref v) :: lv.filter (fun q => !(q.1 == i) && !(q.1 + 1 == i && q.2.category == 2)) = lv') (k : Y x (pc + 2) lv' st ws N S) : Y x pc lv (.ref v :: st) ws N S := fun H locs ls h1 h2 h3 h4 => lv_astore h.1.1 h.1.2.1 hd h1 (by rw [h.2.2.2.1]; exact hi) hl (fun ls' hl' => k H locs ls' hl' h2 h3 h4)
theorem y_astore_n (h : Yk x D cA cc nL Ts own rm) {n : Fin 4} {i : Nat} {v : Nat} (lv' : List (Nat × Value)) (hd : decode cc pc = .ok (.astore_n n, 1)) (hni : (n : Nat) = i) (hi : i < nL) (hl : (i, Value.ref v) :: lv.filter (fun q => !(q.1 == i) && !(q.1 + 1 == i && q.2.category == 2)) = lv') (k : Y x (pc + 1) lv' st ws N S) : Y x pc lv (.ref v :: st) ws N S := fun H locs ls h1 h2 h3 h4 => lv_astore_n h.1.1 h.1.2.1 hd hni h1 (by rw [h.2.2.2.1]; exact hi) hl (fun ls' hl' => k H locs ls' hl' h2 h3 h4)
theorem y_iinc (h : Yk x D cA cc nL Ts own rm) {i : Nat} (q : Nat) {n : Int} {a v : Int32} (lv' : List (Nat × Value)) (hd : decode cc pc = .ok (.iinc i n, 3)) (hq : lv[q]? = some (i, .int a)) (hv : a + Int32.ofInt n = v) (hi : i < nL) (hl : (i, Value.int v) :: lv.filter (fun q => !(q.1 == i) && !(q.1 + 1 == i && q.2.category == 2)) = lv') (k : Y x (pc + 3) lv' st ws N S) : Y x pc lv st ws N S := fun H locs ls h1 h2 h3 h4 => lv_iinc h.1.1 h.1.2.1 hd h1 hq hv (by rw [h.2.2.2.1]; exact hi) hl (fun ls' hl' => k H locs ls' hl' h2 h3 h4)
theorem y_iadd (h : Yk x D cA cc nL Ts own rm) {a b : Int32} (hd : decode cc pc = .ok (.iadd, 1)) (k : Y x (pc + 1) lv (.int (a + b) :: st) ws N S) : Y x pc lv (.int b :: .int a :: st) ws N S := fun H locs ls h1 h2 h3 h4 => lv_iadd h.1.1 h.1.2.1 hd (k H locs ls h1 h2 h3 h4)
theorem y_isub (h : Yk x D cA cc nL Ts own rm) {a b : Int32} (hd : decode cc pc = .ok (.isub, 1)) (k : Y x (pc + 1) lv (.int (a - b) :: st) ws N S) : Y x pc lv (.int b :: .int a :: st) ws N S := fun H locs ls h1 h2 h3 h4 => lv_isub h.1.1 h.1.2.1 hd (k H locs ls h1 h2 h3 h4)
theorem y_imul (h : Yk x D cA cc nL Ts own rm) {a b : Int32} (hd : decode cc pc = .ok (.imul, 1)) (k : Y x (pc + 1) lv (.int (a * b) :: st) ws N S) : Y x pc lv (.int b :: .int a :: st) ws N S := fun H locs ls h1 h2 h3 h4 => lv_imul h.1.1 h.1.2.1 hd (k H locs ls h1 h2 h3 h4)
theorem y_iand (h : Yk x D cA cc nL Ts own rm) {a b : Int32} (hd : decode cc pc = .ok (.iand, 1)) (k : Y x (pc + 1) lv (.int (a &&& b) :: st) ws N S) : Y x pc lv (.int b :: .int a :: st) ws N S := fun H locs ls h1 h2 h3 h4 => lv_iand h.1.1 h.1.2.1 hd (k H locs ls h1 h2 h3 h4)
theorem y_irem (h : Yk x D cA cc nL Ts own rm) {a b : Int32} (hd : decode cc pc = .ok (.irem, 1)) (hb : ¬ b = 0) (k : Y x (pc + 1) lv (.int (a - a / b * b) :: st) ws N S) : Y x pc lv (.int b :: .int a :: st) ws N S := fun H locs ls h1 h2 h3 h4 => lv_irem h.1.1 h.1.2.1 hd hb (k H locs ls h1 h2 h3 h4)
theorem y_iadd_n (h : Yk x D cA cc nL Ts own rm) {a b : Nat} (hd : decode cc pc = .ok (.iadd, 1)) (k : Y x (pc + 1) lv (.int (nI (a + b)) :: st) ws N S) : Y x pc lv (.int (nI b) :: .int (nI a) :: st) ws N S := y_iadd h hd (by rw [nI_add]; exact k)
theorem y_isub_n (h : Yk x D cA cc nL Ts own rm) {a b : Nat} (hd : decode cc pc = .ok (.isub, 1)) (hb : b ≤ a) (k : Y x (pc + 1) lv (.int (nI (a - b)) :: st) ws N S) : Y x pc lv (.int (nI b) :: .int (nI a) :: st) ws N S := y_isub h hd (by rw [pk_sub hb]; exact k)
theorem y_imul_n (h : Yk x D cA cc nL Ts own rm) {a b : Nat} (hd : decode cc pc = .ok (.imul, 1)) (k : Y x (pc + 1) lv (.int (nI (a * b)) :: st) ws N S) : Y x pc lv (.int (nI b) :: .int (nI a) :: st) ws N S := y_imul h hd (by rw [pk_mul]; exact k)
theorem y_irem_n (h : Yk x D cA cc nL Ts own rm) {a b : Nat} (hd : decode cc pc = .ok (.irem, 1)) (ha : a < 2 ^ 31) (h0 : 0 < b) (hb : b < 2 ^ 31) (k : Y x (pc + 1) lv (.int (nI (a % b)) :: st) ws N S) : Y x pc lv (.int (nI b) :: .int (nI a) :: st) ws N S := y_irem h hd (nI_ne0 h0 hb) (by rw [pk_rem ha h0 hb]; exact k)
theorem y_iinc_n (h : Yk x D cA cc nL Ts own rm) {i : Nat} (q : Nat) {n : Nat} {a : Nat} (lv' : List (Nat × Value)) (hd : decode cc pc = .ok (.iinc i (n : Int), 3)) (hq : lv[q]? = some (i, .int (nI a))) (hi : i < nL) (hl : (i, Value.int (nI (a + n))) :: lv.filter (fun q => !(q.1 == i) && !(q.1 + 1 == i && q.2.category == 2)) = lv') (k : Y x (pc + 3) lv' st ws N S) : Y x pc lv st ws N S := y_iinc h q lv' hd hq (by rw [show Int32.ofInt (n : Int) = nI n from rfl, nI_add]) hi hl k
theorem y_top (w : Int32) {v : Int32} (hv : v = w) (k : Y x pc lv (.int w :: st) ws N S) : Y x pc lv (.int v :: st) ws N S := hv ▸ k
theorem y_goto (h : Yk x D cA cc nL Ts own rm) {off : Int} (tgt : Nat) (hd : decode cc pc = .ok (.goto off, 3)) (ht : (pc : Int) + off = (tgt : Int)) (k : Y x tgt lv st ws N S) : Y x pc lv st ws N S := fun H locs ls h1 h2 h3 h4 => lv_goto h.1.1 h.1.2.1 hd ht (k H locs ls h1 h2 h3 h4)
theorem y_dup (h : Yk x D cA cc nL Ts own rm) {v : Value} (hd : decode cc pc = .ok (.dup, 1)) (hv : v.category = 1) (k : Y x (pc + 1) lv (v :: v :: st) ws N S) : Y x pc lv (v :: st) ws N S := fun H locs ls h1 h2 h3 h4 => lv_dup h.1.1 h.1.2.1 hd hv (k H locs ls h1 h2 h3 h4)
theorem y_icmp_eq (h : Yk x D cA cc nL Ts own rm) {a b : Int32} {off : Int} (tgt : Nat) (hd : decode cc pc = .ok (.if_icmp .eq off, 3)) (ht : (pc : Int) + off = (tgt : Int)) (kt : a = b → Y x tgt lv st ws N S) (kf : ¬ a = b → Y x (pc + 3) lv st ws N S) : Y x pc lv (.int b :: .int a :: st) ws N S := fun H locs ls h1 h2 h3 h4 => lv_icmp_eq h.1.1 h.1.2.1 hd ht (fun c => kt c H locs ls h1 h2 h3 h4) (fun c => kf c H locs ls h1 h2 h3 h4)
theorem y_icmp_lt (h : Yk x D cA cc nL Ts own rm) {a b : Int32} {off : Int} (tgt : Nat) (hd : decode cc pc = .ok (.if_icmp .lt off, 3)) (ht : (pc : Int) + off = (tgt : Int)) (kt : a < b → Y x tgt lv st ws N S) (kf : ¬ a < b → Y x (pc + 3) lv st ws N S) : Y x pc lv (.int b :: .int a :: st) ws N S := fun H locs ls h1 h2 h3 h4 => lv_icmp_lt h.1.1 h.1.2.1 hd ht (fun c => kt c H locs ls h1 h2 h3 h4) (fun c => kf c H locs ls h1 h2 h3 h4)
theorem y_icmp_ge (h : Yk x D cA cc nL Ts own rm) {a b : Int32} {off : Int} (tgt : Nat) (hd : decode cc pc = .ok (.if_icmp .ge off, 3)) (ht : (pc : Int) + off = (tgt : Int)) (kt : b ≤ a → Y x tgt lv st ws N S) (kf : ¬ b ≤ a → Y x (pc + 3) lv st ws N S) : Y x pc lv (.int b :: .int a :: st) ws N S := fun H locs ls h1 h2 h3 h4 => lv_icmp_ge h.1.1 h.1.2.1 hd ht (fun c => kt c H locs ls h1 h2 h3 h4) (fun c => kf c H locs ls h1 h2 h3 h4)
theorem y_icmp_gt (h : Yk x D cA cc nL Ts own rm) {a b : Int32} {off : Int} (tgt : Nat) (hd : decode cc pc = .ok (.if_icmp .gt off, 3)) (ht : (pc : Int) + off = (tgt : Int)) (kt : b < a → Y x tgt lv st ws N S) (kf : ¬ b < a → Y x (pc + 3) lv st ws N S) : Y x pc lv (.int b :: .int a :: st) ws N S := fun H locs ls h1 h2 h3 h4 => lv_icmp_gt h.1.1 h.1.2.1 hd ht (fun c => kt c H locs ls h1 h2 h3 h4) (fun c => kf c H locs ls h1 h2 h3 h4)
theorem y_if_le (h : Yk x D cA cc nL Ts own rm) {a : Int32} {off : Int} (tgt : Nat) (hd : decode cc pc = .ok (.ifCond .le off, 3)) (ht : (pc : Int) + off = (tgt : Int)) (kt : a ≤ 0 → Y x tgt lv st ws N S) (kf : ¬ a ≤ 0 → Y x (pc + 3) lv st ws N S) : Y x pc lv (.int a :: st) ws N S := fun H locs ls h1 h2 h3 h4 => lv_if_le h.1.1 h.1.2.1 hd ht (fun c => kt c H locs ls h1 h2 h3 h4) (fun c => kf c H locs ls h1 h2 h3 h4)
theorem y_icmp_lt_n (h : Yk x D cA cc nL Ts own rm) {a b : Nat} {off : Int} (tgt : Nat) (hd : decode cc pc = .ok (.if_icmp .lt off, 3)) (ht : (pc : Int) + off = (tgt : Int)) (ha : a < 2 ^ 31) (hb : b < 2 ^ 31) (kt : a < b → Y x tgt lv st ws N S) (kf : b ≤ a → Y x (pc + 3) lv st ws N S) : Y x pc lv (.int (nI b) :: .int (nI a) :: st) ws N S := y_icmp_lt h tgt hd ht (fun c => kt ((nI_ltI ha hb).mp c)) (fun c => kf (Nat.not_lt.mp (fun e => c ((nI_ltI ha hb).mpr e))))
theorem y_icmp_ge_n (h : Yk x D cA cc nL Ts own rm) {a b : Nat} {off : Int} (tgt : Nat) (hd : decode cc pc = .ok (.if_icmp .ge off, 3)) (ht : (pc : Int) + off = (tgt : Int)) (ha : a < 2 ^ 31) (hb : b < 2 ^ 31) (kt : b ≤ a → Y x tgt lv st ws N S) (kf : a < b → Y x (pc + 3) lv st ws N S) : Y x pc lv (.int (nI b) :: .int (nI a) :: st) ws N S := y_icmp_ge h tgt hd ht (fun c => kt ((nI_leI hb ha).mp c)) (fun c => kf (Nat.not_le.mp (fun e => c ((nI_leI hb ha).mpr e))))
theorem y_icmp_gt_n (h : Yk x D cA cc nL Ts own rm) {a b : Nat} {off : Int} (tgt : Nat) (hd : decode cc pc = .ok (.if_icmp .gt off, 3)) (ht : (pc : Int) + off = (tgt : Int)) (ha : a < 2 ^ 31) (hb : b < 2 ^ 31) (kt : b < a → Y x tgt lv st ws N S) (kf : a ≤ b → Y x (pc + 3) lv st ws N S) : Y x pc lv (.int (nI b) :: .int (nI a) :: st) ws N S := y_icmp_gt h tgt hd ht (fun c => kt ((nI_ltI hb ha).mp c)) (fun c => kf (Nat.not_lt.mp (fun e => c ((nI_ltI hb ha).mpr e))))
theorem y_if_le_n (h : Yk x D cA cc nL Ts own rm) {a : Nat} {off : Int} (tgt : Nat) (hd : decode cc pc = .ok (.ifCond .le off, 3)) (ht : (pc : Int) + off = (tgt : Int)) (ha : a < 2 ^ 31) (kt : a = 0 → Y x tgt lv st ws N S) (kf : 0 < a → Y x (pc + 3) lv st ws N S) : Y x pc lv (.int (nI a) :: st) ws N S := y_if_le h tgt hd ht (fun c => kt (Nat.eq_zero_of_not_pos (fun e => nI_nle e ha c))) (fun c => kf (Nat.pos_of_ne_zero (fun e => c (by subst e; decide))))
theorem y_to (ws' : va_W) (e : ws = ws') (k : Y x pc lv st ws' N S) : Y x pc lv st ws N S := e ▸ k
theorem y_pm {ws' : va_W} (hp : ws.Perm ws') (k : Y x pc lv st ws' N S) : Y x pc lv st ws N S := fun H locs ls h1 h2 h3 h4 => k H locs ls h1 (h2.perm hp) (h3.perm hp) h4
theorem y_at (i : Nat) {a : Nat} {e e' : va_E} (he : ws[i]? = some (a, e)) (hh : ∀ H, va_at x.2.2.1 vwCl (a, e) H → va_at x.2.2.1 vwCl (a, e') H) (k : Y x pc lv st (ws.set i (a, e')) N S) : Y x pc lv st ws N S := fun H locs ls h1 h2 h3 h4 => k H locs ls h1 (h2.set h3 he (hh H (h2 i _ he)) (fun _ _ => rfl)) (h3.set he) h4
theorem y_ati (i : Nat) {a n : Nat} {c : ClassId} {f : Nat → Int32} (f' : Nat → Int32) (he : ws[i]? = some (a, .inl (c, n, .inl f))) (hf : ∀ j, j < n → f j = f' j) (k : Y x pc lv st (ws.set i (a, .inl (c, n, .inl f'))) N S) : Y x pc lv st ws N S := y_at i he (fun _ => at_i hf) k
theorem y_atq (i : Nat) {a n : Nat} {c : ClassId} {f : Nat → Option Nat} (f' : Nat → Option Nat) (he : ws[i]? = some (a, .inl (c, n, .inr (.inr (.inr (.inr f)))))) (hf : ∀ j, j < n → f j = f' j) (k : Y x pc lv st (ws.set i (a, .inl (c, n, .inr (.inr (.inr (.inr f')))))) N S) : Y x pc lv st ws N S := y_at i he (fun _ => at_q hf) k
theorem y_objInit (h : Yk x D cA cc nL Ts own rm) {a idx : Nat} (hl : .methodLink own idx objectInit ∈ Ts) (hi : .instanceMethod objectInit ∈ Ts) (hc : .code objectInit ⟨#[0xb1]⟩ 1 none ∈ Ts) (hf : 1 ≤ rm.frames) (hr : (st.map fun v => v.category).sum + 12 ≤ rm.locals) (hd : decode cc pc = .ok (.invokespecial idx, 3)) (k : Y x (pc + 3) lv st ws N S) : Y x pc lv (.ref a :: st) ws N S := by
  obtain ⟨⟨p, l', e, R, s⟩, ⟨m, args, below, meth, c⟩, D', nL', A, Q⟩ := x
  obtain ⟨⟨hx, hb, hml, hown, hts⟩, -, -, h4, h5⟩ := h
  obtain rfl : nL = nL' := h4.symm
  obtain rfl : rm = R := h5.symm
  intro H locs ls h1 h2 h3 h6
  exact W.objInit hx hb hown (hts _ hl) (hts _ hi) (hts _ hc) rfl ((h1.1).trans hml.symm) rfl hd hf (show 2 * 0 + (st.map fun v => v.category).sum + 12 ≤ rm.locals by omega) (k H locs ls h1 h2 h3 h6)
theorem y_new (h : Yk x D cA cc nL Ts own rm) {C : String} {T : u_T} {n : Nat} (ci : Nat) (fs : List Value) {index : Nat} (hin : ∀ w ∈ u_ws C T n, w ∈ Ts) {ty : Nat → FieldType} (hty : ∀ k, k < n → parseFieldDescriptor (T k).2.2.1 = some (ty k)) (hcl : .classLink own index C ∈ Ts) (hinst : .instantiable C n ∈ Ts) (hini : .initialized C ∈ Ts) (hc : vwCl[ci]? = some (C, T, n)) (hfs : ∀ j, j < n → defaultValue (ty j) = vp_V fs j) (hN : N + 1 ≤ rm.cells) (hS : S + n ≤ rm.slots) (hd : decode cc pc = .ok (.new index, 3))
    (k : ∀ q : Nat, Y x (pc + 3) lv (.ref q :: st) (ws ++ [(q, .inr (ci, fs))]) (N + 1) (S + n)) : Y x pc lv st ws N S := by
  obtain ⟨⟨p, l', e, R, s⟩, ⟨m, args, below, meth, c⟩, D', nL', A, Q⟩ := x
  obtain ⟨⟨hx, hb, hml, hown, hts⟩, ⟨⟨hK, -⟩, hA⟩, h3, h4, h5⟩ := h
  obtain rfl : D = D' := h3.symm
  obtain rfl : nL = nL' := h4.symm
  obtain rfl : rm = R := h5.symm
  intro H locs ls g1 g2 g3 g4
  exact va_new hx hb hts hin ty hty hown (hts _ hcl) (hts _ hinst) (hts _ hini) hK g2 g3 g4 hA hc hfs hN hS hd (fun q H1 hP hD hS => k q H1 locs ls g1 hP hD hS)
theorem y_newi (h : Yk x D cA cc nL Ts own rm) (n : Nat) {v : Int32} (hv : v = nI n) (hn : n < 2 ^ 27) (hw : .arrayClass .int ∈ Ts) (hN : N + 1 ≤ rm.cells) (hS : S + n ≤ rm.slots) (hd : decode cc pc = .ok (.newarray .int, 2))
    (k : ∀ q : Nat, Y x (pc + 2) lv (.ref q :: st) (ws ++ [(q, .inl (cA 0, n, .inl (fun _ => 0)))]) (N + 1) (S + n)) : Y x pc lv (.int v :: st) ws N S := by
  obtain ⟨⟨p, l', e, R, s⟩, ⟨m, args, below, meth, c⟩, D', nL', A, Q⟩ := x
  obtain ⟨⟨hx, hb, hml, hown, hts⟩, ⟨⟨hK, -⟩, hA⟩, h3, h4, h5⟩ := h
  obtain rfl : D = D' := h3.symm
  obtain rfl : nL = nL' := h4.symm
  obtain rfl : rm = R := h5.symm
  subst hv
  intro H locs ls g1 g2 g3 g4
  refine va_newa (atype := .int) (ty := .int) (a0 := (n, .inl (fun _ => 0))) (N' := n) hx hb (hts _ hw) rfl hK g2 g3 g4 hA (fun _ => rfl) (nI_pos (by omega)) (nI_clamp (by omega)) (by show n * 4 ≤ _; omega) hN hS hd (fun q c' H1 hK1 hP hD hS => ?_)
  have e1 : s.vm.findClass ("[" ++ FieldType.int.toString) = some c' := (hK1.2 5 (c', .int) rfl).2
  have e2 : s.vm.findClass ("[" ++ FieldType.int.toString) = some (cA 0) := (hK.2 0 (cA 0, .int) rfl).2
  obtain rfl : c' = cA 0 := Option.some.inj (e1.symm.trans e2)
  exact k q H1 locs ls g1 hP hD hS
theorem y_newz (h : Yk x D cA cc nL Ts own rm) (n : Nat) {v : Int32} (hv : v = nI n) (hn : n < 2 ^ 27) (hw : .arrayClass .boolean ∈ Ts) (hN : N + 1 ≤ rm.cells) (hS : S + n ≤ rm.slots) (hd : decode cc pc = .ok (.newarray .boolean, 2))
    (k : ∀ q : Nat, Y x (pc + 2) lv (.ref q :: st) (ws ++ [(q, .inl (cA 1, n, .inl (fun _ => 0)))]) (N + 1) (S + n)) : Y x pc lv (.int v :: st) ws N S := by
  obtain ⟨⟨p, l', e, R, s⟩, ⟨m, args, below, meth, c⟩, D', nL', A, Q⟩ := x
  obtain ⟨⟨hx, hb, hml, hown, hts⟩, ⟨⟨hK, -⟩, hA⟩, h3, h4, h5⟩ := h
  obtain rfl : D = D' := h3.symm
  obtain rfl : nL = nL' := h4.symm
  obtain rfl : rm = R := h5.symm
  subst hv
  intro H locs ls g1 g2 g3 g4
  refine va_newa (atype := .boolean) (ty := .boolean) (a0 := (n, .inl (fun _ => 0))) (N' := n) hx hb (hts _ hw) rfl hK g2 g3 g4 hA (fun _ => rfl) (nI_pos (by omega)) (nI_clamp (by omega)) (by show n * 1 ≤ _; omega) hN hS hd (fun q c' H1 hK1 hP hD hS => ?_)
  have e1 : s.vm.findClass ("[" ++ FieldType.boolean.toString) = some c' := (hK1.2 5 (c', .boolean) rfl).2
  have e2 : s.vm.findClass ("[" ++ FieldType.boolean.toString) = some (cA 1) := (hK.2 1 (cA 1, .boolean) rfl).2
  obtain rfl : c' = cA 1 := Option.some.inj (e1.symm.trans e2)
  exact k q H1 locs ls g1 hP hD hS
theorem y_newq (h : Yk x D cA cc nL Ts own rm) (i : Nat) {C : String} {index : Nat} (n : Nat) {v : Int32} (hv : v = nI n) (hn : n < 2 ^ 27) (hi : (iT cA)[i]? = some (cA i, .object C)) (hcl : .classLink own index C ∈ Ts) (ho : va_AO C x.1.2.2.2.2) (hN : N + 1 ≤ rm.cells) (hS : S + n ≤ rm.slots) (hd : decode cc pc = .ok (.anewarray index, 3))
    (k : ∀ q : Nat, Y x (pc + 3) lv (.ref q :: st) (ws ++ [(q, .inl (cA i, n, .inr (.inr (.inr (.inr (fun _ => none))))))]) (N + 1) (S + n)) : Y x pc lv (.int v :: st) ws N S := by
  obtain ⟨⟨p, l', e, R, s⟩, ⟨m, args, below, meth, c⟩, D', nL', A, Q⟩ := x
  obtain ⟨⟨hx, hb, hml, hown, hts⟩, ⟨⟨hK, -⟩, hA⟩, h3, h4, h5⟩ := h
  obtain rfl : D = D' := h3.symm
  obtain rfl : nL = nL' := h4.symm
  obtain rfl : rm = R := h5.symm
  subst hv
  intro H locs ls g1 g2 g3 g4
  refine va_newq hx hb hown (hts _ hcl) ho hK g2 g3 g4 hA (nI_pos (by omega)) (nI_clamp (by omega)) (by omega) hN hS hd (fun q c' H1 hK1 hP hD hS => ?_)
  obtain ⟨_, _, _, _, _, e1⟩ := (hK1.2 5 (c', .object C) rfl).2
  obtain ⟨_, _, _, _, _, e2⟩ := (hK.2 i (cA i, .object C) hi).2
  obtain rfl : c' = cA i := Option.some.inj (e1.symm.trans e2)
  exact k q H1 locs ls g1 hP hD hS
theorem y_get (h : Yk x D cA cc nL Ts own rm) {C : String} {T : u_T} {n : Nat} {index : Nat} (q0 ci : Nat) {a : Nat} {fs : List Value} (he : ws[q0]? = some (a, .inr (ci, fs))) (hc : vwCl[ci]? = some (C, T, n)) (hin : ∀ w ∈ u_ws C T n, w ∈ Ts) (j : Nat) (hj : j < n) (hlink : .fieldLink own index (T j).1 (T j).2.1 (T j).2.2.1 ∈ Ts) {v : Value} (hv : fs[j]? = some v) (hd : decode cc pc = .ok (.getfield index, 3)) (k : Y x (pc + 3) lv (v :: st) ws N S) : Y x pc lv (.ref a :: st) ws N S := by
  obtain ⟨⟨p, l', e, R, s⟩, ⟨m, args, below, meth, c⟩, D', nL', A, Q⟩ := x
  obtain ⟨⟨hx, hb, hml, hown, hts⟩, ⟨⟨hK, -⟩, hA⟩, h3, h4, h5⟩ := h
  obtain rfl : D = D' := h3.symm
  intro H locs ls g1 g2 g3 g4
  exact va_get hx hb hts hin hown hK g2 q0 he hc j hj (hts _ hlink) (fun _ h9 => h9) hv hd (k H locs ls g1 g2 g3 g4)
theorem y_put (h : Yk x D cA cc nL Ts own rm) {C : String} {T : u_T} {n : Nat} {index : Nat} (q0 ci : Nat) {a : Nat} {fs : List Value} (he : ws[q0]? = some (a, .inr (ci, fs))) (hc : vwCl[ci]? = some (C, T, n)) (hin : ∀ w ∈ u_ws C T n, w ∈ Ts) {ty : Nat → FieldType} (hty : ∀ k, k < n → parseFieldDescriptor (T k).2.2.1 = some (ty k)) (hnm : ∀ a, a < n → ∀ b, b < n → a ≠ b → (T a).2.1 ≠ (T b).2.1) (j : Nat) (hj : j < n) (hlink : .fieldLink own index (T j).1 (T j).2.1 (T j).2.2.1 ∈ Ts) {v : Value} (hfin : (T j).2.2.2 = false ∨ ((T j).2.2.2 = true ∧ x.2.1.2.2.2.1.name = "<init>" ∧ (T j).1 = own)) (hn : narrow (ty j) v = v) (hf : fits (ty j) v = true) (hl : j < fs.length) (hd : decode cc pc = .ok (.putfield index, 3)) (k : Y x (pc + 3) lv st (ws.set q0 (a, .inr (ci, fs.set j v))) N S) : Y x pc lv (v :: .ref a :: st) ws N S := by
  obtain ⟨⟨p, l', e, R, s⟩, ⟨m, args, below, meth, c⟩, D', nL', A, Q⟩ := x
  obtain ⟨⟨hx, hb, hml, hown, hts⟩, ⟨⟨hK, -⟩, hA⟩, h3, h4, h5⟩ := h
  obtain rfl : D = D' := h3.symm
  intro H locs ls g1 g2 g3 g4
  rcases hfin with hf1 | ⟨hf1, hf2, hf3⟩
  · exact va_put hx hb hts hin ty hty hnm hown hK g2 g3 g4 q0 he hc j hj (hts _ hlink) (fun _ h9 => h9) hf1 (hty j hj) hn hf hl hd (fun H1 locs1 hP hD hS => k H1 locs1 ls g1 hP hD hS)
  · exact va_putF hx hb hts hin ty hty hnm hown hK g2 g3 g4 q0 he hc j hj (hts _ hlink) (fun _ h9 => h9) hf1 hf2 hf3 (hty j hj) hn hf hl hd (fun H1 locs1 hP hD hS => k H1 locs1 ls g1 hP hD hS)
theorem y_iast (h : Yk x D cA cc nL Ts own rm) (q0 : Nat) {a n : Nat} {f : Nat → Int32} (he : ws[q0]? = some (a, .inl (cA 0, n, .inl f))) {v : Int32} (i : Nat) (hi : i < n) (hn : n < 2 ^ 31) (hd : decode cc pc = .ok (.iastore, 1)) (k : Y x (pc + 1) lv st (ws.set q0 (a, .inl (cA 0, n, .inl (upd f i v)))) N S) : Y x pc lv (.int v :: .int (nI i) :: .ref a :: st) ws N S := by
  obtain ⟨⟨p, l', e, R, s⟩, ⟨m, args, below, meth, c⟩, D', nL', A, Q⟩ := x
  obtain ⟨⟨hx, hb, hml, hown, hts⟩, ⟨⟨hK, -⟩, hA⟩, h3, h4, h5⟩ := h
  obtain rfl : D = D' := h3.symm
  intro H locs ls g1 g2 g3 g4
  refine va_iast hx hb hK g2 g3 g4 q0 0 he rfl (vp_in_nI hi hn) hd (fun H1 locs1 hP hD hS => ?_)
  rw [nI_clamp (Nat.lt_trans hi hn)] at hP hD
  exact k H1 locs1 ls g1 hP hD hS
theorem y_aast (h : Yk x D cA cc nL Ts own rm) (q0 t0 qk ci : Nat) {a n q : Nat} {r : vw_C} {vs : List Value} {f : Nat → Option Nat} (he : ws[q0]? = some (a, .inl (cA t0, n, .inr (.inr (.inr (.inr f)))))) (ht : (iT cA)[t0]? = some (cA t0, .object r.1)) (hv : ws[qk]? = some (q, .inr (ci, vs))) (hc : vwCl[ci]? = some r) (i : Nat) (hi : i < n) (hn : n < 2 ^ 31) (hd : decode cc pc = .ok (.aastore, 1)) (k : Y x (pc + 1) lv st (ws.set q0 (a, .inl (cA t0, n, .inr (.inr (.inr (.inr (va_up f i (some q)))))))) N S) : Y x pc lv (.ref q :: .int (nI i) :: .ref a :: st) ws N S := by
  obtain ⟨⟨p, l', e, R, s⟩, ⟨m, args, below, meth, c⟩, D', nL', A, Q⟩ := x
  obtain ⟨⟨hx, hb, hml, hown, hts⟩, ⟨⟨hK, -⟩, hA⟩, h3, h4, h5⟩ := h
  obtain rfl : D = D' := h3.symm
  intro H locs ls g1 g2 g3 g4
  refine va_astq hx hb hK g2 g3 g4 q0 t0 qk ci he ht hv hc (vp_in_nI hi hn) hd (fun H1 locs1 hP hD hS => ?_)
  rw [nI_clamp (Nat.lt_trans hi hn)] at hP hD
  exact k H1 locs1 ls g1 hP hD hS
end YROWS
/-! a constructor's contract: from the bare object, the object and what it made -/
def iPre (D : va_G) (cA : Nat → ClassId) (h0 : Nat) (e0 : va_E) (sz : Nat) : Array Value → State → Prop := va_Pc [.ref h0] (fun U => U.heap.size = sz ∧ va_P D vwCl [(h0, e0)] U.heap ∧ iEn D cA U)
def iPost (D : va_G) (h0 : Nat) (e0 : va_E) (sz : Nat) (Wf : (Nat → Nat) → va_W) : Array Value → State → Outcome → State → Prop := va_Qv (S := Nat → Nat) (fun ad => ad 0 = h0) (fun ad t => va_P D vwCl (Wf ad) t.heap ∧ va_D (va_A [(h0, e0)] sz) (Wf ad)) (va_A [(h0, e0)] sz)
theorem iPre_blind (D : va_G) (cA : Nat → ClassId) (h0 : Nat) (e0 : va_E) (sz : Nat) : FrameBlind (iPre D cA h0 e0 sz) := fun a U gg mk q => by
  obtain ⟨h1, h2, h3, h4⟩ := q
  exact ⟨h1, h2, h3, iEn.same (s := U) (U := U.calling gg mk a) rfl h4⟩
theorem va_D_one {A : Nat → Prop} {a : Nat} {e : va_E} (h : A a) : va_D A [(a, e)] := by
  rw [va_D_iff]
  refine ⟨by simp, fun q hq => ?_⟩
  rw [List.mem_singleton] at hq
  rw [hq]
  exact h
theorem va_A_one {a sz q : Nat} {e : va_E} : va_A [(a, e)] sz q ↔ q = a ∨ sz ≤ q := by
  constructor
  · rintro (⟨k, e', h⟩ | h)
    · have := List.mem_of_getElem? h
      rw [List.mem_singleton] at this
      exact Or.inl (Prod.mk.inj this).1
    · exact Or.inr h
  · rintro (rfl | h)
    · exact Or.inl ⟨0, e, rfl⟩
    · exact Or.inr h
def RetI0 (x : iC) (cc : ByteArray) (h0 : Nat) (Wf : (Nat → Nat) → va_W) (mc ms : Nat) : Prop := ∀ (pc : Nat) (lv : List (Nat × Value)) (ad : Nat → Nat) (ws : va_W), decode cc pc = .ok (.return_, 1) → ad 0 = h0 → ws.Perm (Wf ad) → Y x pc lv [] ws mc ms
theorem met_ini {l : Launch} {y : MethodName} {ws ws' : List Cond} {rm : Room} {D : va_G} {cA : Nat → ClassId} {h0 sz : Nat} {e0 : va_E} {Wf : (Nat → Nat) → va_W} {cc : ByteArray} {maxL mc ms : Nat} (hy : plainName y.cls = true) (hn : y.name = "<init>") (hw : ws = Cond.code y cc maxL none :: ws') (hav : 1 ≤ maxL)
    (body : ∀ x : iC, x.1.2.1 = l → Yk x D cA cc maxL ws y.cls rm → x.2.1.2.2.2.1.name = "<init>" → RetI0 x cc h0 Wf mc ms → Y x 0 [(0, .ref h0)] [] [(h0, e0)] 0 0) : Met l y ws rm (iPre D cA h0 e0 sz) (iPost D h0 e0 sz Wf) mc ms (va_A [(h0, e0)] sz) := by
  refine Met.ofW (cc := cc) (maxL := maxL) (ret := none) hy hw ?_
  intro p e s m args below meth c s₁ B hml hv
  obtain ⟨rfl, hsz, hP, hE⟩ := hv
  subst hsz
  have hl := lv_entry [.ref h0] (n := maxL) hav
  rw [lg_entry_eq]
  refine body ((p, l, e, _, s), (m, _, below, meth, c), D, maxL, va_A [(h0, e0)] s.heap.size, _) rfl ⟨⟨B.exec, B.bytes, hml, findClass_of_methodNamed B.named, atoms_spec (ws := ws) B.pre⟩, ⟨hE, fun q hq => Or.inr hq⟩, rfl, rfl, rfl⟩ ((name_of_methodNamed B.named B.method).1.trans hn) ?_ s.heap [] _ hl hP (va_D_one (Or.inl ⟨0, e0, rfl⟩)) va_S.rf
  intro pc lv ad ws1 hd had hperm H locs ls hl1 hP1 hD1 hS
  exact W.vret B.exec B.bytes B.returns (fun t ht hW => ⟨⟨ad, rfl, had, by show va_P D vwCl (Wf ad) t.heap; rw [ht]; exact hP1.perm hperm, hD1.perm hperm⟩, hS.F ht⟩) hS.2.2 hd B.notSynchronized
theorem ini_join {A0 : Nat → Prop} {D : va_G} {wr w1 : va_W} {q : Nat} {e0 : va_E} {H H1 : Heap} (hP : va_P D vwCl ((q, e0) :: wr) H) (hD : va_D A0 ((q, e0) :: wr)) (hk : ∀ a : Nat, a < H.size → ¬ va_A [(q, e0)] H.size a → H1[a]? = H[a]?) (hF : ∀ a, va_A [(q, e0)] H.size a → A0 a) (hP1 : va_P D vwCl w1 H1) (hD1 : va_D (va_A [(q, e0)] H.size) w1) : va_P D vwCl (w1 ++ wr) H1 ∧ va_D A0 (w1 ++ wr) := by
  have hPi := va_P_iff.mp hP
  have hDi := va_D_iff.mp hD
  have hP1i := va_P_iff.mp hP1
  have hD1i := va_D_iff.mp hD1
  rw [List.map_cons, List.nodup_cons] at hDi
  have hap : ∀ c ∈ wr, c.1 < H.size ∧ ¬ va_A [(q, e0)] H.size c.1 := fun c hc => by
    have hlt := (hPi c (List.mem_cons_of_mem _ hc)).lt
    refine ⟨hlt, fun hz => ?_⟩
    rcases va_A_one.mp hz with rfl | hz
    · exact hDi.1.1 (List.mem_map.mpr ⟨c, hc, rfl⟩)
    · omega
  constructor
  · refine va_P_iff.mpr (fun c hc => ?_)
    rcases List.mem_append.mp hc with hc | hc
    · exact hP1i c hc
    · exact (hPi c (List.mem_cons_of_mem _ hc)).kept (hk c.1 (hap c hc).1 (hap c hc).2)
  · refine va_D_iff.mpr ⟨?_, fun c hc => ?_⟩
    · rw [List.map_append, List.nodup_append]
      refine ⟨hD1i.1, hDi.1.2, fun a ha b hb hab => ?_⟩
      obtain ⟨c, hc, rfl⟩ := List.mem_map.mp ha
      obtain ⟨c', hc', rfl⟩ := List.mem_map.mp hb
      refine (hap c' hc').2 ?_
      rw [← hab]
      exact hD1i.2 c hc
    · rcases List.mem_append.mp hc with hc | hc
      · exact hF _ (hD1i.2 c hc)
      · exact hDi.2 c (List.mem_cons_of_mem _ hc)
section YCALLS
variable {x : iC} {D : va_G} {cA : Nat → ClassId} {cc : ByteArray} {nL : Nat} {Ts : List Cond} {own : String} {rm : Room} {pc : Nat} {lv lv' : List (Nat × Value)} {st : List Value} {ws : va_W} {N S : Nat}
variable {y : MethodName} {bytes : ByteArray} {maxL index : Nat} {wy wy' : List Cond} {rm' : Room}
theorem y_init (h : Yk x D cA cc nL Ts own rm) {l : Launch} {q : Nat} {e0 : va_E} {wr : va_W} {Wf : (Nat → Nat) → va_W} {mc ms : Nat} (hx : x.1.2.1 = l) (hM : ∀ sz, Met l y wy rm' (iPre D cA q e0 sz) (iPost D q e0 sz Wf) mc ms (va_A [(q, e0)] sz)) (hws : ws.Perm ((q, e0) :: wr)) (hT : GoodIn Ts wy) (hw : wy = Cond.code y bytes maxL none :: wy') (hz : rm'.cells = mc ∧ rm'.slots = ms) (hini : .initialized y.cls ∈ Ts) (hl : .methodLink own index y ∈ Ts) (hin : .instanceMethod y ∈ Ts) (hn : y.name = "<init>") (hd0 : y.cls ≠ "java/lang/invoke/MethodHandle" ∧ y.cls ≠ "java/lang/invoke/VarHandle" ∧ (parseMethodDescriptor y.desc).map (fun d => d.parameters.length) = some 0) (hR : mRoom rm rm' maxL) (hst : (st.map fun v => v.category).sum ≤ 8) (hN : N + mc ≤ rm.cells) (hS : S + ms ≤ rm.slots) (hd : decode cc pc = .ok (.invokespecial index, 3))
    (kk : ∀ ad : Nat → Nat, ad 0 = q → Y x (pc + 3) lv st (Wf ad ++ wr) (N + mc) (S + ms)) : Y x pc lv (.ref q :: st) ws N S := by
  obtain ⟨⟨p, l', e, R, s⟩, ⟨m, args, below, meth, c⟩, D', nL', A, Q⟩ := x
  obtain ⟨h1, ⟨hE, hA⟩, h3, h4, h5⟩ := h
  obtain rfl : D = D' := h3.symm
  obtain rfl : nL = nL' := h4.symm
  obtain rfl : rm = R := h5.symm
  obtain rfl : l = l' := hx.symm
  refine y_pm hws ?_
  intro H locs ls g1 g2 g3 g4
  have hq : A q := g3.2 0 _ rfl
  have hF : ∀ a, va_A [(q, e0)] H.size a → A a := fun a ha => by
    rcases va_A_one.mp ha with rfl | ha
    · exact hq
    · exact hA a (Nat.le_trans g4.1 ha)
  refine va_callv (va_runI (As := []) (rest := st) h1 (hM H.size) (cwI 0 h1.2.2.2.2 hT hw hz.1 hz.2 (h1.2.2.2.2 _ hini) (h1.2.2.2.2 _ hl) (h1.2.2.2.2 _ hin) hn hd0 hR) ⟨iPre_blind _ _ _ _ _, fun U hU hW => ⟨rfl, by rw [hU], by rw [hU]; exact g2.sub [0] rfl, hE.warm hW⟩⟩ rfl rfl g1.1 rfl (lv_room hst) hd ⟨hN, hS⟩) g4 (fun a _ ha => hF a ha) hF (fun u t H1 locs1 ht hvm hp hB hz1 hk1 hS1 => ?_)
  rw [ht] at hB
  obtain ⟨hP2, hD2⟩ := ini_join g2 g3 hk1 hF hB.1 hB.2
  exact kk u hp H1 locs1 ls g1 hP2 hD2 hS1
theorem y_initN (h : Yk x D cA cc nL Ts own rm) {l : Launch} {host : String} {q : Nat} {e0 : va_E} {wr : va_W} {Wf : (Nat → Nat) → va_W} {mc ms : Nat} (hx : x.1.2.1 = l) (hM : ∀ sz, Met l y wy rm' (iPre D cA q e0 sz) (iPost D q e0 sz Wf) mc ms (va_A [(q, e0)] sz)) (hws : ws.Perm ((q, e0) :: wr)) (hT : GoodIn Ts wy) (hw : wy = Cond.code y bytes maxL none :: wy') (hz : rm'.cells = mc ∧ rm'.slots = ms) (hini : .initialized y.cls ∈ Ts) (hl : va_Nw (.methodLinkNest own index y host) x.1.2.2.2.2) (hin : .instanceMethod y ∈ Ts) (hn : y.name = "<init>") (hd0 : y.cls ≠ "java/lang/invoke/MethodHandle" ∧ y.cls ≠ "java/lang/invoke/VarHandle" ∧ (parseMethodDescriptor y.desc).map (fun d => d.parameters.length) = some 0) (hR : mRoom rm rm' maxL) (hst : (st.map fun v => v.category).sum ≤ 8) (hN : N + mc ≤ rm.cells) (hS : S + ms ≤ rm.slots) (hd : decode cc pc = .ok (.invokespecial index, 3))
    (kk : ∀ ad : Nat → Nat, ad 0 = q → Y x (pc + 3) lv st (Wf ad ++ wr) (N + mc) (S + ms)) : Y x pc lv (.ref q :: st) ws N S := by
  obtain ⟨⟨p, l', e, R, s⟩, ⟨m, args, below, meth, c⟩, D', nL', A, Q⟩ := x
  obtain ⟨h1, ⟨hE, hA⟩, h3, h4, h5⟩ := h
  obtain rfl : D = D' := h3.symm
  obtain rfl : nL = nL' := h4.symm
  obtain rfl : rm = R := h5.symm
  obtain rfl : l = l' := hx.symm
  refine y_pm hws ?_
  intro H locs ls g1 g2 g3 g4
  have hq : A q := g3.2 0 _ rfl
  have hF : ∀ a, va_A [(q, e0)] H.size a → A a := fun a ha => by
    rcases va_A_one.mp ha with rfl | ha
    · exact hq
    · exact hA a (Nat.le_trans g4.1 ha)
  refine va_callv (va_runIN (As := []) (rest := st) h1 (hM H.size) ⟨va_cnB 0 h1.2.2.2.2 hT hw hz.1 hz.2 hl (h1.2.2.2.2 _ hini) hd0 hR, hn, h1.2.2.2.2 _ hin⟩ ⟨iPre_blind _ _ _ _ _, fun U hU hW => ⟨rfl, by rw [hU], by rw [hU]; exact g2.sub [0] rfl, hE.warm hW⟩⟩ rfl rfl g1.1 rfl (lv_room hst) hd ⟨hN, hS⟩) g4 (fun a _ ha => hF a ha) hF (fun u t H1 locs1 ht hvm hp hB hz1 hk1 hS1 => ?_)
  rw [ht] at hB
  obtain ⟨hP2, hD2⟩ := ini_join g2 g3 hk1 hF hB.1 hB.2
  exact kk u hp H1 locs1 ls g1 hP2 hD2 hS1
end YCALLS
