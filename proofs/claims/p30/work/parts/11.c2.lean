section SWITCH
variable {x : Ctx} {g : Geo} {cc : ByteArray} {nL : Nat} {Ts : List Cond} {own : String} {rm : Room} {pc : Nat} {lv lv' : List (Nat × Value)} {st : List Value} {M : Nat → Nat → Int32} {P : Nat → Nat}
theorem x_tableOut (h : Cxk x g cc nL Ts own rm) {dflt lo hi : Int} {offs : Array Int} {len : Nat} {a : Int32} (tgt : Nat) (hd : decode cc pc = .ok (.tableswitch dflt lo hi offs, len)) (hx : a.toInt < lo ∨ hi < a.toInt) (ht : (pc : Int) + dflt = (tgt : Int)) (k : X x tgt lv st M P) : X x pc lv (.int a :: st) M P := fun H locs ls h1 h2 h3 => lv_tableOut h.1.1 h.1.2.1 hd hx ht (k H locs ls h1 h2 h3)
theorem x_tableIn (h : Cxk x g cc nL Ts own rm) {dflt lo hi : Int} {offs : Array Int} {len : Nat} {a : Int32} (off : Int) (tgt : Nat) (hd : decode cc pc = .ok (.tableswitch dflt lo hi offs, len)) (h1 : ¬ a.toInt < lo) (h2 : ¬ hi < a.toInt) (ho : offs[(a.toInt - lo).toNat]? = some off) (ht : (pc : Int) + off = (tgt : Int)) (k : X x tgt lv st M P) : X x pc lv (.int a :: st) M P := fun H locs ls g1 g2 g3 => lv_tableIn h.1.1 h.1.2.1 hd h1 h2 ho ht (k H locs ls g1 g2 g3)
theorem x_lookup (h : Cxk x g cc nL Ts own rm) {dflt : Int} {ps : Array (Int × Int)} {len : Nat} {a : Int32} (off : Int) (tgt : Nat) (hd : decode cc pc = .ok (.lookupswitch dflt ps, len)) (hp : (ps.toList.zip (ps.toList.drop 1)).all (fun (a, next) => a.1 < next.1) = true) (ho : Op.lookupswitch.offset ps.toList dflt a.toInt = off) (ht : (pc : Int) + off = (tgt : Int)) (k : X x tgt lv st M P) : X x pc lv (.int a :: st) M P := fun H locs ls g1 g2 g3 => lv_lookup h.1.1 h.1.2.1 hd hp ho ht (k H locs ls g1 g2 g3)
end SWITCH
theorem sw_of {w : Int32} {n : Nat} (h : ¬ (w.toInt < 0 ∨ (n : Int) < w.toInt)) (hn : n < 2 ^ 31) : ∃ j : Nat, j < n + 1 ∧ w = nI j := by
  have h1 : ¬ w < 0 := fun e => h (Or.inl (by simpa using Int32.lt_iff_toInt_lt.mp e))
  obtain ⟨j, hj, rfl⟩ := nI_of h1
  refine ⟨j, ?_, rfl⟩
  have := nI_toInt hj
  omega
theorem sw_no {w : Int32} {n m : Nat} (h : w.toInt < 0 ∨ (n : Int) < w.toInt) (hm : m ≤ n + 1) (hn : n + 1 < 2 ^ 31) : ¬ InR m w := by
  rintro ⟨j, hj, rfl⟩
  have := nI_toInt (n := j) (by omega)
  omega
theorem m1_ne {k : Nat} (h : k < 2 ^ 31) : ¬ (-1 : Int32) = nI k := fun e => nI_pos h (by rw [← e]; decide)
theorem InR_nI {N k : Nat} (hN : N < 2 ^ 31) (hk : k < 2 ^ 31) (h : InR N (nI k)) : k < N := by
  obtain ⟨j, hj, e⟩ := h
  have := (nI_eq hk (by omega)).mp e
  omega
/-- owners' numbers: free, wire of net k, pin of net k -/
abbrev Enc : Type := Int32 × (Nat → Int32) × (Nat → Int32)
def eC : Enc := (-1, fun k => nI k, fun k => nI (10 + k))
def eM : Enc := (nI 0, fun k => nI (1 + k), fun k => nI (11 + k))
def loseE (e : Enc) (X : Nat → Int32) (k : Nat) : Nat → Int32 := upd (scan 7 X (fun _ v => if v = e.2.1 k then e.1 else v) 162) (169 + 9 * k + 5) (nI 0)
def sumI (f : Nat → Int32) : Nat → Int32
  | 0 => nI 0
  | n + 1 => sumI f n + f n
def appl (X : Nat → Int32) (K : Nat) : Nat := cnt (fun i => decide (X (223 + 13 * i + 5) = nI 1)) K
def ahead (X : Nat → Int32) (K i : Nat) : Nat := cnt (fun d => decide (X (223 + 13 * d + 5) = nI 1 ∧ (lossX X i < lossX X d ∨ (lossX X d = lossX X i ∧ d < i)))) K
def hd1 (X : Nat → Int32) (K : Nat) (ix : Int32) : Option Nat := fnd (fun i => decide (X (223 + 13 * i + 5) = nI 1 ∧ nI (ahead X K i) = ix)) K
def wrg (X : Nat → Int32) : Nat → Int32
  | 0 => nI 0
  | i + 1 => if X (223 + 13 * i + 4) < lossX X i ∧ X (169 + 9 * (X (223 + 13 * i)).toNatClampNeg + 5) = 0 then wrg X i ||| (nI 1 <<< (X (223 + 13 * i) &&& 31)) else wrg X i
def f_LEASTi (j : Nat) : Int32 := if j = 0 then 1 else if j = 3 then 1 else 0
def f_MOSTi (j : Nat) : Int32 := if j = 0 then 20 else if j = 3 then 20 else 50
def setQ (X : Nat → Int32) (w v r : Int32) (X' : Nat → Int32) : Prop := (¬ (∃ j, j < 4 ∧ w = nI j ∧ f_LEASTi j ≤ v ∧ v ≤ f_MOSTi j) ∧ r = -1000001 ∧ X' = X) ∨ ∃ j, j < 4 ∧ w = nI j ∧ f_LEASTi j ≤ v ∧ v ≤ f_MOSTi j ∧ r = X j ∧ X' = upd X j v
def giveQ (X : Nat → Int32) (N : Nat) (n a r : Int32) (X' : Nat → Int32) : Prop := (¬ (InR N n ∧ nI 1 ≤ a ∧ a ≤ nI 9999) ∧ r = -1000001 ∧ X' = X) ∨ ∃ k, k < N ∧ n = nI k ∧ nI 1 ≤ a ∧ a ≤ nI 9999 ∧ ((nI 100000 < X (169 + 9 * k + 4) + a ∧ r = -1000003 ∧ X' = X) ∨ (X (169 + 9 * k + 4) + a ≤ nI 100000 ∧ r = X (169 + 9 * k + 4) + a ∧ X' = upd X (169 + 9 * k + 4) (X (169 + 9 * k + 4) + a)))
def passQ (X : Nat → Int32) (a r : Int32) (X' : Nat → Int32) : Prop := (¬ (nI 1 ≤ a ∧ a ≤ nI 50) ∧ r = -1000001 ∧ X' = X) ∨ (nI 1 ≤ a ∧ a ≤ nI 50 ∧ ((nI 100000 < X 4 + a ∧ r = -1000003 ∧ X' = X) ∨ (X 4 + a ≤ nI 100000 ∧ r = X 4 + a ∧ X' = upd X 4 (X 4 + a))))
def ripQ (e : Enc) (X : Nat → Int32) (N : Nat) (n r : Int32) (X' : Nat → Int32) : Prop := (¬ InR N n ∧ r = -1000001 ∧ X' = X) ∨ ∃ k, k < N ∧ n = nI k ∧ ((X (169 + 9 * k + 5) = 0 ∧ r = -1000002 ∧ X' = X) ∨ (¬ X (169 + 9 * k + 5) = 0 ∧ r = nI (wir X (e.2.1 k)) ∧ X' = upd (loseE e X k) 4 (loseE e X k 4 + nI 1)))
def applQ (X : Nat → Int32) (K : Nat) (n r : Int32) (X' : Nat → Int32) : Prop := (¬ InR K n ∧ r = -1000001 ∧ X' = X) ∨ ∃ i, i < K ∧ n = nI i ∧ ((¬ (X (223 + 13 * i + 5) = 0 ∧ X 4 - X (223 + 13 * i + 6) ≤ X 3) ∧ r = -1000002 ∧ X' = X) ∨ (X (223 + 13 * i + 5) = 0 ∧ X 4 - X (223 + 13 * i + 6) ≤ X 3 ∧ X' = upd (upd X (223 + 13 * i + 5) (nI 1)) 4 (X 4 + nI 1) ∧ r = nI (appl X' K)))
def fNet (e : Enc) (X : Nat → Int32) (k : Nat) : Nat → Int32
  | 0 => X (169 + 9 * k)
  | 1 => X (169 + 9 * k + 1)
  | 2 => if X (169 + 9 * k + 2) = -1 then -1000004 else X (169 + 9 * k + 2)
  | 3 => X (169 + 9 * k + 3)
  | 4 => X (169 + 9 * k + 4)
  | 5 => if X (169 + 9 * k + 5) = 0 then nI 0 else nI 1
  | 6 => nI (wir X (e.2.1 k))
  | 7 => nI (via X (e.2.1 k))
  | 8 => X (169 + 9 * k + 6)
  | 9 => X (169 + 9 * k + 7)
  | _ => X (169 + 9 * k + 8)
def fClm (X : Nat → Int32) (i : Nat) : Nat → Int32
  | 0 => X (223 + 13 * i)
  | 1 => X (223 + 13 * i + 1)
  | 2 => X (223 + 13 * i + 2)
  | 3 => X (223 + 13 * i + 3)
  | 4 => X (223 + 13 * i + 4)
  | 5 => lossX X i
  | 6 => X (223 + 13 * i + 5)
  | _ => X 4 - X (223 + 13 * i + 6)
def wires (e : Enc) (X : Nat → Int32) (N : Nat) : Nat := cnt (fun a => decide (∃ k, k < N ∧ X (7 + a) = e.2.1 k)) 162
def cross (e : Enc) (X : Nat → Int32) (N : Nat) : Nat := cnt (fun a => decide ((∃ k, k < N ∧ X (7 + a) = e.2.1 k) ∧ (∃ k, k < N ∧ X (7 + (a + 81)) = e.2.1 k) ∧ ¬ X (7 + a) = X (7 + (a + 81)))) 81
def joinedN (X : Nat → Int32) (N : Nat) : Nat := cnt (fun k => decide (¬ X (169 + 9 * k + 5) = 0)) N

set_option maxRecDepth 20000 in
theorem ggX0_setPin_X0_isPlace : GoodIn wsX0_setPin wsX0_isPlace := goodIn_r _ [5] (by decide +kernel) (by decide +kernel)
set_option maxRecDepth 20000 in
theorem gX0_setPin_X0_isPlace : GoodIn wsX0_setPin (va_wsS RX0 70 yX0_isPlace wsX0_isPlace) := goodIn_app (goodIn_of _ (by decide +kernel)) ggX0_setPin_X0_isPlace
theorem dX0_setPin_0 : decode cX0_setPin 0 = .ok (.iload_n 1, 1) := by decide +kernel
theorem dX0_setPin_1 : decode cX0_setPin 1 = .ok (.invokestatic 70, 3) := by decide +kernel
theorem dX0_setPin_4 : decode cX0_setPin 4 = .ok (.ifCond .eq 26, 3) := by decide +kernel
theorem dX0_setPin_7 : decode cX0_setPin 7 = .ok (.aload_n 0, 1) := by decide +kernel
theorem dX0_setPin_8 : decode cX0_setPin 8 = .ok (.getfield 15, 3) := by decide +kernel
theorem dX0_setPin_11 : decode cX0_setPin 11 = .ok (.iload_n 1, 1) := by decide +kernel
theorem dX0_setPin_12 : decode cX0_setPin 12 = .ok (.bipush 10, 2) := by decide +kernel
theorem dX0_setPin_14 : decode cX0_setPin 14 = .ok (.iload_n 2, 1) := by decide +kernel
theorem dX0_setPin_15 : decode cX0_setPin 15 = .ok (.iadd, 1) := by decide +kernel
theorem dX0_setPin_16 : decode cX0_setPin 16 = .ok (.iastore, 1) := by decide +kernel
theorem dX0_setPin_17 : decode cX0_setPin 17 = .ok (.aload_n 0, 1) := by decide +kernel
theorem dX0_setPin_18 : decode cX0_setPin 18 = .ok (.getfield 15, 3) := by decide +kernel
theorem dX0_setPin_21 : decode cX0_setPin 21 = .ok (.iload_n 1, 1) := by decide +kernel
theorem dX0_setPin_22 : decode cX0_setPin 22 = .ok (.bipush 81, 2) := by decide +kernel
theorem dX0_setPin_24 : decode cX0_setPin 24 = .ok (.iadd, 1) := by decide +kernel
theorem dX0_setPin_25 : decode cX0_setPin 25 = .ok (.bipush 10, 2) := by decide +kernel
theorem dX0_setPin_27 : decode cX0_setPin 27 = .ok (.iload_n 2, 1) := by decide +kernel
theorem dX0_setPin_28 : decode cX0_setPin 28 = .ok (.iadd, 1) := by decide +kernel
theorem dX0_setPin_29 : decode cX0_setPin 29 = .ok (.iastore, 1) := by decide +kernel
theorem dX0_setPin_30 : decode cX0_setPin 30 = .ok (.return_, 1) := by decide +kernel
abbrev rmX0_setPin : Room := { frames := 1, cells := 0, slots := 0, locals := 20 }
set_option maxRecDepth 20000 in
theorem in_X0_setPin_X0 : ∀ w ∈ wsX00, w ∈ wsX0_setPin := by decide +kernel

set_option maxRecDepth 100000 in
set_option maxHeartbeats 4000000 in
theorem c_X0_setPin {l : Launch} {g : Geo} {M : Nat → Nat → Int32} {P : Nat → Nat} {c : Nat} (hc : c < 6) {j k : Nat} (hj : j < 81) : Met l yX0_setPin wsX0_setPin rmX0_setPin (cPre g [.ref (g.1 (24 * c)), .int (nI j), .int (nI k)] M P) (cQv g (fun M' P' => P = P' ∧ M' = va_up M c (upd (upd (M c) (7 + j) (nI (10 + k))) (7 + (j + 81)) (nI (10 + k))))) 0 0 (gA g) := by
  refine met_v (cc := cX0_setPin) (maxL := 3) (by decide) rfl ⟨rfl, rfl⟩ (Nat.le_of_ble_eq_true rfl) (fun x hx h hret => ?_)
  replace h : Cxk x g cX0_setPin 3 wsX0_setPin RX0 rmX0_setPin := h
  show X x 0 [(0, .ref (g.1 (24 * c))), (1, .int (nI j)), (2, .int (nI k))] [] M P
  refine x_iload_n h 1 dX0_setPin_0 rfl rfl ?_
  refine x_callS h (As := [.int (nI j)]) 1 hx (c_X0_isPlace) gX0_setPin_X0_isPlace rfl ⟨rfl, rfl⟩ (by decide +kernel) rfl (by decide) (Nat.le_of_ble_eq_true rfl) dX0_setPin_1 (fun rv M' P' hp => ?_)
  obtain ⟨⟨rfl, rfl⟩, hp⟩ := hp
  rcases hp with ⟨⟨k1, hk1, ek1⟩, rfl⟩ | ⟨nk1, rfl⟩
  · -- call 1
    refine x_if_eq h 30 dX0_setPin_4 (by decide) (fun c => absurd c (by decide)) (fun _ => ?_)
    refine x_aload_n h 0 dX0_setPin_7 rfl rfl ?_
    refine xg_X0_1 h hc in_X0_setPin_X0 (by decide +kernel) dX0_setPin_8 ?_
    refine x_iload_n h 1 dX0_setPin_11 rfl rfl ?_
    refine x_bipush h (nI 10) dX0_setPin_12 (by decide) ?_
    refine x_iload_n h 2 dX0_setPin_14 rfl rfl ?_
    refine x_iadd_n h dX0_setPin_15 ?_
    refine xs_own h hc dX0_setPin_16 (by omega) ?_
    refine x_aload_n h 0 dX0_setPin_17 rfl rfl ?_
    refine xg_X0_1 h hc in_X0_setPin_X0 (by decide +kernel) dX0_setPin_18 ?_
    refine x_iload_n h 1 dX0_setPin_21 rfl rfl ?_
    refine x_bipush h (nI 81) dX0_setPin_22 (by decide) ?_
    refine x_iadd_n h dX0_setPin_24 ?_
    refine x_bipush h (nI 10) dX0_setPin_25 (by decide) ?_
    refine x_iload_n h 2 dX0_setPin_27 rfl rfl ?_
    refine x_iadd_n h dX0_setPin_28 ?_
    refine xs_own h hc dX0_setPin_29 (by omega) ?_
    exact hret _ _ _ _ dX0_setPin_30 (by exact ⟨rfl, by simp only [st2_va, va_up_up, va_up_k]⟩)
  · -- call 1
    exact absurd ⟨j, (by first | assumption | omega), rfl⟩ nk1

set_option maxRecDepth 100000 in
set_option maxHeartbeats 4000000 in
theorem c_X0_setPin_no {l : Launch} {g : Geo} {M : Nat → Nat → Int32} {P : Nat → Nat} {c : Nat} (hc : c < 6) {k : Nat} : Met l yX0_setPin wsX0_setPin rmX0_setPin (cPre g [.ref (g.1 (24 * c)), .int (-1), .int (nI k)] M P) (cQv g (fun M' P' => P = P' ∧ M' = M)) 0 0 (gA g) := by
  refine met_v (cc := cX0_setPin) (maxL := 3) (by decide) rfl ⟨rfl, rfl⟩ (Nat.le_of_ble_eq_true rfl) (fun x hx h hret => ?_)
  replace h : Cxk x g cX0_setPin 3 wsX0_setPin RX0 rmX0_setPin := h
  show X x 0 [(0, .ref (g.1 (24 * c))), (1, .int (-1)), (2, .int (nI k))] [] M P
  refine x_iload_n h 1 dX0_setPin_0 rfl rfl ?_
  refine x_callS h (As := [.int (-1)]) 1 hx (c_X0_isPlace) gX0_setPin_X0_isPlace rfl ⟨rfl, rfl⟩ (by decide +kernel) rfl (by decide) (Nat.le_of_ble_eq_true rfl) dX0_setPin_1 (fun rv M' P' hp => ?_)
  obtain ⟨⟨rfl, rfl⟩, hp⟩ := hp
  rcases hp with ⟨⟨k1, hk1, ek1⟩, rfl⟩ | ⟨nk1, rfl⟩
  · -- call 1
    exact absurd ek1 (m1_ne (by omega))
  · -- call 1
    refine x_if_eq h 30 dX0_setPin_4 (by decide) (fun _ => ?_) (fun c => absurd (by decide) c)
    exact hret _ _ _ _ dX0_setPin_30 (by exact ⟨rfl, rfl⟩)

theorem dX0_changeSetting_0 : decode cX0_changeSetting 0 = .ok (.iload_n 1, 1) := by decide +kernel
theorem dX0_changeSetting_1 : decode cX0_changeSetting 1 = .ok (.ifCond .lt 26, 3) := by decide +kernel
theorem dX0_changeSetting_4 : decode cX0_changeSetting 4 = .ok (.iload_n 1, 1) := by decide +kernel
theorem dX0_changeSetting_5 : decode cX0_changeSetting 5 = .ok (.iconst 4, 1) := by decide +kernel
theorem dX0_changeSetting_6 : decode cX0_changeSetting 6 = .ok (.if_icmp .ge 21, 3) := by decide +kernel
theorem dX0_changeSetting_9 : decode cX0_changeSetting 9 = .ok (.iload_n 2, 1) := by decide +kernel
theorem dX0_changeSetting_10 : decode cX0_changeSetting 10 = .ok (.getstatic 58, 3) := by decide +kernel
theorem dX0_changeSetting_13 : decode cX0_changeSetting 13 = .ok (.iload_n 1, 1) := by decide +kernel
theorem dX0_changeSetting_14 : decode cX0_changeSetting 14 = .ok (.iaload, 1) := by decide +kernel
theorem dX0_changeSetting_15 : decode cX0_changeSetting 15 = .ok (.if_icmp .lt 12, 3) := by decide +kernel
theorem dX0_changeSetting_18 : decode cX0_changeSetting 18 = .ok (.iload_n 2, 1) := by decide +kernel
theorem dX0_changeSetting_19 : decode cX0_changeSetting 19 = .ok (.getstatic 61, 3) := by decide +kernel
theorem dX0_changeSetting_22 : decode cX0_changeSetting 22 = .ok (.iload_n 1, 1) := by decide +kernel
theorem dX0_changeSetting_23 : decode cX0_changeSetting 23 = .ok (.iaload, 1) := by decide +kernel
theorem dX0_changeSetting_24 : decode cX0_changeSetting 24 = .ok (.if_icmp .le 6, 3) := by decide +kernel
theorem dX0_changeSetting_27 : decode cX0_changeSetting 27 = .ok (.ldc 64, 2) := by decide +kernel
theorem dX0_changeSetting_29 : decode cX0_changeSetting 29 = .ok (.ireturn, 1) := by decide +kernel
theorem dX0_changeSetting_30 : decode cX0_changeSetting 30 = .ok (.aload_n 0, 1) := by decide +kernel
theorem dX0_changeSetting_31 : decode cX0_changeSetting 31 = .ok (.getfield 9, 3) := by decide +kernel
theorem dX0_changeSetting_34 : decode cX0_changeSetting 34 = .ok (.iload_n 1, 1) := by decide +kernel
theorem dX0_changeSetting_35 : decode cX0_changeSetting 35 = .ok (.iaload, 1) := by decide +kernel
theorem dX0_changeSetting_36 : decode cX0_changeSetting 36 = .ok (.istore_n 3, 1) := by decide +kernel
theorem dX0_changeSetting_37 : decode cX0_changeSetting 37 = .ok (.aload_n 0, 1) := by decide +kernel
theorem dX0_changeSetting_38 : decode cX0_changeSetting 38 = .ok (.getfield 9, 3) := by decide +kernel
theorem dX0_changeSetting_41 : decode cX0_changeSetting 41 = .ok (.iload_n 1, 1) := by decide +kernel
theorem dX0_changeSetting_42 : decode cX0_changeSetting 42 = .ok (.iload_n 2, 1) := by decide +kernel
theorem dX0_changeSetting_43 : decode cX0_changeSetting 43 = .ok (.iastore, 1) := by decide +kernel
theorem dX0_changeSetting_44 : decode cX0_changeSetting 44 = .ok (.iload_n 3, 1) := by decide +kernel
theorem dX0_changeSetting_45 : decode cX0_changeSetting 45 = .ok (.ireturn, 1) := by decide +kernel
abbrev rmX0_changeSetting : Room := { frames := 0, cells := 0, slots := 0, locals := 0 }
set_option maxRecDepth 20000 in
theorem in_X0_changeSetting_X0 : ∀ w ∈ wsX00, w ∈ wsX0_changeSetting := by decide +kernel

set_option maxRecDepth 100000 in
set_option maxHeartbeats 4000000 in
theorem c_X0_changeSetting {l : Launch} {g : Geo} {M : Nat → Nat → Int32} {P : Nat → Nat} {c : Nat} (hc : c < 6) {w v : Int32} : Met l yX0_changeSetting wsX0_changeSetting rmX0_changeSetting (cPre g [.ref (g.1 (24 * c)), .int w, .int v] M P) (cQi g (fun r M' P' => P = P' ∧ ∃ X', setQ (M c) w v r X' ∧ M' = va_up M c X')) 0 0 (gA g) := by
  refine met_i (cc := cX0_changeSetting) (maxL := 4) (by decide) rfl ⟨rfl, rfl⟩ (Nat.le_of_ble_eq_true rfl) (fun x hx h hret => ?_)
  replace h : Cxk x g cX0_changeSetting 4 wsX0_changeSetting RX0 rmX0_changeSetting := h
  show X x 0 [(0, .ref (g.1 (24 * c))), (1, .int w), (2, .int v)] [] M P
  refine x_iload_n h 1 dX0_changeSetting_0 rfl rfl ?_
  refine x_if_lt h 27 dX0_changeSetting_1 (by decide) (fun c_1 => ?_) (fun c_1 => ?_)
  · -- 1 true
    refine x_ldc h ((-1000001)) (by decide +kernel) dX0_changeSetting_27 ?_
    exact hret _ _ _ _ _ dX0_changeSetting_29 (by refine ⟨rfl, _, Or.inl ⟨?_, rfl, rfl⟩, (va_up_id _ _).symm⟩; first | (exact fun ⟨q, hq, e, _⟩ => InR_no1 (N := 4) (by decide) c_1 ⟨q, hq, e⟩) | (exact fun ⟨q, hq, e, _⟩ => InR_no2 (N := 4) (by decide) c_6 ⟨q, hq, e⟩) | (rintro ⟨q, hq, e, e1, e2⟩; obtain rfl := (nI_eq (by omega) (by omega)).mp e; first | exact absurd e1 (Int32.not_le.mpr c_15) | exact c_24 e2))
  · -- 1 false
    refine x_iload_n h 1 dX0_changeSetting_4 rfl rfl ?_
    refine x_iconst h (nI 4) dX0_changeSetting_5 (by decide) ?_
    refine x_icmp_ge h 27 dX0_changeSetting_6 (by decide) (fun c_6 => ?_) (fun c_6 => ?_)
    · -- 6 true
      refine x_ldc h ((-1000001)) (by decide +kernel) dX0_changeSetting_27 ?_
      exact hret _ _ _ _ _ dX0_changeSetting_29 (by refine ⟨rfl, _, Or.inl ⟨?_, rfl, rfl⟩, (va_up_id _ _).symm⟩; first | (exact fun ⟨q, hq, e, _⟩ => InR_no1 (N := 4) (by decide) c_1 ⟨q, hq, e⟩) | (exact fun ⟨q, hq, e, _⟩ => InR_no2 (N := 4) (by decide) c_6 ⟨q, hq, e⟩) | (rintro ⟨q, hq, e, e1, e2⟩; obtain rfl := (nI_eq (by omega) (by omega)).mp e; first | exact absurd e1 (Int32.not_le.mpr c_15) | exact c_24 e2))
    · -- 6 false
      obtain ⟨j, hj, rfl⟩ := InR_of (N := 4) (by decide) c_1 c_6
      refine x_iload_n h 2 dX0_changeSetting_9 rfl rfl ?_
      refine x_getsN h (t := 0) h.2.1.2.1.1 h.2.1.2.2.2.1 dX0_changeSetting_10 ?_
      refine x_iload_n h 1 dX0_changeSetting_13 rfl rfl ?_
      refine x_ti h (j := j) (f_LEASTi j) h.2.1.2.1.1.2 dX0_changeSetting_14 (by omega) (by decide) rfl ?_
      refine x_icmp_lt h 27 dX0_changeSetting_15 (by decide) (fun c_15 => ?_) (fun c_15 => ?_)
      · -- 15 true
        refine x_ldc h ((-1000001)) (by decide +kernel) dX0_changeSetting_27 ?_
        exact hret _ _ _ _ _ dX0_changeSetting_29 (by refine ⟨rfl, _, Or.inl ⟨?_, rfl, rfl⟩, (va_up_id _ _).symm⟩; first | (exact fun ⟨q, hq, e, _⟩ => InR_no1 (N := 4) (by decide) c_1 ⟨q, hq, e⟩) | (exact fun ⟨q, hq, e, _⟩ => InR_no2 (N := 4) (by decide) c_6 ⟨q, hq, e⟩) | (rintro ⟨q, hq, e, e1, e2⟩; obtain rfl := (nI_eq (by omega) (by omega)).mp e; first | exact absurd e1 (Int32.not_le.mpr c_15) | exact c_24 e2))
      · -- 15 false
        refine x_iload_n h 2 dX0_changeSetting_18 rfl rfl ?_
        refine x_getsN h (t := 1) h.2.1.2.1.2.1 h.2.1.2.2.2.2 dX0_changeSetting_19 ?_
        refine x_iload_n h 1 dX0_changeSetting_22 rfl rfl ?_
        refine x_ti h (j := j) (f_MOSTi j) h.2.1.2.1.2.1.2 dX0_changeSetting_23 (by omega) (by decide) rfl ?_
        refine x_icmp_le h 30 dX0_changeSetting_24 (by decide) (fun c_24 => ?_) (fun c_24 => ?_)
        · -- 24 true
          refine x_aload_n h 0 dX0_changeSetting_30 rfl rfl ?_
          refine xg_X0_0 h hc in_X0_changeSetting_X0 (by decide +kernel) dX0_changeSetting_31 ?_
          refine x_iload_n h 1 dX0_changeSetting_34 rfl rfl ?_
          refine xl_sett h hc dX0_changeSetting_35 (by omega) ?_
          refine x_istore_n h [(3, .int (M c j)), (0, .ref (g.1 (24 * c))), (1, .int (nI j)), (2, .int v)] dX0_changeSetting_36 rfl (by decide) rfl ?_
          refine x_aload_n h 1 dX0_changeSetting_37 rfl rfl ?_
          refine xg_X0_0 h hc in_X0_changeSetting_X0 (by decide +kernel) dX0_changeSetting_38 ?_
          refine x_iload_n h 2 dX0_changeSetting_41 rfl rfl ?_
          refine x_iload_n h 3 dX0_changeSetting_42 rfl rfl ?_
          refine xs_sett h hc dX0_changeSetting_43 (by omega) ?_
          refine x_iload_n h 0 dX0_changeSetting_44 rfl rfl ?_
          exact hret _ _ _ _ _ dX0_changeSetting_45 (by exact ⟨rfl, _, Or.inr ⟨j, hj, rfl, Int32.not_lt.mp c_15, c_24, rfl, rfl⟩, by simp only [st2_va, va_up_up, va_up_k]⟩)
        · -- 24 false
          refine x_ldc h ((-1000001)) (by decide +kernel) dX0_changeSetting_27 ?_
          exact hret _ _ _ _ _ dX0_changeSetting_29 (by refine ⟨rfl, _, Or.inl ⟨?_, rfl, rfl⟩, (va_up_id _ _).symm⟩; first | (exact fun ⟨q, hq, e, _⟩ => InR_no1 (N := 4) (by decide) c_1 ⟨q, hq, e⟩) | (exact fun ⟨q, hq, e, _⟩ => InR_no2 (N := 4) (by decide) c_6 ⟨q, hq, e⟩) | (rintro ⟨q, hq, e, e1, e2⟩; obtain rfl := (nI_eq (by omega) (by omega)).mp e; first | exact absurd e1 (Int32.not_le.mpr c_15) | exact c_24 e2))

set_option maxRecDepth 20000 in
theorem ggX0_addCoins_X0_hasNet : GoodIn wsX0_addCoins wsX0_hasNet := goodIn_r _ [10, 11, 12, 13, 14, 15, 16, 17, 18, 19] (by decide +kernel) (by decide +kernel)
set_option maxRecDepth 20000 in
theorem gX0_addCoins_X0_hasNet : GoodIn wsX0_addCoins (wsV RX0 110 RX0 yX0_hasNet wsX0_hasNet) := goodIn_app (goodIn_of _ (by decide +kernel)) ggX0_addCoins_X0_hasNet
theorem dX0_addCoins_0 : decode cX0_addCoins 0 = .ok (.aload_n 0, 1) := by decide +kernel
theorem dX0_addCoins_1 : decode cX0_addCoins 1 = .ok (.iload_n 1, 1) := by decide +kernel
theorem dX0_addCoins_2 : decode cX0_addCoins 2 = .ok (.invokevirtual 110, 3) := by decide +kernel
theorem dX0_addCoins_5 : decode cX0_addCoins 5 = .ok (.ifCond .eq 15, 3) := by decide +kernel
theorem dX0_addCoins_8 : decode cX0_addCoins 8 = .ok (.iload_n 2, 1) := by decide +kernel
theorem dX0_addCoins_9 : decode cX0_addCoins 9 = .ok (.iconst 1, 1) := by decide +kernel
theorem dX0_addCoins_10 : decode cX0_addCoins 10 = .ok (.if_icmp .lt 10, 3) := by decide +kernel
theorem dX0_addCoins_13 : decode cX0_addCoins 13 = .ok (.iload_n 2, 1) := by decide +kernel
theorem dX0_addCoins_14 : decode cX0_addCoins 14 = .ok (.sipush 9999, 3) := by decide +kernel
theorem dX0_addCoins_17 : decode cX0_addCoins 17 = .ok (.if_icmp .le 6, 3) := by decide +kernel
theorem dX0_addCoins_20 : decode cX0_addCoins 20 = .ok (.ldc 64, 2) := by decide +kernel
theorem dX0_addCoins_22 : decode cX0_addCoins 22 = .ok (.ireturn, 1) := by decide +kernel
theorem dX0_addCoins_23 : decode cX0_addCoins 23 = .ok (.aload_n 0, 1) := by decide +kernel
theorem dX0_addCoins_24 : decode cX0_addCoins 24 = .ok (.getfield 23, 3) := by decide +kernel
theorem dX0_addCoins_27 : decode cX0_addCoins 27 = .ok (.iload_n 1, 1) := by decide +kernel
theorem dX0_addCoins_28 : decode cX0_addCoins 28 = .ok (.aaload, 1) := by decide +kernel
theorem dX0_addCoins_29 : decode cX0_addCoins 29 = .ok (.astore_n 3, 1) := by decide +kernel
theorem dX0_addCoins_30 : decode cX0_addCoins 30 = .ok (.aload_n 3, 1) := by decide +kernel
theorem dX0_addCoins_31 : decode cX0_addCoins 31 = .ok (.getfield 94, 3) := by decide +kernel
theorem dX0_addCoins_34 : decode cX0_addCoins 34 = .ok (.iload_n 2, 1) := by decide +kernel
theorem dX0_addCoins_35 : decode cX0_addCoins 35 = .ok (.iadd, 1) := by decide +kernel
theorem dX0_addCoins_36 : decode cX0_addCoins 36 = .ok (.ldc 113, 2) := by decide +kernel
theorem dX0_addCoins_38 : decode cX0_addCoins 38 = .ok (.if_icmp .le 6, 3) := by decide +kernel
theorem dX0_addCoins_41 : decode cX0_addCoins 41 = .ok (.ldc 77, 2) := by decide +kernel
theorem dX0_addCoins_43 : decode cX0_addCoins 43 = .ok (.ireturn, 1) := by decide +kernel
theorem dX0_addCoins_44 : decode cX0_addCoins 44 = .ok (.aload_n 3, 1) := by decide +kernel
theorem dX0_addCoins_45 : decode cX0_addCoins 45 = .ok (.dup, 1) := by decide +kernel
theorem dX0_addCoins_46 : decode cX0_addCoins 46 = .ok (.getfield 94, 3) := by decide +kernel
theorem dX0_addCoins_49 : decode cX0_addCoins 49 = .ok (.iload_n 2, 1) := by decide +kernel
theorem dX0_addCoins_50 : decode cX0_addCoins 50 = .ok (.iadd, 1) := by decide +kernel
theorem dX0_addCoins_51 : decode cX0_addCoins 51 = .ok (.putfield 94, 3) := by decide +kernel
theorem dX0_addCoins_54 : decode cX0_addCoins 54 = .ok (.aload_n 3, 1) := by decide +kernel
theorem dX0_addCoins_55 : decode cX0_addCoins 55 = .ok (.getfield 94, 3) := by decide +kernel
theorem dX0_addCoins_58 : decode cX0_addCoins 58 = .ok (.ireturn, 1) := by decide +kernel
abbrev rmX0_addCoins : Room := { frames := 1, cells := 0, slots := 0, locals := 21 }
set_option maxRecDepth 20000 in
theorem in_X0_addCoins_X0 : ∀ w ∈ wsX00, w ∈ wsX0_addCoins := by decide +kernel
set_option maxRecDepth 20000 in
theorem in_X0_addCoins_X2 : ∀ w ∈ wsX20, w ∈ wsX0_addCoins := by decide +kernel

set_option maxRecDepth 100000 in
set_option maxHeartbeats 4000000 in
theorem c_X0_addCoins {l : Launch} {g : Geo} {M : Nat → Nat → Int32} {P : Nat → Nat} {c : Nat} (hc : c < 6) {N : Nat} (hN : M c 5 = nI N) (hN6 : N ≤ 6) {n a : Int32} : Met l yX0_addCoins wsX0_addCoins rmX0_addCoins (cPre g [.ref (g.1 (24 * c)), .int n, .int a] M P) (cQi g (fun r M' P' => P = P' ∧ ∃ X', giveQ (M c) N n a r X' ∧ M' = va_up M c X')) 0 0 (gA g) := by
  refine met_i (cc := cX0_addCoins) (maxL := 4) (by decide) rfl ⟨rfl, rfl⟩ (Nat.le_of_ble_eq_true rfl) (fun x hx h hret => ?_)
  replace h : Cxk x g cX0_addCoins 4 wsX0_addCoins RX0 rmX0_addCoins := h
  show X x 0 [(0, .ref (g.1 (24 * c))), (1, .int n), (2, .int a)] [] M P
  refine x_aload_n h 0 dX0_addCoins_0 rfl rfl ?_
  refine x_iload_n h 1 dX0_addCoins_1 rfl rfl ?_
  refine x_callV h (As := [.int n]) 1 hx (c_X0_hasNet hc hN hN6) gX0_addCoins_X0_hasNet rfl ⟨rfl, rfl⟩ (by decide +kernel) rfl (by decide) (hk_chip hc) (E_chip hc) rfl rfl (Nat.le_of_ble_eq_true rfl) dX0_addCoins_2 (fun rv M' P' hp => ?_)
  obtain ⟨⟨rfl, rfl⟩, hp⟩ := hp
  rcases hp with ⟨⟨k2, hk2, rfl⟩, rfl⟩ | ⟨nk2, rfl⟩
  · -- call 2
    refine x_if_eq h 20 dX0_addCoins_5 (by decide) (fun c => absurd c (by decide)) (fun _ => ?_)
    refine x_iload_n h 2 dX0_addCoins_8 rfl rfl ?_
    refine x_iconst h (nI 1) dX0_addCoins_9 (by decide) ?_
    refine x_icmp_lt h 20 dX0_addCoins_10 (by decide) (fun c_10 => ?_) (fun c_10 => ?_)
    · -- 10 true
      refine x_ldc h ((-1000001)) (by decide +kernel) dX0_addCoins_20 ?_
      exact hret _ _ _ _ _ dX0_addCoins_22 (by refine ⟨rfl, _, Or.inl ⟨?_, rfl, rfl⟩, (va_up_id _ _).symm⟩; first | (exact fun q => nk2 q.1) | (exact fun q => absurd q.2.1 (Int32.not_le.mpr c_10)) | (exact fun q => c_17 q.2.2))
    · -- 10 false
      refine x_iload_n h 2 dX0_addCoins_13 rfl rfl ?_
      refine x_sipush h (nI 9999) dX0_addCoins_14 (by decide) ?_
      refine x_icmp_le h 23 dX0_addCoins_17 (by decide) (fun c_17 => ?_) (fun c_17 => ?_)
      · -- 17 true
        refine x_aload_n h 0 dX0_addCoins_23 rfl rfl ?_
        refine xg_X0_3 h hc in_X0_addCoins_X0 (by decide +kernel) dX0_addCoins_24 ?_
        refine x_iload_n h 1 dX0_addCoins_27 rfl rfl ?_
        refine xa_nets h hc dX0_addCoins_28 (by omega) ?_
        refine x_astore_n h [(3, .ref (g.1 (24 * c + 5 + k2))), (0, .ref (g.1 (24 * c))), (1, .int (nI k2)), (2, .int a)] dX0_addCoins_29 rfl (by decide) rfl ?_
        refine x_aload_n h 0 dX0_addCoins_30 rfl rfl ?_
        refine xg_X2_4 h hc (by omega) in_X0_addCoins_X2 (by decide +kernel) dX0_addCoins_31 ?_
        refine x_iload_n h 3 dX0_addCoins_34 rfl rfl ?_
        refine x_iadd h dX0_addCoins_35 ?_
        refine x_ldc h (nI 100000) (by decide +kernel) dX0_addCoins_36 ?_
        refine x_icmp_le h 44 dX0_addCoins_38 (by decide) (fun c_38 => ?_) (fun c_38 => ?_)
        · -- 38 true
          refine x_aload_n h 0 dX0_addCoins_44 rfl rfl ?_
          refine x_dup h dX0_addCoins_45 rfl ?_
          refine xg_X2_4 h hc (by omega) in_X0_addCoins_X2 (by decide +kernel) dX0_addCoins_46 ?_
          refine x_iload_n h 3 dX0_addCoins_49 rfl rfl ?_
          refine x_iadd h dX0_addCoins_50 ?_
          refine xp_X2_4 h hc (by omega) in_X0_addCoins_X2 (by decide +kernel) dX0_addCoins_51 ?_
          refine x_aload_n h 0 dX0_addCoins_54 rfl rfl ?_
          refine xg_X2_4 h hc (by omega) in_X0_addCoins_X2 (by decide +kernel) dX0_addCoins_55 ?_
          exact hret _ _ _ _ _ dX0_addCoins_58 (by exact ⟨rfl, _, Or.inr ⟨k2, hk2, rfl, Int32.not_lt.mp c_10, c_17, Or.inr ⟨c_38, (by simp [st2, upd]), rfl⟩⟩, by simp only [st2_va, va_up_up, va_up_k]⟩)
        · -- 38 false
          refine x_ldc h ((-1000003)) (by decide +kernel) dX0_addCoins_41 ?_
          exact hret _ _ _ _ _ dX0_addCoins_43 (by exact ⟨rfl, _, Or.inr ⟨k2, hk2, rfl, Int32.not_lt.mp c_10, c_17, Or.inl ⟨Int32.not_le.mp c_38, rfl, rfl⟩⟩, (va_up_id _ _).symm⟩)
      · -- 17 false
        refine x_ldc h ((-1000001)) (by decide +kernel) dX0_addCoins_20 ?_
        exact hret _ _ _ _ _ dX0_addCoins_22 (by refine ⟨rfl, _, Or.inl ⟨?_, rfl, rfl⟩, (va_up_id _ _).symm⟩; first | (exact fun q => nk2 q.1) | (exact fun q => absurd q.2.1 (Int32.not_le.mpr c_10)) | (exact fun q => c_17 q.2.2))
  · -- call 2
    refine x_if_eq h 20 dX0_addCoins_5 (by decide) (fun _ => ?_) (fun c => absurd (by decide) c)
    refine x_ldc h ((-1000001)) (by decide +kernel) dX0_addCoins_20 ?_
    exact hret _ _ _ _ _ dX0_addCoins_22 (by refine ⟨rfl, _, Or.inl ⟨?_, rfl, rfl⟩, (va_up_id _ _).symm⟩; first | (exact fun q => nk2 q.1) | (exact fun q => absurd q.2.1 (Int32.not_le.mpr c_10)) | (exact fun q => c_17 q.2.2))

theorem dX0_letPass_0 : decode cX0_letPass 0 = .ok (.iload_n 1, 1) := by decide +kernel
theorem dX0_letPass_1 : decode cX0_letPass 1 = .ok (.iconst 1, 1) := by decide +kernel
theorem dX0_letPass_2 : decode cX0_letPass 2 = .ok (.if_icmp .lt 9, 3) := by decide +kernel
theorem dX0_letPass_5 : decode cX0_letPass 5 = .ok (.iload_n 1, 1) := by decide +kernel
theorem dX0_letPass_6 : decode cX0_letPass 6 = .ok (.bipush 50, 2) := by decide +kernel
theorem dX0_letPass_8 : decode cX0_letPass 8 = .ok (.if_icmp .le 6, 3) := by decide +kernel
theorem dX0_letPass_11 : decode cX0_letPass 11 = .ok (.ldc 64, 2) := by decide +kernel
theorem dX0_letPass_13 : decode cX0_letPass 13 = .ok (.ireturn, 1) := by decide +kernel
theorem dX0_letPass_14 : decode cX0_letPass 14 = .ok (.aload_n 0, 1) := by decide +kernel
theorem dX0_letPass_15 : decode cX0_letPass 15 = .ok (.getfield 55, 3) := by decide +kernel
theorem dX0_letPass_18 : decode cX0_letPass 18 = .ok (.iload_n 1, 1) := by decide +kernel
theorem dX0_letPass_19 : decode cX0_letPass 19 = .ok (.iadd, 1) := by decide +kernel
theorem dX0_letPass_20 : decode cX0_letPass 20 = .ok (.ldc 113, 2) := by decide +kernel
theorem dX0_letPass_22 : decode cX0_letPass 22 = .ok (.if_icmp .le 6, 3) := by decide +kernel
theorem dX0_letPass_25 : decode cX0_letPass 25 = .ok (.ldc 77, 2) := by decide +kernel
theorem dX0_letPass_27 : decode cX0_letPass 27 = .ok (.ireturn, 1) := by decide +kernel
theorem dX0_letPass_28 : decode cX0_letPass 28 = .ok (.aload_n 0, 1) := by decide +kernel
theorem dX0_letPass_29 : decode cX0_letPass 29 = .ok (.dup, 1) := by decide +kernel
theorem dX0_letPass_30 : decode cX0_letPass 30 = .ok (.getfield 55, 3) := by decide +kernel
theorem dX0_letPass_33 : decode cX0_letPass 33 = .ok (.iload_n 1, 1) := by decide +kernel
theorem dX0_letPass_34 : decode cX0_letPass 34 = .ok (.iadd, 1) := by decide +kernel
theorem dX0_letPass_35 : decode cX0_letPass 35 = .ok (.putfield 55, 3) := by decide +kernel
theorem dX0_letPass_38 : decode cX0_letPass 38 = .ok (.aload_n 0, 1) := by decide +kernel
theorem dX0_letPass_39 : decode cX0_letPass 39 = .ok (.getfield 55, 3) := by decide +kernel
theorem dX0_letPass_42 : decode cX0_letPass 42 = .ok (.ireturn, 1) := by decide +kernel
abbrev rmX0_letPass : Room := { frames := 0, cells := 0, slots := 0, locals := 0 }
set_option maxRecDepth 20000 in
theorem in_X0_letPass_X0 : ∀ w ∈ wsX00, w ∈ wsX0_letPass := by decide +kernel

set_option maxRecDepth 100000 in
set_option maxHeartbeats 4000000 in
theorem c_X0_letPass {l : Launch} {g : Geo} {M : Nat → Nat → Int32} {P : Nat → Nat} {c : Nat} (hc : c < 6) {a : Int32} : Met l yX0_letPass wsX0_letPass rmX0_letPass (cPre g [.ref (g.1 (24 * c)), .int a] M P) (cQi g (fun r M' P' => P = P' ∧ ∃ X', passQ (M c) a r X' ∧ M' = va_up M c X')) 0 0 (gA g) := by
  refine met_i (cc := cX0_letPass) (maxL := 2) (by decide) rfl ⟨rfl, rfl⟩ (Nat.le_of_ble_eq_true rfl) (fun x hx h hret => ?_)
  replace h : Cxk x g cX0_letPass 2 wsX0_letPass RX0 rmX0_letPass := h
  show X x 0 [(0, .ref (g.1 (24 * c))), (1, .int a)] [] M P
  refine x_iload_n h 1 dX0_letPass_0 rfl rfl ?_
  refine x_iconst h (nI 1) dX0_letPass_1 (by decide) ?_
  refine x_icmp_lt h 11 dX0_letPass_2 (by decide) (fun c_2 => ?_) (fun c_2 => ?_)
  · -- 2 true
    refine x_ldc h ((-1000001)) (by decide +kernel) dX0_letPass_11 ?_
    exact hret _ _ _ _ _ dX0_letPass_13 (by refine ⟨rfl, _, Or.inl ⟨?_, rfl, rfl⟩, (va_up_id _ _).symm⟩; first | (exact fun q => absurd q.1 (Int32.not_le.mpr c_2)) | (exact fun q => c_8 q.2))
  · -- 2 false
    refine x_iload_n h 1 dX0_letPass_5 rfl rfl ?_
    refine x_bipush h (nI 50) dX0_letPass_6 (by decide) ?_
    refine x_icmp_le h 14 dX0_letPass_8 (by decide) (fun c_8 => ?_) (fun c_8 => ?_)
    · -- 8 true
      refine x_aload_n h 0 dX0_letPass_14 rfl rfl ?_
      refine xg_X0_7 h hc in_X0_letPass_X0 (by decide +kernel) dX0_letPass_15 ?_
      refine x_iload_n h 1 dX0_letPass_18 rfl rfl ?_
      refine x_iadd h dX0_letPass_19 ?_
      refine x_ldc h (nI 100000) (by decide +kernel) dX0_letPass_20 ?_
      refine x_icmp_le h 28 dX0_letPass_22 (by decide) (fun c_22 => ?_) (fun c_22 => ?_)
      · -- 22 true
        refine x_aload_n h 0 dX0_letPass_28 rfl rfl ?_
        refine x_dup h dX0_letPass_29 rfl ?_
        refine xg_X0_7 h hc in_X0_letPass_X0 (by decide +kernel) dX0_letPass_30 ?_
        refine x_iload_n h 1 dX0_letPass_33 rfl rfl ?_
        refine x_iadd h dX0_letPass_34 ?_
        refine xp_X0_7 h hc in_X0_letPass_X0 (by decide +kernel) dX0_letPass_35 ?_
        refine x_aload_n h 0 dX0_letPass_38 rfl rfl ?_
        refine xg_X0_7 h hc in_X0_letPass_X0 (by decide +kernel) dX0_letPass_39 ?_
        exact hret _ _ _ _ _ dX0_letPass_42 (by exact ⟨rfl, _, Or.inr ⟨Int32.not_lt.mp c_2, c_8, Or.inr ⟨c_22, (by simp [st2, upd]), rfl⟩⟩, by simp only [st2_va, va_up_up, va_up_k]⟩)
      · -- 22 false
        refine x_ldc h ((-1000003)) (by decide +kernel) dX0_letPass_25 ?_
        exact hret _ _ _ _ _ dX0_letPass_27 (by exact ⟨rfl, _, Or.inr ⟨Int32.not_lt.mp c_2, c_8, Or.inl ⟨Int32.not_le.mp c_22, rfl, rfl⟩⟩, (va_up_id _ _).symm⟩)
    · -- 8 false
      refine x_ldc h ((-1000001)) (by decide +kernel) dX0_letPass_11 ?_
      exact hret _ _ _ _ _ dX0_letPass_13 (by refine ⟨rfl, _, Or.inl ⟨?_, rfl, rfl⟩, (va_up_id _ _).symm⟩; first | (exact fun q => absurd q.1 (Int32.not_le.mpr c_2)) | (exact fun q => c_8 q.2))

set_option maxRecDepth 20000 in
theorem ggX0_factOfNet_X0_hasNet : GoodIn wsX0_factOfNet wsX0_hasNet := goodIn_r _ [17, 18, 28, 29, 30, 31, 32, 33, 34, 35] (by decide +kernel) (by decide +kernel)
set_option maxRecDepth 20000 in
theorem gX0_factOfNet_X0_hasNet : GoodIn wsX0_factOfNet (wsV RX0 110 RX0 yX0_hasNet wsX0_hasNet) := goodIn_app (goodIn_of _ (by decide +kernel)) ggX0_factOfNet_X0_hasNet
set_option maxRecDepth 20000 in
theorem ggX0_factOfNet_X0_cellsOwnedBy : GoodIn wsX0_factOfNet wsX0_cellsOwnedBy := goodIn_r _ [22, 23, 28, 29, 30, 31, 32, 33, 34, 35] (by decide +kernel) (by decide +kernel)
set_option maxRecDepth 20000 in
theorem gX0_factOfNet_X0_cellsOwnedBy : GoodIn wsX0_factOfNet (wsV RX0 115 RX0 yX0_cellsOwnedBy wsX0_cellsOwnedBy) := goodIn_app (goodIn_of _ (by decide +kernel)) ggX0_factOfNet_X0_cellsOwnedBy
set_option maxRecDepth 20000 in
theorem ggX0_factOfNet_X0_viasOf : GoodIn wsX0_factOfNet wsX0_viasOf := goodIn_r _ [27, 23, 28, 29, 30, 31, 32, 33, 34, 35] (by decide +kernel) (by decide +kernel)
set_option maxRecDepth 20000 in
theorem gX0_factOfNet_X0_viasOf : GoodIn wsX0_factOfNet (wsV RX0 119 RX0 yX0_viasOf wsX0_viasOf) := goodIn_app (goodIn_of _ (by decide +kernel)) ggX0_factOfNet_X0_viasOf
theorem dX0_factOfNet_0 : decode cX0_factOfNet 0 = .ok (.aload_n 0, 1) := by decide +kernel
theorem dX0_factOfNet_1 : decode cX0_factOfNet 1 = .ok (.iload_n 1, 1) := by decide +kernel
theorem dX0_factOfNet_2 : decode cX0_factOfNet 2 = .ok (.invokevirtual 110, 3) := by decide +kernel
theorem dX0_factOfNet_5 : decode cX0_factOfNet 5 = .ok (.ifCond .ne 6, 3) := by decide +kernel
theorem dX0_factOfNet_8 : decode cX0_factOfNet 8 = .ok (.ldc 64, 2) := by decide +kernel
theorem dX0_factOfNet_10 : decode cX0_factOfNet 10 = .ok (.ireturn, 1) := by decide +kernel
theorem dX0_factOfNet_11 : decode cX0_factOfNet 11 = .ok (.aload_n 0, 1) := by decide +kernel
theorem dX0_factOfNet_12 : decode cX0_factOfNet 12 = .ok (.getfield 23, 3) := by decide +kernel
theorem dX0_factOfNet_15 : decode cX0_factOfNet 15 = .ok (.iload_n 1, 1) := by decide +kernel
theorem dX0_factOfNet_16 : decode cX0_factOfNet 16 = .ok (.aaload, 1) := by decide +kernel
theorem dX0_factOfNet_17 : decode cX0_factOfNet 17 = .ok (.astore_n 3, 1) := by decide +kernel
theorem dX0_factOfNet_18 : decode cX0_factOfNet 18 = .ok (.iload_n 2, 1) := by decide +kernel
theorem dX0_factOfNet_19 : decode cX0_factOfNet 19 = .ok (.tableswitch 135 0 10 #[57, 62, 67, 85, 90, 95, 108, 114, 120, 125, 130], 57) := by decide +kernel
theorem dX0_factOfNet_76 : decode cX0_factOfNet 76 = .ok (.aload_n 3, 1) := by decide +kernel
theorem dX0_factOfNet_77 : decode cX0_factOfNet 77 = .ok (.getfield 82, 3) := by decide +kernel
theorem dX0_factOfNet_80 : decode cX0_factOfNet 80 = .ok (.ireturn, 1) := by decide +kernel
theorem dX0_factOfNet_81 : decode cX0_factOfNet 81 = .ok (.aload_n 3, 1) := by decide +kernel
theorem dX0_factOfNet_82 : decode cX0_factOfNet 82 = .ok (.getfield 85, 3) := by decide +kernel
theorem dX0_factOfNet_85 : decode cX0_factOfNet 85 = .ok (.ireturn, 1) := by decide +kernel
theorem dX0_factOfNet_86 : decode cX0_factOfNet 86 = .ok (.aload_n 3, 1) := by decide +kernel
theorem dX0_factOfNet_87 : decode cX0_factOfNet 87 = .ok (.getfield 88, 3) := by decide +kernel
theorem dX0_factOfNet_90 : decode cX0_factOfNet 90 = .ok (.iconst (-1), 1) := by decide +kernel
theorem dX0_factOfNet_91 : decode cX0_factOfNet 91 = .ok (.if_icmp .ne 8, 3) := by decide +kernel
theorem dX0_factOfNet_94 : decode cX0_factOfNet 94 = .ok (.ldc 114, 2) := by decide +kernel
theorem dX0_factOfNet_96 : decode cX0_factOfNet 96 = .ok (.goto 7, 3) := by decide +kernel
theorem dX0_factOfNet_99 : decode cX0_factOfNet 99 = .ok (.aload_n 3, 1) := by decide +kernel
theorem dX0_factOfNet_100 : decode cX0_factOfNet 100 = .ok (.getfield 88, 3) := by decide +kernel
theorem dX0_factOfNet_103 : decode cX0_factOfNet 103 = .ok (.ireturn, 1) := by decide +kernel
theorem dX0_factOfNet_104 : decode cX0_factOfNet 104 = .ok (.aload_n 3, 1) := by decide +kernel
theorem dX0_factOfNet_105 : decode cX0_factOfNet 105 = .ok (.getfield 91, 3) := by decide +kernel
theorem dX0_factOfNet_108 : decode cX0_factOfNet 108 = .ok (.ireturn, 1) := by decide +kernel
theorem dX0_factOfNet_109 : decode cX0_factOfNet 109 = .ok (.aload_n 3, 1) := by decide +kernel
theorem dX0_factOfNet_110 : decode cX0_factOfNet 110 = .ok (.getfield 94, 3) := by decide +kernel
theorem dX0_factOfNet_113 : decode cX0_factOfNet 113 = .ok (.ireturn, 1) := by decide +kernel
theorem dX0_factOfNet_114 : decode cX0_factOfNet 114 = .ok (.aload_n 3, 1) := by decide +kernel
theorem dX0_factOfNet_115 : decode cX0_factOfNet 115 = .ok (.getfield 97, 3) := by decide +kernel
theorem dX0_factOfNet_118 : decode cX0_factOfNet 118 = .ok (.ifCond .eq 7, 3) := by decide +kernel
theorem dX0_factOfNet_121 : decode cX0_factOfNet 121 = .ok (.iconst 1, 1) := by decide +kernel
theorem dX0_factOfNet_122 : decode cX0_factOfNet 122 = .ok (.goto 4, 3) := by decide +kernel
theorem dX0_factOfNet_125 : decode cX0_factOfNet 125 = .ok (.iconst 0, 1) := by decide +kernel
theorem dX0_factOfNet_126 : decode cX0_factOfNet 126 = .ok (.ireturn, 1) := by decide +kernel
theorem dX0_factOfNet_127 : decode cX0_factOfNet 127 = .ok (.aload_n 0, 1) := by decide +kernel
theorem dX0_factOfNet_128 : decode cX0_factOfNet 128 = .ok (.iload_n 1, 1) := by decide +kernel
theorem dX0_factOfNet_129 : decode cX0_factOfNet 129 = .ok (.invokevirtual 115, 3) := by decide +kernel
theorem dX0_factOfNet_132 : decode cX0_factOfNet 132 = .ok (.ireturn, 1) := by decide +kernel
theorem dX0_factOfNet_133 : decode cX0_factOfNet 133 = .ok (.aload_n 0, 1) := by decide +kernel
theorem dX0_factOfNet_134 : decode cX0_factOfNet 134 = .ok (.iload_n 1, 1) := by decide +kernel
theorem dX0_factOfNet_135 : decode cX0_factOfNet 135 = .ok (.invokevirtual 119, 3) := by decide +kernel
theorem dX0_factOfNet_138 : decode cX0_factOfNet 138 = .ok (.ireturn, 1) := by decide +kernel
theorem dX0_factOfNet_139 : decode cX0_factOfNet 139 = .ok (.aload_n 3, 1) := by decide +kernel
theorem dX0_factOfNet_140 : decode cX0_factOfNet 140 = .ok (.getfield 101, 3) := by decide +kernel
theorem dX0_factOfNet_143 : decode cX0_factOfNet 143 = .ok (.ireturn, 1) := by decide +kernel
theorem dX0_factOfNet_144 : decode cX0_factOfNet 144 = .ok (.aload_n 3, 1) := by decide +kernel
theorem dX0_factOfNet_145 : decode cX0_factOfNet 145 = .ok (.getfield 104, 3) := by decide +kernel
theorem dX0_factOfNet_148 : decode cX0_factOfNet 148 = .ok (.ireturn, 1) := by decide +kernel
theorem dX0_factOfNet_149 : decode cX0_factOfNet 149 = .ok (.aload_n 3, 1) := by decide +kernel
theorem dX0_factOfNet_150 : decode cX0_factOfNet 150 = .ok (.getfield 107, 3) := by decide +kernel
theorem dX0_factOfNet_153 : decode cX0_factOfNet 153 = .ok (.ireturn, 1) := by decide +kernel
theorem dX0_factOfNet_154 : decode cX0_factOfNet 154 = .ok (.ldc 64, 2) := by decide +kernel
theorem dX0_factOfNet_156 : decode cX0_factOfNet 156 = .ok (.ireturn, 1) := by decide +kernel
abbrev rmX0_factOfNet : Room := { frames := 1, cells := 0, slots := 0, locals := 23 }
set_option maxRecDepth 20000 in
theorem in_X0_factOfNet_X0 : ∀ w ∈ wsX00, w ∈ wsX0_factOfNet := by decide +kernel
set_option maxRecDepth 20000 in
theorem in_X0_factOfNet_X2 : ∀ w ∈ wsX20, w ∈ wsX0_factOfNet := by decide +kernel

set_option maxRecDepth 100000 in
set_option maxHeartbeats 4000000 in
theorem c_X0_factOfNet {l : Launch} {g : Geo} {M : Nat → Nat → Int32} {P : Nat → Nat} {c : Nat} (hc : c < 6) {N : Nat} (hN : M c 5 = nI N) (hN6 : N ≤ 6) {n w : Int32} : Met l yX0_factOfNet wsX0_factOfNet rmX0_factOfNet (cPre g [.ref (g.1 (24 * c)), .int n, .int w] M P) (cQi g (fun r M' P' => (P = P' ∧ M = M') ∧ ((¬ (InR N n ∧ InR 11 w) ∧ r = -1000001) ∨ ∃ k j, k < N ∧ n = nI k ∧ j < 11 ∧ w = nI j ∧ r = fNet eC (M c) k j))) 0 0 (gA g) := by
  refine met_i (cc := cX0_factOfNet) (maxL := 4) (by decide) rfl ⟨rfl, rfl⟩ (Nat.le_of_ble_eq_true rfl) (fun x hx h hret => ?_)
  replace h : Cxk x g cX0_factOfNet 4 wsX0_factOfNet RX0 rmX0_factOfNet := h
  show X x 0 [(0, .ref (g.1 (24 * c))), (1, .int n), (2, .int w)] [] M P
  refine x_aload_n h 0 dX0_factOfNet_0 rfl rfl ?_
  refine x_iload_n h 1 dX0_factOfNet_1 rfl rfl ?_
  refine x_callV h (As := [.int n]) 1 hx (c_X0_hasNet hc hN hN6) gX0_factOfNet_X0_hasNet rfl ⟨rfl, rfl⟩ (by decide +kernel) rfl (by decide) (hk_chip hc) (E_chip hc) rfl rfl (Nat.le_of_ble_eq_true rfl) dX0_factOfNet_2 (fun rv M' P' hp => ?_)
  obtain ⟨⟨rfl, rfl⟩, hp⟩ := hp
  rcases hp with ⟨⟨k2, hk2, rfl⟩, rfl⟩ | ⟨nk2, rfl⟩
  · -- call 2
    refine x_if_ne h 11 dX0_factOfNet_5 (by decide) (fun _ => ?_) (fun c => absurd c (by decide))
    refine x_aload_n h 0 dX0_factOfNet_11 rfl rfl ?_
    refine xg_X0_3 h hc in_X0_factOfNet_X0 (by decide +kernel) dX0_factOfNet_12 ?_
    refine x_iload_n h 1 dX0_factOfNet_15 rfl rfl ?_
    refine xa_nets h hc dX0_factOfNet_16 (by omega) ?_
    refine x_astore_n h [(3, .ref (g.1 (24 * c + 5 + k2))), (0, .ref (g.1 (24 * c))), (1, .int (nI k2)), (2, .int w)] dX0_factOfNet_17 rfl (by decide) rfl ?_
    refine x_iload_n h 3 dX0_factOfNet_18 rfl rfl ?_
    by_cases hsw : w.toInt < 0 ∨ ((10 : Nat) : Int) < w.toInt
    · refine x_tableOut h 154 dX0_factOfNet_19 hsw (by decide) ?_
      refine x_ldc h ((-1000001)) (by decide +kernel) dX0_factOfNet_154 ?_
      exact hret _ _ _ _ _ dX0_factOfNet_156 (by refine ⟨⟨rfl, rfl⟩, Or.inl ⟨?_, rfl⟩⟩; first | exact fun q => nk2 q.1 | exact fun q => sw_no hsw (by decide) (by decide) q.2)
    · obtain ⟨jsw, hjsw, rfl⟩ := sw_of hsw (by decide)
      rcases (show jsw = 0 ∨ jsw = 1 ∨ jsw = 2 ∨ jsw = 3 ∨ jsw = 4 ∨ jsw = 5 ∨ jsw = 6 ∨ jsw = 7 ∨ jsw = 8 ∨ jsw = 9 ∨ jsw = 10 by omega) with rfl | rfl | rfl | rfl | rfl | rfl | rfl | rfl | rfl | rfl | rfl
      · refine x_tableIn h (57) 76 dX0_factOfNet_19 (by decide) (by decide) rfl (by decide) ?_
        refine x_aload_n h 0 dX0_factOfNet_76 rfl rfl ?_
        refine xg_X2_0 h hc (by omega) in_X0_factOfNet_X2 (by decide +kernel) dX0_factOfNet_77 ?_
        exact hret _ _ _ _ _ dX0_factOfNet_80 (by exact ⟨⟨rfl, rfl⟩, Or.inr ⟨k2, 0, hk2, rfl, by decide, rfl, rfl⟩⟩)
      · refine x_tableIn h (62) 81 dX0_factOfNet_19 (by decide) (by decide) rfl (by decide) ?_
        refine x_aload_n h 0 dX0_factOfNet_81 rfl rfl ?_
        refine xg_X2_1 h hc (by omega) in_X0_factOfNet_X2 (by decide +kernel) dX0_factOfNet_82 ?_
        exact hret _ _ _ _ _ dX0_factOfNet_85 (by exact ⟨⟨rfl, rfl⟩, Or.inr ⟨k2, 1, hk2, rfl, by decide, rfl, rfl⟩⟩)
      · refine x_tableIn h (67) 86 dX0_factOfNet_19 (by decide) (by decide) rfl (by decide) ?_
        refine x_aload_n h 0 dX0_factOfNet_86 rfl rfl ?_
        refine xg_X2_2 h hc (by omega) in_X0_factOfNet_X2 (by decide +kernel) dX0_factOfNet_87 ?_
        refine x_iconst h ((-1)) dX0_factOfNet_90 (by decide) ?_
        refine x_icmp_ne h 99 dX0_factOfNet_91 (by decide) (fun c_91 => ?_) (fun c_91 => ?_)
        · -- 91 true
          refine x_aload_n h 0 dX0_factOfNet_99 rfl rfl ?_
          refine xg_X2_2 h hc (by omega) in_X0_factOfNet_X2 (by decide +kernel) dX0_factOfNet_100 ?_
          exact hret _ _ _ _ _ dX0_factOfNet_103 (by exact ⟨⟨rfl, rfl⟩, Or.inr ⟨k2, 2, hk2, rfl, by decide, rfl, (if_neg c_91).symm⟩⟩)
        · -- 91 false
          refine x_ldc h ((-1000004)) (by decide +kernel) dX0_factOfNet_94 ?_
          refine x_goto h 103 dX0_factOfNet_96 (by decide) ?_
          exact hret _ _ _ _ _ dX0_factOfNet_103 (by exact ⟨⟨rfl, rfl⟩, Or.inr ⟨k2, 2, hk2, rfl, by decide, rfl, (if_pos c_91).symm⟩⟩)
      · refine x_tableIn h (85) 104 dX0_factOfNet_19 (by decide) (by decide) rfl (by decide) ?_
        refine x_aload_n h 0 dX0_factOfNet_104 rfl rfl ?_
        refine xg_X2_3 h hc (by omega) in_X0_factOfNet_X2 (by decide +kernel) dX0_factOfNet_105 ?_
        exact hret _ _ _ _ _ dX0_factOfNet_108 (by exact ⟨⟨rfl, rfl⟩, Or.inr ⟨k2, 3, hk2, rfl, by decide, rfl, rfl⟩⟩)
      · refine x_tableIn h (90) 109 dX0_factOfNet_19 (by decide) (by decide) rfl (by decide) ?_
        refine x_aload_n h 0 dX0_factOfNet_109 rfl rfl ?_
        refine xg_X2_4 h hc (by omega) in_X0_factOfNet_X2 (by decide +kernel) dX0_factOfNet_110 ?_
        exact hret _ _ _ _ _ dX0_factOfNet_113 (by exact ⟨⟨rfl, rfl⟩, Or.inr ⟨k2, 4, hk2, rfl, by decide, rfl, rfl⟩⟩)
      · refine x_tableIn h (95) 114 dX0_factOfNet_19 (by decide) (by decide) rfl (by decide) ?_
        refine x_aload_n h 0 dX0_factOfNet_114 rfl rfl ?_
        refine xg_X2_5 h hc (by omega) in_X0_factOfNet_X2 (by decide +kernel) dX0_factOfNet_115 ?_
        refine x_if_eq h 125 dX0_factOfNet_118 (by decide) (fun c_118 => ?_) (fun c_118 => ?_)
        · -- 118 true
          refine x_iconst h (nI 0) dX0_factOfNet_125 (by decide) ?_
          exact hret _ _ _ _ _ dX0_factOfNet_126 (by exact ⟨⟨rfl, rfl⟩, Or.inr ⟨k2, 5, hk2, rfl, by decide, rfl, (by first | exact (if_pos c_118).symm | exact (if_neg c_118).symm)⟩⟩)
        · -- 118 false
          refine x_iconst h (nI 1) dX0_factOfNet_121 (by decide) ?_
          refine x_goto h 126 dX0_factOfNet_122 (by decide) ?_
          exact hret _ _ _ _ _ dX0_factOfNet_126 (by exact ⟨⟨rfl, rfl⟩, Or.inr ⟨k2, 5, hk2, rfl, by decide, rfl, (by first | exact (if_pos c_118).symm | exact (if_neg c_118).symm)⟩⟩)
      · refine x_tableIn h (108) 127 dX0_factOfNet_19 (by decide) (by decide) rfl (by decide) ?_
        refine x_aload_n h 1 dX0_factOfNet_127 rfl rfl ?_
        refine x_iload_n h 2 dX0_factOfNet_128 rfl rfl ?_
        refine x_callV h (As := [.int (nI k2)]) 1 hx (c_X0_cellsOwnedBy hc) gX0_factOfNet_X0_cellsOwnedBy rfl ⟨rfl, rfl⟩ (by decide +kernel) rfl (by decide) (hk_chip hc) (E_chip hc) rfl rfl (Nat.le_of_ble_eq_true rfl) dX0_factOfNet_129 (fun rv M' P' hp => ?_)
        obtain ⟨⟨rfl, rfl⟩, rfl⟩ := hp
        exact hret _ _ _ _ _ dX0_factOfNet_132 (by exact ⟨⟨rfl, rfl⟩, Or.inr ⟨k2, 6, hk2, rfl, by decide, rfl, rfl⟩⟩)
      · refine x_tableIn h (114) 133 dX0_factOfNet_19 (by decide) (by decide) rfl (by decide) ?_
        refine x_aload_n h 1 dX0_factOfNet_133 rfl rfl ?_
        refine x_iload_n h 2 dX0_factOfNet_134 rfl rfl ?_
        refine x_callV h (As := [.int (nI k2)]) 1 hx (c_X0_viasOf hc) gX0_factOfNet_X0_viasOf rfl ⟨rfl, rfl⟩ (by decide +kernel) rfl (by decide) (hk_chip hc) (E_chip hc) rfl rfl (Nat.le_of_ble_eq_true rfl) dX0_factOfNet_135 (fun rv M' P' hp => ?_)
        obtain ⟨⟨rfl, rfl⟩, rfl⟩ := hp
        exact hret _ _ _ _ _ dX0_factOfNet_138 (by exact ⟨⟨rfl, rfl⟩, Or.inr ⟨k2, 7, hk2, rfl, by decide, rfl, rfl⟩⟩)
      · refine x_tableIn h (120) 139 dX0_factOfNet_19 (by decide) (by decide) rfl (by decide) ?_
        refine x_aload_n h 0 dX0_factOfNet_139 rfl rfl ?_
        refine xg_X2_6 h hc (by omega) in_X0_factOfNet_X2 (by decide +kernel) dX0_factOfNet_140 ?_
        exact hret _ _ _ _ _ dX0_factOfNet_143 (by exact ⟨⟨rfl, rfl⟩, Or.inr ⟨k2, 8, hk2, rfl, by decide, rfl, rfl⟩⟩)
      · refine x_tableIn h (125) 144 dX0_factOfNet_19 (by decide) (by decide) rfl (by decide) ?_
        refine x_aload_n h 0 dX0_factOfNet_144 rfl rfl ?_
        refine xg_X2_7 h hc (by omega) in_X0_factOfNet_X2 (by decide +kernel) dX0_factOfNet_145 ?_
        exact hret _ _ _ _ _ dX0_factOfNet_148 (by exact ⟨⟨rfl, rfl⟩, Or.inr ⟨k2, 9, hk2, rfl, by decide, rfl, rfl⟩⟩)
      · refine x_tableIn h (130) 149 dX0_factOfNet_19 (by decide) (by decide) rfl (by decide) ?_
        refine x_aload_n h 0 dX0_factOfNet_149 rfl rfl ?_
        refine xg_X2_8 h hc (by omega) in_X0_factOfNet_X2 (by decide +kernel) dX0_factOfNet_150 ?_
        exact hret _ _ _ _ _ dX0_factOfNet_153 (by exact ⟨⟨rfl, rfl⟩, Or.inr ⟨k2, 10, hk2, rfl, by decide, rfl, rfl⟩⟩)
  · -- call 2
    refine x_if_ne h 11 dX0_factOfNet_5 (by decide) (fun c => absurd c (by decide)) (fun _ => ?_)
    refine x_ldc h ((-1000001)) (by decide +kernel) dX0_factOfNet_8 ?_
    exact hret _ _ _ _ _ dX0_factOfNet_10 (by refine ⟨⟨rfl, rfl⟩, Or.inl ⟨?_, rfl⟩⟩; first | exact fun q => nk2 q.1 | exact fun q => sw_no hsw (by decide) (by decide) q.2)

set_option maxRecDepth 20000 in
theorem ggX0_factOfClaim_X0_hasClaim : GoodIn wsX0_factOfClaim wsX0_hasClaim := goodIn_r _ [15, 16, 22, 23, 24, 25, 26, 27, 28, 29] (by decide +kernel) (by decide +kernel)
set_option maxRecDepth 20000 in
theorem gX0_factOfClaim_X0_hasClaim : GoodIn wsX0_factOfClaim (wsV RX0 188 RX0 yX0_hasClaim wsX0_hasClaim) := goodIn_app (goodIn_of _ (by decide +kernel)) ggX0_factOfClaim_X0_hasClaim
set_option maxRecDepth 20000 in
theorem ggX0_factOfClaim_X0_lossOf : GoodIn wsX0_factOfClaim wsX0_lossOf := goodIn_r _ [20, 21, 5, 6, 22, 23, 24, 25, 26, 27, 28, 29, 30, 31, 32, 33, 34, 35, 36] (by decide +kernel) (by decide +kernel)
set_option maxRecDepth 20000 in
theorem gX0_factOfClaim_X0_lossOf : GoodIn wsX0_factOfClaim (wsV RX0 197 RX0 yX0_lossOf wsX0_lossOf) := goodIn_app (goodIn_of _ (by decide +kernel)) ggX0_factOfClaim_X0_lossOf
theorem dX0_factOfClaim_0 : decode cX0_factOfClaim 0 = .ok (.aload_n 0, 1) := by decide +kernel
theorem dX0_factOfClaim_1 : decode cX0_factOfClaim 1 = .ok (.iload_n 1, 1) := by decide +kernel
theorem dX0_factOfClaim_2 : decode cX0_factOfClaim 2 = .ok (.invokevirtual 188, 3) := by decide +kernel
theorem dX0_factOfClaim_5 : decode cX0_factOfClaim 5 = .ok (.ifCond .ne 6, 3) := by decide +kernel
theorem dX0_factOfClaim_8 : decode cX0_factOfClaim 8 = .ok (.ldc 64, 2) := by decide +kernel
theorem dX0_factOfClaim_10 : decode cX0_factOfClaim 10 = .ok (.ireturn, 1) := by decide +kernel
theorem dX0_factOfClaim_11 : decode cX0_factOfClaim 11 = .ok (.aload_n 0, 1) := by decide +kernel
theorem dX0_factOfClaim_12 : decode cX0_factOfClaim 12 = .ok (.getfield 30, 3) := by decide +kernel
theorem dX0_factOfClaim_15 : decode cX0_factOfClaim 15 = .ok (.iload_n 1, 1) := by decide +kernel
theorem dX0_factOfClaim_16 : decode cX0_factOfClaim 16 = .ok (.aaload, 1) := by decide +kernel
theorem dX0_factOfClaim_17 : decode cX0_factOfClaim 17 = .ok (.astore_n 3, 1) := by decide +kernel
theorem dX0_factOfClaim_18 : decode cX0_factOfClaim 18 = .ok (.iload_n 2, 1) := by decide +kernel
theorem dX0_factOfClaim_19 : decode cX0_factOfClaim 19 = .ok (.tableswitch 91 0 7 #[45, 50, 55, 60, 65, 70, 76, 81], 45) := by decide +kernel
theorem dX0_factOfClaim_64 : decode cX0_factOfClaim 64 = .ok (.aload_n 3, 1) := by decide +kernel
theorem dX0_factOfClaim_65 : decode cX0_factOfClaim 65 = .ok (.getfield 169, 3) := by decide +kernel
theorem dX0_factOfClaim_68 : decode cX0_factOfClaim 68 = .ok (.ireturn, 1) := by decide +kernel
theorem dX0_factOfClaim_69 : decode cX0_factOfClaim 69 = .ok (.aload_n 3, 1) := by decide +kernel
theorem dX0_factOfClaim_70 : decode cX0_factOfClaim 70 = .ok (.getfield 172, 3) := by decide +kernel
theorem dX0_factOfClaim_73 : decode cX0_factOfClaim 73 = .ok (.ireturn, 1) := by decide +kernel
theorem dX0_factOfClaim_74 : decode cX0_factOfClaim 74 = .ok (.aload_n 3, 1) := by decide +kernel
theorem dX0_factOfClaim_75 : decode cX0_factOfClaim 75 = .ok (.getfield 175, 3) := by decide +kernel
theorem dX0_factOfClaim_78 : decode cX0_factOfClaim 78 = .ok (.ireturn, 1) := by decide +kernel
theorem dX0_factOfClaim_79 : decode cX0_factOfClaim 79 = .ok (.aload_n 3, 1) := by decide +kernel
theorem dX0_factOfClaim_80 : decode cX0_factOfClaim 80 = .ok (.getfield 178, 3) := by decide +kernel
theorem dX0_factOfClaim_83 : decode cX0_factOfClaim 83 = .ok (.ireturn, 1) := by decide +kernel
theorem dX0_factOfClaim_84 : decode cX0_factOfClaim 84 = .ok (.aload_n 3, 1) := by decide +kernel
theorem dX0_factOfClaim_85 : decode cX0_factOfClaim 85 = .ok (.getfield 181, 3) := by decide +kernel
theorem dX0_factOfClaim_88 : decode cX0_factOfClaim 88 = .ok (.ireturn, 1) := by decide +kernel
theorem dX0_factOfClaim_89 : decode cX0_factOfClaim 89 = .ok (.aload_n 0, 1) := by decide +kernel
theorem dX0_factOfClaim_90 : decode cX0_factOfClaim 90 = .ok (.aload_n 3, 1) := by decide +kernel
theorem dX0_factOfClaim_91 : decode cX0_factOfClaim 91 = .ok (.invokevirtual 197, 3) := by decide +kernel
theorem dX0_factOfClaim_94 : decode cX0_factOfClaim 94 = .ok (.ireturn, 1) := by decide +kernel
theorem dX0_factOfClaim_95 : decode cX0_factOfClaim 95 = .ok (.aload_n 3, 1) := by decide +kernel
theorem dX0_factOfClaim_96 : decode cX0_factOfClaim 96 = .ok (.getfield 182, 3) := by decide +kernel
theorem dX0_factOfClaim_99 : decode cX0_factOfClaim 99 = .ok (.ireturn, 1) := by decide +kernel
theorem dX0_factOfClaim_100 : decode cX0_factOfClaim 100 = .ok (.aload_n 0, 1) := by decide +kernel
theorem dX0_factOfClaim_101 : decode cX0_factOfClaim 101 = .ok (.getfield 55, 3) := by decide +kernel
theorem dX0_factOfClaim_104 : decode cX0_factOfClaim 104 = .ok (.aload_n 3, 1) := by decide +kernel
theorem dX0_factOfClaim_105 : decode cX0_factOfClaim 105 = .ok (.getfield 185, 3) := by decide +kernel
theorem dX0_factOfClaim_108 : decode cX0_factOfClaim 108 = .ok (.isub, 1) := by decide +kernel
theorem dX0_factOfClaim_109 : decode cX0_factOfClaim 109 = .ok (.ireturn, 1) := by decide +kernel
theorem dX0_factOfClaim_110 : decode cX0_factOfClaim 110 = .ok (.ldc 64, 2) := by decide +kernel
theorem dX0_factOfClaim_112 : decode cX0_factOfClaim 112 = .ok (.ireturn, 1) := by decide +kernel
abbrev rmX0_factOfClaim : Room := { frames := 1, cells := 0, slots := 0, locals := 21 }
set_option maxRecDepth 20000 in
theorem in_X0_factOfClaim_X0 : ∀ w ∈ wsX00, w ∈ wsX0_factOfClaim := by decide +kernel
set_option maxRecDepth 20000 in
theorem in_X0_factOfClaim_X1 : ∀ w ∈ wsX10, w ∈ wsX0_factOfClaim := by decide +kernel

set_option maxRecDepth 100000 in
set_option maxHeartbeats 4000000 in
theorem c_X0_factOfClaim {l : Launch} {g : Geo} {M : Nat → Nat → Int32} {P : Nat → Nat} {c : Nat} (hc : c < 6) {K : Nat} (hK : M c 6 = nI K) (hK12 : K ≤ 12) {n w : Int32} : Met l yX0_factOfClaim wsX0_factOfClaim rmX0_factOfClaim (cPre g [.ref (g.1 (24 * c)), .int n, .int w] M P) (cQi g (fun r M' P' => (P = P' ∧ M = M') ∧ ((¬ (InR K n ∧ InR 8 w) ∧ r = -1000001) ∨ ∃ i j, i < K ∧ n = nI i ∧ j < 8 ∧ w = nI j ∧ r = fClm (M c) i j))) 0 0 (gA g) := by
  refine met_i (cc := cX0_factOfClaim) (maxL := 4) (by decide) rfl ⟨rfl, rfl⟩ (Nat.le_of_ble_eq_true rfl) (fun x hx h hret => ?_)
  replace h : Cxk x g cX0_factOfClaim 4 wsX0_factOfClaim RX0 rmX0_factOfClaim := h
  show X x 0 [(0, .ref (g.1 (24 * c))), (1, .int n), (2, .int w)] [] M P
  refine x_aload_n h 0 dX0_factOfClaim_0 rfl rfl ?_
  refine x_iload_n h 1 dX0_factOfClaim_1 rfl rfl ?_
  refine x_callV h (As := [.int n]) 1 hx (c_X0_hasClaim hc hK hK12) gX0_factOfClaim_X0_hasClaim rfl ⟨rfl, rfl⟩ (by decide +kernel) rfl (by decide) (hk_chip hc) (E_chip hc) rfl rfl (Nat.le_of_ble_eq_true rfl) dX0_factOfClaim_2 (fun rv M' P' hp => ?_)
  obtain ⟨⟨rfl, rfl⟩, hp⟩ := hp
  rcases hp with ⟨⟨k2, hk2, rfl⟩, rfl⟩ | ⟨nk2, rfl⟩
  · -- call 2
    refine x_if_ne h 11 dX0_factOfClaim_5 (by decide) (fun _ => ?_) (fun c => absurd c (by decide))
    refine x_aload_n h 0 dX0_factOfClaim_11 rfl rfl ?_
    refine xg_X0_4 h hc in_X0_factOfClaim_X0 (by decide +kernel) dX0_factOfClaim_12 ?_
    refine x_iload_n h 1 dX0_factOfClaim_15 rfl rfl ?_
    refine xa_clms h hc dX0_factOfClaim_16 (by omega) ?_
    refine x_astore_n h [(3, .ref (g.1 (24 * c + 12 + k2))), (0, .ref (g.1 (24 * c))), (1, .int (nI k2)), (2, .int w)] dX0_factOfClaim_17 rfl (by decide) rfl ?_
    refine x_iload_n h 3 dX0_factOfClaim_18 rfl rfl ?_
    by_cases hsw : w.toInt < 0 ∨ ((7 : Nat) : Int) < w.toInt
    · refine x_tableOut h 110 dX0_factOfClaim_19 hsw (by decide) ?_
      refine x_ldc h ((-1000001)) (by decide +kernel) dX0_factOfClaim_110 ?_
      exact hret _ _ _ _ _ dX0_factOfClaim_112 (by refine ⟨⟨rfl, rfl⟩, Or.inl ⟨?_, rfl⟩⟩; first | exact fun q => nk2 q.1 | exact fun q => sw_no hsw (by decide) (by decide) q.2)
    · obtain ⟨jsw, hjsw, rfl⟩ := sw_of hsw (by decide)
      rcases (show jsw = 0 ∨ jsw = 1 ∨ jsw = 2 ∨ jsw = 3 ∨ jsw = 4 ∨ jsw = 5 ∨ jsw = 6 ∨ jsw = 7 by omega) with rfl | rfl | rfl | rfl | rfl | rfl | rfl | rfl
      · refine x_tableIn h (45) 64 dX0_factOfClaim_19 (by decide) (by decide) rfl (by decide) ?_
        refine x_aload_n h 0 dX0_factOfClaim_64 rfl rfl ?_
        refine xg_X1_0 h hc (by omega) in_X0_factOfClaim_X1 (by decide +kernel) dX0_factOfClaim_65 ?_
        exact hret _ _ _ _ _ dX0_factOfClaim_68 (by exact ⟨⟨rfl, rfl⟩, Or.inr ⟨k2, 0, hk2, rfl, by decide, rfl, rfl⟩⟩)
      · refine x_tableIn h (50) 69 dX0_factOfClaim_19 (by decide) (by decide) rfl (by decide) ?_
        refine x_aload_n h 0 dX0_factOfClaim_69 rfl rfl ?_
        refine xg_X1_1 h hc (by omega) in_X0_factOfClaim_X1 (by decide +kernel) dX0_factOfClaim_70 ?_
        exact hret _ _ _ _ _ dX0_factOfClaim_73 (by exact ⟨⟨rfl, rfl⟩, Or.inr ⟨k2, 1, hk2, rfl, by decide, rfl, rfl⟩⟩)
      · refine x_tableIn h (55) 74 dX0_factOfClaim_19 (by decide) (by decide) rfl (by decide) ?_
        refine x_aload_n h 0 dX0_factOfClaim_74 rfl rfl ?_
        refine xg_X1_2 h hc (by omega) in_X0_factOfClaim_X1 (by decide +kernel) dX0_factOfClaim_75 ?_
        exact hret _ _ _ _ _ dX0_factOfClaim_78 (by exact ⟨⟨rfl, rfl⟩, Or.inr ⟨k2, 2, hk2, rfl, by decide, rfl, rfl⟩⟩)
      · refine x_tableIn h (60) 79 dX0_factOfClaim_19 (by decide) (by decide) rfl (by decide) ?_
        refine x_aload_n h 0 dX0_factOfClaim_79 rfl rfl ?_
        refine xg_X1_3 h hc (by omega) in_X0_factOfClaim_X1 (by decide +kernel) dX0_factOfClaim_80 ?_
        exact hret _ _ _ _ _ dX0_factOfClaim_83 (by exact ⟨⟨rfl, rfl⟩, Or.inr ⟨k2, 3, hk2, rfl, by decide, rfl, rfl⟩⟩)
      · refine x_tableIn h (65) 84 dX0_factOfClaim_19 (by decide) (by decide) rfl (by decide) ?_
        refine x_aload_n h 0 dX0_factOfClaim_84 rfl rfl ?_
        refine xg_X1_4 h hc (by omega) in_X0_factOfClaim_X1 (by decide +kernel) dX0_factOfClaim_85 ?_
        exact hret _ _ _ _ _ dX0_factOfClaim_88 (by exact ⟨⟨rfl, rfl⟩, Or.inr ⟨k2, 4, hk2, rfl, by decide, rfl, rfl⟩⟩)
      · refine x_tableIn h (70) 89 dX0_factOfClaim_19 (by decide) (by decide) rfl (by decide) ?_
        refine x_aload_n h 1 dX0_factOfClaim_89 rfl rfl ?_
        refine x_aload_n h 0 dX0_factOfClaim_90 rfl rfl ?_
        refine x_callV h (As := [.ref (g.1 (24 * c + 12 + k2))]) 1 hx (c_X0_lossOf hc (by omega)) gX0_factOfClaim_X0_lossOf rfl ⟨rfl, rfl⟩ (by decide +kernel) rfl (by decide) (hk_chip hc) (E_chip hc) rfl rfl (Nat.le_of_ble_eq_true rfl) dX0_factOfClaim_91 (fun rv M' P' hp => ?_)
        obtain ⟨⟨rfl, rfl⟩, rfl⟩ := hp
        exact hret _ _ _ _ _ dX0_factOfClaim_94 (by exact ⟨⟨rfl, rfl⟩, Or.inr ⟨k2, 5, hk2, rfl, by decide, rfl, rfl⟩⟩)
      · refine x_tableIn h (76) 95 dX0_factOfClaim_19 (by decide) (by decide) rfl (by decide) ?_
        refine x_aload_n h 0 dX0_factOfClaim_95 rfl rfl ?_
        refine xg_X1_5 h hc (by omega) in_X0_factOfClaim_X1 (by decide +kernel) dX0_factOfClaim_96 ?_
        exact hret _ _ _ _ _ dX0_factOfClaim_99 (by exact ⟨⟨rfl, rfl⟩, Or.inr ⟨k2, 6, hk2, rfl, by decide, rfl, rfl⟩⟩)
      · refine x_tableIn h (81) 100 dX0_factOfClaim_19 (by decide) (by decide) rfl (by decide) ?_
        refine x_aload_n h 1 dX0_factOfClaim_100 rfl rfl ?_
        refine xg_X0_7 h hc in_X0_factOfClaim_X0 (by decide +kernel) dX0_factOfClaim_101 ?_
        refine x_aload_n h 0 dX0_factOfClaim_104 rfl rfl ?_
        refine xg_X1_6 h hc (by omega) in_X0_factOfClaim_X1 (by decide +kernel) dX0_factOfClaim_105 ?_
        refine x_isub h dX0_factOfClaim_108 ?_
        exact hret _ _ _ _ _ dX0_factOfClaim_109 (by exact ⟨⟨rfl, rfl⟩, Or.inr ⟨k2, 7, hk2, rfl, by decide, rfl, rfl⟩⟩)
  · -- call 2
    refine x_if_ne h 11 dX0_factOfClaim_5 (by decide) (fun c => absurd c (by decide)) (fun _ => ?_)
    refine x_ldc h ((-1000001)) (by decide +kernel) dX0_factOfClaim_8 ?_
    exact hret _ _ _ _ _ dX0_factOfClaim_10 (by refine ⟨⟨rfl, rfl⟩, Or.inl ⟨?_, rfl⟩⟩; first | exact fun q => nk2 q.1 | exact fun q => sw_no hsw (by decide) (by decide) q.2)

theorem dX0_appealsToHear_0 : decode cX0_appealsToHear 0 = .ok (.iconst 0, 1) := by decide +kernel
theorem dX0_appealsToHear_1 : decode cX0_appealsToHear 1 = .ok (.istore_n 1, 1) := by decide +kernel
theorem dX0_appealsToHear_2 : decode cX0_appealsToHear 2 = .ok (.iconst 0, 1) := by decide +kernel
theorem dX0_appealsToHear_3 : decode cX0_appealsToHear 3 = .ok (.istore_n 2, 1) := by decide +kernel
theorem dX0_appealsToHear_4 : decode cX0_appealsToHear 4 = .ok (.iload_n 2, 1) := by decide +kernel
theorem dX0_appealsToHear_5 : decode cX0_appealsToHear 5 = .ok (.aload_n 0, 1) := by decide +kernel
theorem dX0_appealsToHear_6 : decode cX0_appealsToHear 6 = .ok (.getfield 49, 3) := by decide +kernel
theorem dX0_appealsToHear_9 : decode cX0_appealsToHear 9 = .ok (.if_icmp .ge 31, 3) := by decide +kernel
theorem dX0_appealsToHear_12 : decode cX0_appealsToHear 12 = .ok (.iload_n 2, 1) := by decide +kernel
theorem dX0_appealsToHear_13 : decode cX0_appealsToHear 13 = .ok (.bipush 12, 2) := by decide +kernel
theorem dX0_appealsToHear_15 : decode cX0_appealsToHear 15 = .ok (.if_icmp .ge 25, 3) := by decide +kernel
theorem dX0_appealsToHear_18 : decode cX0_appealsToHear 18 = .ok (.aload_n 0, 1) := by decide +kernel
theorem dX0_appealsToHear_19 : decode cX0_appealsToHear 19 = .ok (.getfield 30, 3) := by decide +kernel
theorem dX0_appealsToHear_22 : decode cX0_appealsToHear 22 = .ok (.iload_n 2, 1) := by decide +kernel
theorem dX0_appealsToHear_23 : decode cX0_appealsToHear 23 = .ok (.aaload, 1) := by decide +kernel
theorem dX0_appealsToHear_24 : decode cX0_appealsToHear 24 = .ok (.getfield 182, 3) := by decide +kernel
theorem dX0_appealsToHear_27 : decode cX0_appealsToHear 27 = .ok (.iconst 1, 1) := by decide +kernel
theorem dX0_appealsToHear_28 : decode cX0_appealsToHear 28 = .ok (.if_icmp .ne 6, 3) := by decide +kernel
theorem dX0_appealsToHear_31 : decode cX0_appealsToHear 31 = .ok (.iinc 1 1, 3) := by decide +kernel
theorem dX0_appealsToHear_34 : decode cX0_appealsToHear 34 = .ok (.iinc 2 1, 3) := by decide +kernel
theorem dX0_appealsToHear_37 : decode cX0_appealsToHear 37 = .ok (.goto (-33), 3) := by decide +kernel
theorem dX0_appealsToHear_40 : decode cX0_appealsToHear 40 = .ok (.iload_n 1, 1) := by decide +kernel
theorem dX0_appealsToHear_41 : decode cX0_appealsToHear 41 = .ok (.ireturn, 1) := by decide +kernel
abbrev rmX0_appealsToHear : Room := { frames := 0, cells := 0, slots := 0, locals := 0 }
set_option maxRecDepth 20000 in
theorem in_X0_appealsToHear_X0 : ∀ w ∈ wsX00, w ∈ wsX0_appealsToHear := by decide +kernel
set_option maxRecDepth 20000 in
theorem in_X0_appealsToHear_X1 : ∀ w ∈ wsX10, w ∈ wsX0_appealsToHear := by decide +kernel

set_option maxRecDepth 100000 in
set_option maxHeartbeats 4000000 in
theorem c_X0_appealsToHear {l : Launch} {g : Geo} {M : Nat → Nat → Int32} {P : Nat → Nat} {c : Nat} (hc : c < 6) {K : Nat} (hK : M c 6 = nI K) (hK12 : K ≤ 12) : Met l yX0_appealsToHear wsX0_appealsToHear rmX0_appealsToHear (cPre g [.ref (g.1 (24 * c))] M P) (cQi g (fun r M' P' => (P = P' ∧ M = M') ∧ r = nI (appl (M c) K))) 0 0 (gA g) := by
  refine met_i (cc := cX0_appealsToHear) (maxL := 3) (by decide) rfl ⟨rfl, rfl⟩ (Nat.le_of_ble_eq_true rfl) (fun x hx h hret => ?_)
  replace h : Cxk x g cX0_appealsToHear 3 wsX0_appealsToHear RX0 rmX0_appealsToHear := h
  show X x 0 [(0, .ref (g.1 (24 * c)))] [] M P
  refine x_iconst h (nI 0) dX0_appealsToHear_0 (by decide) ?_
  refine x_istore_n h [(1, .int (nI 0)), (0, .ref (g.1 (24 * c)))] dX0_appealsToHear_1 rfl (by decide) rfl ?_
  refine x_iconst h (nI 0) dX0_appealsToHear_2 (by decide) ?_
  refine x_istore_n h [(2, .int (nI 0)), (1, .int (nI 0)), (0, .ref (g.1 (24 * c)))] dX0_appealsToHear_3 rfl (by decide) rfl ?_
  have L4 : ∀ (fu : Nat) (i : Nat) (k : Nat), (K - i) < fu → (i ≤ K) → (k = cnt (fun a => decide (M c (223 + 13 * a + 5) = nI 1)) i) → X x 4 [(0, .ref (g.1 (24 * c))), (1, .int (nI k)), (2, .int (nI i))] [] M P := by
    intro fu
    induction fu with
    | zero => intro i k hmu4; exact absurd hmu4 (Nat.not_lt_zero _)
    | succ fu ih4 =>
      intro i k hmu4 hi hk
      refine x_iload_n h 2 dX0_appealsToHear_4 rfl rfl ?_
      refine x_aload_n h 0 dX0_appealsToHear_5 rfl rfl ?_
      refine xg_X0_6 h hc in_X0_appealsToHear_X0 (by decide +kernel) dX0_appealsToHear_6 ?_
      refine x_top (nI K) (hK) ?_
      refine x_icmp_ge_n h 40 dX0_appealsToHear_9 (by decide) (by first | omega | (have := cnt_le (fun a => decide (M c (223 + 13 * a + 5) = nI 1)) i; omega)) (by first | omega | (have := cnt_le (fun a => decide (M c (223 + 13 * a + 5) = nI 1)) i; omega)) (fun c_9 => ?_) (fun c_9 => ?_)
      · -- 9 true
        refine x_iload_n h 1 dX0_appealsToHear_40 rfl rfl ?_
        exact hret _ _ _ _ _ dX0_appealsToHear_41 (by obtain rfl : i = K := (by omega); subst hk; exact ⟨⟨rfl, rfl⟩, rfl⟩)
      · -- 9 false
        refine x_iload_n h 2 dX0_appealsToHear_12 rfl rfl ?_
        refine x_bipush h (nI 12) dX0_appealsToHear_13 (by decide) ?_
        refine x_icmp_ge_n h 40 dX0_appealsToHear_15 (by decide) (by first | omega | (have := cnt_le (fun a => decide (M c (223 + 13 * a + 5) = nI 1)) i; omega)) (by decide) (fun c_15 => by exact absurd c_15 (by omega)) (fun c_15 => ?_)
        refine x_aload_n h 0 dX0_appealsToHear_18 rfl rfl ?_
        refine xg_X0_4 h hc in_X0_appealsToHear_X0 (by decide +kernel) dX0_appealsToHear_19 ?_
        refine x_iload_n h 2 dX0_appealsToHear_22 rfl rfl ?_
        refine xa_clms h hc dX0_appealsToHear_23 (by omega) ?_
        refine xg_X1_5 h hc (by omega) in_X0_appealsToHear_X1 (by decide +kernel) dX0_appealsToHear_24 ?_
        refine x_iconst h (nI 1) dX0_appealsToHear_27 (by decide) ?_
        refine x_icmp_ne h 34 dX0_appealsToHear_28 (by decide) (fun c_28 => ?_) (fun c_28 => ?_)
        · -- 28 true
          refine x_iinc_n h 2 (n := 1) [(2, .int (nI (i + 1))), (0, .ref (g.1 (24 * c))), (1, .int (nI k))] dX0_appealsToHear_34 rfl (by decide) rfl ?_
          refine x_goto h 4 dX0_appealsToHear_37 (by decide) ?_
          exact x_lv (ih4 (i + 1) k (by omega) (by omega) (by simp [cnt, hk, *])) [1, 2, 0] rfl
        · -- 28 false
          refine x_iinc_n h 1 (n := 1) [(1, .int (nI (k + 1))), (0, .ref (g.1 (24 * c))), (2, .int (nI i))] dX0_appealsToHear_31 rfl (by decide) rfl ?_
          refine x_iinc_n h 2 (n := 1) [(2, .int (nI (i + 1))), (1, .int (nI (k + 1))), (0, .ref (g.1 (24 * c)))] dX0_appealsToHear_34 rfl (by decide) rfl ?_
          refine x_goto h 4 dX0_appealsToHear_37 (by decide) ?_
          exact x_lv (ih4 (i + 1) (k + 1) (by omega) (by omega) (by simp [cnt, hk, *])) [2, 1, 0] rfl
  exact x_lv (L4 _ 0 0 (Nat.lt_succ_self _) (by omega) (by rfl)) [2, 1, 0] rfl

theorem dX0_joinedNets_0 : decode cX0_joinedNets 0 = .ok (.iconst 0, 1) := by decide +kernel
theorem dX0_joinedNets_1 : decode cX0_joinedNets 1 = .ok (.istore_n 1, 1) := by decide +kernel
theorem dX0_joinedNets_2 : decode cX0_joinedNets 2 = .ok (.iconst 0, 1) := by decide +kernel
theorem dX0_joinedNets_3 : decode cX0_joinedNets 3 = .ok (.istore_n 2, 1) := by decide +kernel
theorem dX0_joinedNets_4 : decode cX0_joinedNets 4 = .ok (.iload_n 2, 1) := by decide +kernel
theorem dX0_joinedNets_5 : decode cX0_joinedNets 5 = .ok (.aload_n 0, 1) := by decide +kernel
theorem dX0_joinedNets_6 : decode cX0_joinedNets 6 = .ok (.getfield 41, 3) := by decide +kernel
theorem dX0_joinedNets_9 : decode cX0_joinedNets 9 = .ok (.if_icmp .ge 30, 3) := by decide +kernel
theorem dX0_joinedNets_12 : decode cX0_joinedNets 12 = .ok (.iload_n 2, 1) := by decide +kernel
theorem dX0_joinedNets_13 : decode cX0_joinedNets 13 = .ok (.bipush 6, 2) := by decide +kernel
theorem dX0_joinedNets_15 : decode cX0_joinedNets 15 = .ok (.if_icmp .ge 24, 3) := by decide +kernel
theorem dX0_joinedNets_18 : decode cX0_joinedNets 18 = .ok (.aload_n 0, 1) := by decide +kernel
theorem dX0_joinedNets_19 : decode cX0_joinedNets 19 = .ok (.getfield 23, 3) := by decide +kernel
theorem dX0_joinedNets_22 : decode cX0_joinedNets 22 = .ok (.iload_n 2, 1) := by decide +kernel
theorem dX0_joinedNets_23 : decode cX0_joinedNets 23 = .ok (.aaload, 1) := by decide +kernel
theorem dX0_joinedNets_24 : decode cX0_joinedNets 24 = .ok (.getfield 97, 3) := by decide +kernel
theorem dX0_joinedNets_27 : decode cX0_joinedNets 27 = .ok (.ifCond .eq 6, 3) := by decide +kernel
theorem dX0_joinedNets_30 : decode cX0_joinedNets 30 = .ok (.iinc 1 1, 3) := by decide +kernel
theorem dX0_joinedNets_33 : decode cX0_joinedNets 33 = .ok (.iinc 2 1, 3) := by decide +kernel
theorem dX0_joinedNets_36 : decode cX0_joinedNets 36 = .ok (.goto (-32), 3) := by decide +kernel
theorem dX0_joinedNets_39 : decode cX0_joinedNets 39 = .ok (.iload_n 1, 1) := by decide +kernel
theorem dX0_joinedNets_40 : decode cX0_joinedNets 40 = .ok (.ireturn, 1) := by decide +kernel
abbrev rmX0_joinedNets : Room := { frames := 0, cells := 0, slots := 0, locals := 0 }
set_option maxRecDepth 20000 in
theorem in_X0_joinedNets_X0 : ∀ w ∈ wsX00, w ∈ wsX0_joinedNets := by decide +kernel
set_option maxRecDepth 20000 in
theorem in_X0_joinedNets_X2 : ∀ w ∈ wsX20, w ∈ wsX0_joinedNets := by decide +kernel

set_option maxRecDepth 100000 in
set_option maxHeartbeats 4000000 in
theorem c_X0_joinedNets {l : Launch} {g : Geo} {M : Nat → Nat → Int32} {P : Nat → Nat} {c : Nat} (hc : c < 6) {N : Nat} (hN : M c 5 = nI N) (hN6 : N ≤ 6) : Met l yX0_joinedNets wsX0_joinedNets rmX0_joinedNets (cPre g [.ref (g.1 (24 * c))] M P) (cQi g (fun r M' P' => (P = P' ∧ M = M') ∧ r = nI (joinedN (M c) N))) 0 0 (gA g) := by
  refine met_i (cc := cX0_joinedNets) (maxL := 3) (by decide) rfl ⟨rfl, rfl⟩ (Nat.le_of_ble_eq_true rfl) (fun x hx h hret => ?_)
  replace h : Cxk x g cX0_joinedNets 3 wsX0_joinedNets RX0 rmX0_joinedNets := h
  show X x 0 [(0, .ref (g.1 (24 * c)))] [] M P
  refine x_iconst h (nI 0) dX0_joinedNets_0 (by decide) ?_
  refine x_istore_n h [(1, .int (nI 0)), (0, .ref (g.1 (24 * c)))] dX0_joinedNets_1 rfl (by decide) rfl ?_
  refine x_iconst h (nI 0) dX0_joinedNets_2 (by decide) ?_
  refine x_istore_n h [(2, .int (nI 0)), (1, .int (nI 0)), (0, .ref (g.1 (24 * c)))] dX0_joinedNets_3 rfl (by decide) rfl ?_
  have L4 : ∀ (fu : Nat) (i : Nat) (k : Nat), (N - i) < fu → (i ≤ N) → (k = cnt (fun a => decide (¬ M c (169 + 9 * a + 5) = 0)) i) → X x 4 [(0, .ref (g.1 (24 * c))), (1, .int (nI k)), (2, .int (nI i))] [] M P := by
    intro fu
    induction fu with
    | zero => intro i k hmu4; exact absurd hmu4 (Nat.not_lt_zero _)
    | succ fu ih4 =>
      intro i k hmu4 hi hk
      refine x_iload_n h 2 dX0_joinedNets_4 rfl rfl ?_
      refine x_aload_n h 0 dX0_joinedNets_5 rfl rfl ?_
      refine xg_X0_5 h hc in_X0_joinedNets_X0 (by decide +kernel) dX0_joinedNets_6 ?_
      refine x_top (nI N) (hN) ?_
      refine x_icmp_ge_n h 39 dX0_joinedNets_9 (by decide) (by omega) (by omega) (fun c_9 => ?_) (fun c_9 => ?_)
      · -- 9 true
        refine x_iload_n h 1 dX0_joinedNets_39 rfl rfl ?_
        exact hret _ _ _ _ _ dX0_joinedNets_40 (by obtain rfl : i = N := (by omega); subst hk; exact ⟨⟨rfl, rfl⟩, rfl⟩)
      · -- 9 false
        refine x_iload_n h 2 dX0_joinedNets_12 rfl rfl ?_
        refine x_bipush h (nI 6) dX0_joinedNets_13 (by decide) ?_
        refine x_icmp_ge_n h 39 dX0_joinedNets_15 (by decide) (by omega) (by decide) (fun c_15 => by exact absurd c_15 (by omega)) (fun c_15 => ?_)
        refine x_aload_n h 0 dX0_joinedNets_18 rfl rfl ?_
        refine xg_X0_3 h hc in_X0_joinedNets_X0 (by decide +kernel) dX0_joinedNets_19 ?_
        refine x_iload_n h 2 dX0_joinedNets_22 rfl rfl ?_
        refine xa_nets h hc dX0_joinedNets_23 (by omega) ?_
        refine xg_X2_5 h hc (by omega) in_X0_joinedNets_X2 (by decide +kernel) dX0_joinedNets_24 ?_
        refine x_if_eq h 33 dX0_joinedNets_27 (by decide) (fun c_27 => ?_) (fun c_27 => ?_)
        · -- 27 true
          refine x_iinc_n h 2 (n := 1) [(2, .int (nI (i + 1))), (0, .ref (g.1 (24 * c))), (1, .int (nI k))] dX0_joinedNets_33 rfl (by decide) rfl ?_
          refine x_goto h 4 dX0_joinedNets_36 (by decide) ?_
          exact x_lv (ih4 (i + 1) k (by omega) (by omega) (by simp [cnt, hk, *])) [1, 2, 0] rfl
        · -- 27 false
          refine x_iinc_n h 1 (n := 1) [(1, .int (nI (k + 1))), (0, .ref (g.1 (24 * c))), (2, .int (nI i))] dX0_joinedNets_30 rfl (by decide) rfl ?_
          refine x_iinc_n h 2 (n := 1) [(2, .int (nI (i + 1))), (1, .int (nI (k + 1))), (0, .ref (g.1 (24 * c)))] dX0_joinedNets_33 rfl (by decide) rfl ?_
          refine x_goto h 4 dX0_joinedNets_36 (by decide) ?_
          exact x_lv (ih4 (i + 1) (k + 1) (by omega) (by omega) (by simp [cnt, hk, *])) [2, 1, 0] rfl
  exact x_lv (L4 _ 0 0 (Nat.lt_succ_self _) (by omega) (by rfl)) [2, 1, 0] rfl

theorem dX0_coinsInPurses_0 : decode cX0_coinsInPurses 0 = .ok (.iconst 0, 1) := by decide +kernel
theorem dX0_coinsInPurses_1 : decode cX0_coinsInPurses 1 = .ok (.istore_n 1, 1) := by decide +kernel
theorem dX0_coinsInPurses_2 : decode cX0_coinsInPurses 2 = .ok (.iconst 0, 1) := by decide +kernel
theorem dX0_coinsInPurses_3 : decode cX0_coinsInPurses 3 = .ok (.istore_n 2, 1) := by decide +kernel
theorem dX0_coinsInPurses_4 : decode cX0_coinsInPurses 4 = .ok (.iload_n 2, 1) := by decide +kernel
theorem dX0_coinsInPurses_5 : decode cX0_coinsInPurses 5 = .ok (.aload_n 0, 1) := by decide +kernel
theorem dX0_coinsInPurses_6 : decode cX0_coinsInPurses 6 = .ok (.getfield 41, 3) := by decide +kernel
theorem dX0_coinsInPurses_9 : decode cX0_coinsInPurses 9 = .ok (.if_icmp .ge 27, 3) := by decide +kernel
theorem dX0_coinsInPurses_12 : decode cX0_coinsInPurses 12 = .ok (.iload_n 2, 1) := by decide +kernel
theorem dX0_coinsInPurses_13 : decode cX0_coinsInPurses 13 = .ok (.bipush 6, 2) := by decide +kernel
theorem dX0_coinsInPurses_15 : decode cX0_coinsInPurses 15 = .ok (.if_icmp .ge 21, 3) := by decide +kernel
theorem dX0_coinsInPurses_18 : decode cX0_coinsInPurses 18 = .ok (.iload_n 1, 1) := by decide +kernel
theorem dX0_coinsInPurses_19 : decode cX0_coinsInPurses 19 = .ok (.aload_n 0, 1) := by decide +kernel
theorem dX0_coinsInPurses_20 : decode cX0_coinsInPurses 20 = .ok (.getfield 23, 3) := by decide +kernel
theorem dX0_coinsInPurses_23 : decode cX0_coinsInPurses 23 = .ok (.iload_n 2, 1) := by decide +kernel
theorem dX0_coinsInPurses_24 : decode cX0_coinsInPurses 24 = .ok (.aaload, 1) := by decide +kernel
theorem dX0_coinsInPurses_25 : decode cX0_coinsInPurses 25 = .ok (.getfield 94, 3) := by decide +kernel
theorem dX0_coinsInPurses_28 : decode cX0_coinsInPurses 28 = .ok (.iadd, 1) := by decide +kernel
theorem dX0_coinsInPurses_29 : decode cX0_coinsInPurses 29 = .ok (.istore_n 1, 1) := by decide +kernel
theorem dX0_coinsInPurses_30 : decode cX0_coinsInPurses 30 = .ok (.iinc 2 1, 3) := by decide +kernel
theorem dX0_coinsInPurses_33 : decode cX0_coinsInPurses 33 = .ok (.goto (-29), 3) := by decide +kernel
theorem dX0_coinsInPurses_36 : decode cX0_coinsInPurses 36 = .ok (.iload_n 1, 1) := by decide +kernel
theorem dX0_coinsInPurses_37 : decode cX0_coinsInPurses 37 = .ok (.ireturn, 1) := by decide +kernel
abbrev rmX0_coinsInPurses : Room := { frames := 0, cells := 0, slots := 0, locals := 0 }
set_option maxRecDepth 20000 in
theorem in_X0_coinsInPurses_X0 : ∀ w ∈ wsX00, w ∈ wsX0_coinsInPurses := by decide +kernel
set_option maxRecDepth 20000 in
theorem in_X0_coinsInPurses_X2 : ∀ w ∈ wsX20, w ∈ wsX0_coinsInPurses := by decide +kernel

set_option maxRecDepth 100000 in
set_option maxHeartbeats 4000000 in
theorem c_X0_coinsInPurses {l : Launch} {g : Geo} {M : Nat → Nat → Int32} {P : Nat → Nat} {c : Nat} (hc : c < 6) {N : Nat} (hN : M c 5 = nI N) (hN6 : N ≤ 6) : Met l yX0_coinsInPurses wsX0_coinsInPurses rmX0_coinsInPurses (cPre g [.ref (g.1 (24 * c))] M P) (cQi g (fun r M' P' => (P = P' ∧ M = M') ∧ r = sumI (fun k => M c (169 + 9 * k + 4)) N)) 0 0 (gA g) := by
  refine met_i (cc := cX0_coinsInPurses) (maxL := 3) (by decide) rfl ⟨rfl, rfl⟩ (Nat.le_of_ble_eq_true rfl) (fun x hx h hret => ?_)
  replace h : Cxk x g cX0_coinsInPurses 3 wsX0_coinsInPurses RX0 rmX0_coinsInPurses := h
  show X x 0 [(0, .ref (g.1 (24 * c)))] [] M P
  refine x_iconst h (nI 0) dX0_coinsInPurses_0 (by decide) ?_
  refine x_istore_n h [(1, .int (nI 0)), (0, .ref (g.1 (24 * c)))] dX0_coinsInPurses_1 rfl (by decide) rfl ?_
  refine x_iconst h (nI 0) dX0_coinsInPurses_2 (by decide) ?_
  refine x_istore_n h [(2, .int (nI 0)), (1, .int (nI 0)), (0, .ref (g.1 (24 * c)))] dX0_coinsInPurses_3 rfl (by decide) rfl ?_
  have L4 : ∀ (fu : Nat) (i : Nat) (z : Int32), (N - i) < fu → (i ≤ N) → (z = sumI (fun k => M c (169 + 9 * k + 4)) i) → X x 4 [(0, .ref (g.1 (24 * c))), (1, .int z), (2, .int (nI i))] [] M P := by
    intro fu
    induction fu with
    | zero => intro i z hmu4; exact absurd hmu4 (Nat.not_lt_zero _)
    | succ fu ih4 =>
      intro i z hmu4 hi hz
      refine x_iload_n h 2 dX0_coinsInPurses_4 rfl rfl ?_
      refine x_aload_n h 0 dX0_coinsInPurses_5 rfl rfl ?_
      refine xg_X0_5 h hc in_X0_coinsInPurses_X0 (by decide +kernel) dX0_coinsInPurses_6 ?_
      refine x_top (nI N) (hN) ?_
      refine x_icmp_ge_n h 36 dX0_coinsInPurses_9 (by decide) (by omega) (by omega) (fun c_9 => ?_) (fun c_9 => ?_)
      · -- 9 true
        refine x_iload_n h 1 dX0_coinsInPurses_36 rfl rfl ?_
        exact hret _ _ _ _ _ dX0_coinsInPurses_37 (by obtain rfl : i = N := (by omega); subst hz; exact ⟨⟨rfl, rfl⟩, rfl⟩)
      · -- 9 false
        refine x_iload_n h 2 dX0_coinsInPurses_12 rfl rfl ?_
        refine x_bipush h (nI 6) dX0_coinsInPurses_13 (by decide) ?_
        refine x_icmp_ge_n h 36 dX0_coinsInPurses_15 (by decide) (by omega) (by decide) (fun c_15 => by exact absurd c_15 (by omega)) (fun c_15 => ?_)
        refine x_iload_n h 1 dX0_coinsInPurses_18 rfl rfl ?_
        refine x_aload_n h 0 dX0_coinsInPurses_19 rfl rfl ?_
        refine xg_X0_3 h hc in_X0_coinsInPurses_X0 (by decide +kernel) dX0_coinsInPurses_20 ?_
        refine x_iload_n h 2 dX0_coinsInPurses_23 rfl rfl ?_
        refine xa_nets h hc dX0_coinsInPurses_24 (by omega) ?_
        refine xg_X2_4 h hc (by omega) in_X0_coinsInPurses_X2 (by decide +kernel) dX0_coinsInPurses_25 ?_
        refine x_iadd h dX0_coinsInPurses_28 ?_
        refine x_istore_n h [(1, .int (z + (M c (169 + 9 * i + 4)))), (0, .ref (g.1 (24 * c))), (2, .int (nI i))] dX0_coinsInPurses_29 rfl (by decide) rfl ?_
        refine x_iinc_n h 2 (n := 1) [(2, .int (nI (i + 1))), (1, .int (z + (M c (169 + 9 * i + 4)))), (0, .ref (g.1 (24 * c)))] dX0_coinsInPurses_30 rfl (by decide) rfl ?_
        refine x_goto h 4 dX0_coinsInPurses_33 (by decide) ?_
        exact x_lv (ih4 (i + 1) (z + (M c (169 + 9 * i + 4))) (by omega) (by omega) (by rw [hz]; rfl)) [2, 1, 0] rfl
  exact x_lv (L4 _ 0 (nI 0) (Nat.lt_succ_self _) (by omega) (by rfl)) [2, 1, 0] rfl

set_option maxRecDepth 20000 in
theorem ggX0_cellsOfWires_X0_hasNet : GoodIn wsX0_cellsOfWires wsX0_hasNet := goodIn_r _ [6, 7, 8, 9, 10, 11, 12, 13, 14, 15] (by decide +kernel) (by decide +kernel)
set_option maxRecDepth 20000 in
theorem gX0_cellsOfWires_X0_hasNet : GoodIn wsX0_cellsOfWires (wsV RX0 110 RX0 yX0_hasNet wsX0_hasNet) := goodIn_app (goodIn_of _ (by decide +kernel)) ggX0_cellsOfWires_X0_hasNet
theorem dX0_cellsOfWires_0 : decode cX0_cellsOfWires 0 = .ok (.iconst 0, 1) := by decide +kernel
theorem dX0_cellsOfWires_1 : decode cX0_cellsOfWires 1 = .ok (.istore_n 1, 1) := by decide +kernel
theorem dX0_cellsOfWires_2 : decode cX0_cellsOfWires 2 = .ok (.iconst 0, 1) := by decide +kernel
theorem dX0_cellsOfWires_3 : decode cX0_cellsOfWires 3 = .ok (.istore_n 2, 1) := by decide +kernel
theorem dX0_cellsOfWires_4 : decode cX0_cellsOfWires 4 = .ok (.iload_n 2, 1) := by decide +kernel
theorem dX0_cellsOfWires_5 : decode cX0_cellsOfWires 5 = .ok (.sipush 162, 3) := by decide +kernel
theorem dX0_cellsOfWires_8 : decode cX0_cellsOfWires 8 = .ok (.if_icmp .ge 25, 3) := by decide +kernel
theorem dX0_cellsOfWires_11 : decode cX0_cellsOfWires 11 = .ok (.aload_n 0, 1) := by decide +kernel
theorem dX0_cellsOfWires_12 : decode cX0_cellsOfWires 12 = .ok (.aload_n 0, 1) := by decide +kernel
theorem dX0_cellsOfWires_13 : decode cX0_cellsOfWires 13 = .ok (.getfield 15, 3) := by decide +kernel
theorem dX0_cellsOfWires_16 : decode cX0_cellsOfWires 16 = .ok (.iload_n 2, 1) := by decide +kernel
theorem dX0_cellsOfWires_17 : decode cX0_cellsOfWires 17 = .ok (.iaload, 1) := by decide +kernel
theorem dX0_cellsOfWires_18 : decode cX0_cellsOfWires 18 = .ok (.invokevirtual 110, 3) := by decide +kernel
theorem dX0_cellsOfWires_21 : decode cX0_cellsOfWires 21 = .ok (.ifCond .eq 6, 3) := by decide +kernel
theorem dX0_cellsOfWires_24 : decode cX0_cellsOfWires 24 = .ok (.iinc 1 1, 3) := by decide +kernel
theorem dX0_cellsOfWires_27 : decode cX0_cellsOfWires 27 = .ok (.iinc 2 1, 3) := by decide +kernel
theorem dX0_cellsOfWires_30 : decode cX0_cellsOfWires 30 = .ok (.goto (-26), 3) := by decide +kernel
theorem dX0_cellsOfWires_33 : decode cX0_cellsOfWires 33 = .ok (.iload_n 1, 1) := by decide +kernel
theorem dX0_cellsOfWires_34 : decode cX0_cellsOfWires 34 = .ok (.ireturn, 1) := by decide +kernel
abbrev rmX0_cellsOfWires : Room := { frames := 1, cells := 0, slots := 0, locals := 21 }
set_option maxRecDepth 20000 in
theorem in_X0_cellsOfWires_X0 : ∀ w ∈ wsX00, w ∈ wsX0_cellsOfWires := by decide +kernel

set_option maxRecDepth 100000 in
set_option maxHeartbeats 4000000 in
theorem c_X0_cellsOfWires {l : Launch} {g : Geo} {M : Nat → Nat → Int32} {P : Nat → Nat} {c : Nat} (hc : c < 6) {N : Nat} (hN : M c 5 = nI N) (hN6 : N ≤ 6) : Met l yX0_cellsOfWires wsX0_cellsOfWires rmX0_cellsOfWires (cPre g [.ref (g.1 (24 * c))] M P) (cQi g (fun r M' P' => (P = P' ∧ M = M') ∧ r = nI (wires eC (M c) N))) 0 0 (gA g) := by
  refine met_i (cc := cX0_cellsOfWires) (maxL := 3) (by decide) rfl ⟨rfl, rfl⟩ (Nat.le_of_ble_eq_true rfl) (fun x hx h hret => ?_)
  replace h : Cxk x g cX0_cellsOfWires 3 wsX0_cellsOfWires RX0 rmX0_cellsOfWires := h
  show X x 0 [(0, .ref (g.1 (24 * c)))] [] M P
  refine x_iconst h (nI 0) dX0_cellsOfWires_0 (by decide) ?_
  refine x_istore_n h [(1, .int (nI 0)), (0, .ref (g.1 (24 * c)))] dX0_cellsOfWires_1 rfl (by decide) rfl ?_
  refine x_iconst h (nI 0) dX0_cellsOfWires_2 (by decide) ?_
  refine x_istore_n h [(2, .int (nI 0)), (1, .int (nI 0)), (0, .ref (g.1 (24 * c)))] dX0_cellsOfWires_3 rfl (by decide) rfl ?_
  have L4 : ∀ (fu : Nat) (i : Nat) (k : Nat), (162 - i) < fu → (i ≤ 162) → (k = cnt (fun a => decide (∃ k, k < N ∧ M c (7 + a) = eC.2.1 k)) i) → X x 4 [(0, .ref (g.1 (24 * c))), (1, .int (nI k)), (2, .int (nI i))] [] M P := by
    intro fu
    induction fu with
    | zero => intro i k hmu4; exact absurd hmu4 (Nat.not_lt_zero _)
    | succ fu ih4 =>
      intro i k hmu4 hi hk
      refine x_iload_n h 2 dX0_cellsOfWires_4 rfl rfl ?_
      refine x_sipush h (nI 162) dX0_cellsOfWires_5 (by decide) ?_
      refine x_icmp_ge_n h 33 dX0_cellsOfWires_8 (by decide) (by omega) (by decide) (fun c_8 => ?_) (fun c_8 => ?_)
      · -- 8 true
        refine x_iload_n h 1 dX0_cellsOfWires_33 rfl rfl ?_
        exact hret _ _ _ _ _ dX0_cellsOfWires_34 (by obtain rfl : i = 162 := (by omega); subst hk; exact ⟨⟨rfl, rfl⟩, rfl⟩)
      · -- 8 false
        refine x_aload_n h 0 dX0_cellsOfWires_11 rfl rfl ?_
        refine x_aload_n h 0 dX0_cellsOfWires_12 rfl rfl ?_
        refine xg_X0_1 h hc in_X0_cellsOfWires_X0 (by decide +kernel) dX0_cellsOfWires_13 ?_
        refine x_iload_n h 2 dX0_cellsOfWires_16 rfl rfl ?_
        refine xl_own h hc dX0_cellsOfWires_17 (by omega) ?_
        refine x_callV h (As := [.int (M c (7 + i))]) 1 hx (c_X0_hasNet hc hN hN6) gX0_cellsOfWires_X0_hasNet rfl ⟨rfl, rfl⟩ (by decide +kernel) rfl (by decide) (hk_chip hc) (E_chip hc) rfl rfl (Nat.le_of_ble_eq_true rfl) dX0_cellsOfWires_18 (fun rv M' P' hp => ?_)
        obtain ⟨⟨rfl, rfl⟩, hp⟩ := hp
        rcases hp with ⟨⟨k18, hk18, ek18⟩, rfl⟩ | ⟨nk18, rfl⟩
        · -- call 18
          refine x_if_eq h 27 dX0_cellsOfWires_21 (by decide) (fun c => absurd c (by decide)) (fun _ => ?_)
          refine x_iinc_n h 1 (n := 1) [(1, .int (nI (k + 1))), (0, .ref (g.1 (24 * c))), (2, .int (nI i))] dX0_cellsOfWires_24 rfl (by decide) rfl ?_
          refine x_iinc_n h 2 (n := 1) [(2, .int (nI (i + 1))), (1, .int (nI (k + 1))), (0, .ref (g.1 (24 * c)))] dX0_cellsOfWires_27 rfl (by decide) rfl ?_
          refine x_goto h 4 dX0_cellsOfWires_30 (by decide) ?_
          exact x_lv (ih4 (i + 1) (k + 1) (by omega) (by omega) (by first | (have q : ∃ k, k < N ∧ M c (7 + i) = eC.2.1 k := ⟨k18, hk18, ek18⟩; rw [cnt, decide_eq_true q, hk]; rfl) | (have q : ¬ ∃ k, k < N ∧ M c (7 + i) = eC.2.1 k := nk18; rw [cnt, decide_eq_false q, hk]; rfl))) [2, 1, 0] rfl
        · -- call 18
          refine x_if_eq h 27 dX0_cellsOfWires_21 (by decide) (fun _ => ?_) (fun c => absurd (by decide) c)
          refine x_iinc_n h 2 (n := 1) [(2, .int (nI (i + 1))), (0, .ref (g.1 (24 * c))), (1, .int (nI k))] dX0_cellsOfWires_27 rfl (by decide) rfl ?_
          refine x_goto h 4 dX0_cellsOfWires_30 (by decide) ?_
          exact x_lv (ih4 (i + 1) k (by omega) (by omega) (by first | (have q : ∃ k, k < N ∧ M c (7 + i) = eC.2.1 k := ⟨k18, hk18, ek18⟩; rw [cnt, decide_eq_true q, hk]; rfl) | (have q : ¬ ∃ k, k < N ∧ M c (7 + i) = eC.2.1 k := nk18; rw [cnt, decide_eq_false q, hk]; rfl))) [1, 2, 0] rfl
  exact x_lv (L4 _ 0 0 (Nat.lt_succ_self _) (by omega) (by rfl)) [2, 1, 0] rfl

set_option maxRecDepth 20000 in
theorem ggX0_crossings_X0_hasNet : GoodIn wsX0_crossings wsX0_hasNet := goodIn_r _ [6, 7, 8, 9, 10, 11, 12, 13, 14, 15] (by decide +kernel) (by decide +kernel)
set_option maxRecDepth 20000 in
theorem gX0_crossings_X0_hasNet : GoodIn wsX0_crossings (wsV RX0 110 RX0 yX0_hasNet wsX0_hasNet) := goodIn_app (goodIn_of _ (by decide +kernel)) ggX0_crossings_X0_hasNet
theorem dX0_crossings_0 : decode cX0_crossings 0 = .ok (.iconst 0, 1) := by decide +kernel
theorem dX0_crossings_1 : decode cX0_crossings 1 = .ok (.istore_n 1, 1) := by decide +kernel
theorem dX0_crossings_2 : decode cX0_crossings 2 = .ok (.iconst 0, 1) := by decide +kernel
theorem dX0_crossings_3 : decode cX0_crossings 3 = .ok (.istore_n 2, 1) := by decide +kernel
theorem dX0_crossings_4 : decode cX0_crossings 4 = .ok (.iload_n 2, 1) := by decide +kernel
theorem dX0_crossings_5 : decode cX0_crossings 5 = .ok (.bipush 81, 2) := by decide +kernel
theorem dX0_crossings_7 : decode cX0_crossings 7 = .ok (.if_icmp .ge 53, 3) := by decide +kernel
theorem dX0_crossings_10 : decode cX0_crossings 10 = .ok (.aload_n 0, 1) := by decide +kernel
theorem dX0_crossings_11 : decode cX0_crossings 11 = .ok (.getfield 15, 3) := by decide +kernel
theorem dX0_crossings_14 : decode cX0_crossings 14 = .ok (.iload_n 2, 1) := by decide +kernel
theorem dX0_crossings_15 : decode cX0_crossings 15 = .ok (.iaload, 1) := by decide +kernel
theorem dX0_crossings_16 : decode cX0_crossings 16 = .ok (.istore_n 3, 1) := by decide +kernel
theorem dX0_crossings_17 : decode cX0_crossings 17 = .ok (.aload_n 0, 1) := by decide +kernel
theorem dX0_crossings_18 : decode cX0_crossings 18 = .ok (.getfield 15, 3) := by decide +kernel
theorem dX0_crossings_21 : decode cX0_crossings 21 = .ok (.iload_n 2, 1) := by decide +kernel
theorem dX0_crossings_22 : decode cX0_crossings 22 = .ok (.bipush 81, 2) := by decide +kernel
theorem dX0_crossings_24 : decode cX0_crossings 24 = .ok (.iadd, 1) := by decide +kernel
theorem dX0_crossings_25 : decode cX0_crossings 25 = .ok (.iaload, 1) := by decide +kernel
theorem dX0_crossings_26 : decode cX0_crossings 26 = .ok (.istore 4, 2) := by decide +kernel
theorem dX0_crossings_28 : decode cX0_crossings 28 = .ok (.aload_n 0, 1) := by decide +kernel
theorem dX0_crossings_29 : decode cX0_crossings 29 = .ok (.iload_n 3, 1) := by decide +kernel
theorem dX0_crossings_30 : decode cX0_crossings 30 = .ok (.invokevirtual 110, 3) := by decide +kernel
theorem dX0_crossings_33 : decode cX0_crossings 33 = .ok (.ifCond .eq 21, 3) := by decide +kernel
theorem dX0_crossings_36 : decode cX0_crossings 36 = .ok (.aload_n 0, 1) := by decide +kernel
theorem dX0_crossings_37 : decode cX0_crossings 37 = .ok (.iload 4, 2) := by decide +kernel
theorem dX0_crossings_39 : decode cX0_crossings 39 = .ok (.invokevirtual 110, 3) := by decide +kernel
theorem dX0_crossings_42 : decode cX0_crossings 42 = .ok (.ifCond .eq 12, 3) := by decide +kernel
theorem dX0_crossings_45 : decode cX0_crossings 45 = .ok (.iload_n 3, 1) := by decide +kernel
theorem dX0_crossings_46 : decode cX0_crossings 46 = .ok (.iload 4, 2) := by decide +kernel
theorem dX0_crossings_48 : decode cX0_crossings 48 = .ok (.if_icmp .eq 6, 3) := by decide +kernel
theorem dX0_crossings_51 : decode cX0_crossings 51 = .ok (.iinc 1 1, 3) := by decide +kernel
theorem dX0_crossings_54 : decode cX0_crossings 54 = .ok (.iinc 2 1, 3) := by decide +kernel
theorem dX0_crossings_57 : decode cX0_crossings 57 = .ok (.goto (-53), 3) := by decide +kernel
theorem dX0_crossings_60 : decode cX0_crossings 60 = .ok (.iload_n 1, 1) := by decide +kernel
theorem dX0_crossings_61 : decode cX0_crossings 61 = .ok (.ireturn, 1) := by decide +kernel
abbrev rmX0_crossings : Room := { frames := 1, cells := 0, slots := 0, locals := 21 }
set_option maxRecDepth 20000 in
theorem in_X0_crossings_X0 : ∀ w ∈ wsX00, w ∈ wsX0_crossings := by decide +kernel

set_option maxRecDepth 100000 in
set_option maxHeartbeats 4000000 in
theorem c_X0_crossings {l : Launch} {g : Geo} {M : Nat → Nat → Int32} {P : Nat → Nat} {c : Nat} (hc : c < 6) {N : Nat} (hN : M c 5 = nI N) (hN6 : N ≤ 6) : Met l yX0_crossings wsX0_crossings rmX0_crossings (cPre g [.ref (g.1 (24 * c))] M P) (cQi g (fun r M' P' => (P = P' ∧ M = M') ∧ r = nI (cross eC (M c) N))) 0 0 (gA g) := by
  refine met_i (cc := cX0_crossings) (maxL := 5) (by decide) rfl ⟨rfl, rfl⟩ (Nat.le_of_ble_eq_true rfl) (fun x hx h hret => ?_)
  replace h : Cxk x g cX0_crossings 5 wsX0_crossings RX0 rmX0_crossings := h
  show X x 0 [(0, .ref (g.1 (24 * c)))] [] M P
  refine x_iconst h (nI 0) dX0_crossings_0 (by decide) ?_
  refine x_istore_n h [(1, .int (nI 0)), (0, .ref (g.1 (24 * c)))] dX0_crossings_1 rfl (by decide) rfl ?_
  refine x_iconst h (nI 0) dX0_crossings_2 (by decide) ?_
  refine x_istore_n h [(2, .int (nI 0)), (1, .int (nI 0)), (0, .ref (g.1 (24 * c)))] dX0_crossings_3 rfl (by decide) rfl ?_
  have L4 : ∀ (fu : Nat) (i : Nat) (k : Nat), (81 - i) < fu → (i ≤ 81) → (k = cnt (fun a => decide ((∃ k, k < N ∧ M c (7 + a) = eC.2.1 k) ∧ (∃ k, k < N ∧ M c (7 + (a + 81)) = eC.2.1 k) ∧ ¬ M c (7 + a) = M c (7 + (a + 81)))) i) → X x 4 [(0, .ref (g.1 (24 * c))), (1, .int (nI k)), (2, .int (nI i))] [] M P := by
    intro fu
    induction fu with
    | zero => intro i k hmu4; exact absurd hmu4 (Nat.not_lt_zero _)
    | succ fu ih4 =>
      intro i k hmu4 hi hk
      refine x_iload_n h 2 dX0_crossings_4 rfl rfl ?_
      refine x_bipush h (nI 81) dX0_crossings_5 (by decide) ?_
      refine x_icmp_ge_n h 60 dX0_crossings_7 (by decide) (by omega) (by decide) (fun c_7 => ?_) (fun c_7 => ?_)
      · -- 7 true
        refine x_iload_n h 1 dX0_crossings_60 rfl rfl ?_
        exact hret _ _ _ _ _ dX0_crossings_61 (by obtain rfl : i = 81 := (by omega); subst hk; exact ⟨⟨rfl, rfl⟩, rfl⟩)
      · -- 7 false
        refine x_aload_n h 0 dX0_crossings_10 rfl rfl ?_
        refine xg_X0_1 h hc in_X0_crossings_X0 (by decide +kernel) dX0_crossings_11 ?_
        refine x_iload_n h 2 dX0_crossings_14 rfl rfl ?_
        refine xl_own h hc dX0_crossings_15 (by omega) ?_
        refine x_istore_n h [(3, .int (M c (7 + i))), (0, .ref (g.1 (24 * c))), (1, .int (nI k)), (2, .int (nI i))] dX0_crossings_16 rfl (by decide) rfl ?_
        refine x_aload_n h 1 dX0_crossings_17 rfl rfl ?_
        refine xg_X0_1 h hc in_X0_crossings_X0 (by decide +kernel) dX0_crossings_18 ?_
        refine x_iload_n h 3 dX0_crossings_21 rfl rfl ?_
        refine x_bipush h (nI 81) dX0_crossings_22 (by decide) ?_
        refine x_iadd_n h dX0_crossings_24 ?_
        refine xl_own h hc dX0_crossings_25 (by omega) ?_
        refine x_istore h [(4, .int (M c (7 + (i + 81)))), (3, .int (M c (7 + i))), (0, .ref (g.1 (24 * c))), (1, .int (nI k)), (2, .int (nI i))] dX0_crossings_26 (by decide) rfl ?_
        refine x_aload_n h 2 dX0_crossings_28 rfl rfl ?_
        refine x_iload_n h 1 dX0_crossings_29 rfl rfl ?_
        refine x_callV h (As := [.int (M c (7 + i))]) 1 hx (c_X0_hasNet hc hN hN6) gX0_crossings_X0_hasNet rfl ⟨rfl, rfl⟩ (by decide +kernel) rfl (by decide) (hk_chip hc) (E_chip hc) rfl rfl (Nat.le_of_ble_eq_true rfl) dX0_crossings_30 (fun rv M' P' hp => ?_)
        obtain ⟨⟨rfl, rfl⟩, hp⟩ := hp
        rcases hp with ⟨⟨k30, hk30, ek30⟩, rfl⟩ | ⟨nk30, rfl⟩
        · -- call 30
          refine x_if_eq h 54 dX0_crossings_33 (by decide) (fun c => absurd c (by decide)) (fun _ => ?_)
          refine x_aload_n h 2 dX0_crossings_36 rfl rfl ?_
          refine x_iload h 0 dX0_crossings_37 rfl ?_
          refine x_callV h (As := [.int (M c (7 + (i + 81)))]) 1 hx (c_X0_hasNet hc hN hN6) gX0_crossings_X0_hasNet rfl ⟨rfl, rfl⟩ (by decide +kernel) rfl (by decide) (hk_chip hc) (E_chip hc) rfl rfl (Nat.le_of_ble_eq_true rfl) dX0_crossings_39 (fun rv M' P' hp => ?_)
          obtain ⟨⟨rfl, rfl⟩, hp⟩ := hp
          rcases hp with ⟨⟨k39, hk39, ek39⟩, rfl⟩ | ⟨nk39, rfl⟩
          · -- call 39
            refine x_if_eq h 54 dX0_crossings_42 (by decide) (fun c => absurd c (by decide)) (fun _ => ?_)
            refine x_iload_n h 1 dX0_crossings_45 rfl rfl ?_
            refine x_iload h 0 dX0_crossings_46 rfl ?_
            refine x_icmp_eq h 54 dX0_crossings_48 (by decide) (fun c_48 => ?_) (fun c_48 => ?_)
            · -- 48 true
              refine x_iinc_n h 4 (n := 1) [(2, .int (nI (i + 1))), (4, .int (M c (7 + (i + 81)))), (3, .int (M c (7 + i))), (0, .ref (g.1 (24 * c))), (1, .int (nI k))] dX0_crossings_54 rfl (by decide) rfl ?_
              refine x_goto h 4 dX0_crossings_57 (by decide) ?_
              exact x_lv (ih4 (i + 1) k (by omega) (by omega) (by first | (rw [cnt, decide_eq_true ⟨⟨k30, hk30, ek30⟩, ⟨k39, hk39, ek39⟩, c_48⟩, hk]; rfl) | (rw [cnt, decide_eq_false (by first | exact fun q => nk30 q.1 | exact fun q => nk39 q.2.1 | exact fun q => q.2.2 c_48), hk]; rfl))) [3, 4, 0] rfl
            · -- 48 false
              refine x_iinc_n h 3 (n := 1) [(1, .int (nI (k + 1))), (4, .int (M c (7 + (i + 81)))), (3, .int (M c (7 + i))), (0, .ref (g.1 (24 * c))), (2, .int (nI i))] dX0_crossings_51 rfl (by decide) rfl ?_
              refine x_iinc_n h 4 (n := 1) [(2, .int (nI (i + 1))), (1, .int (nI (k + 1))), (4, .int (M c (7 + (i + 81)))), (3, .int (M c (7 + i))), (0, .ref (g.1 (24 * c)))] dX0_crossings_54 rfl (by decide) rfl ?_
              refine x_goto h 4 dX0_crossings_57 (by decide) ?_
              exact x_lv (ih4 (i + 1) (k + 1) (by omega) (by omega) (by first | (rw [cnt, decide_eq_true ⟨⟨k30, hk30, ek30⟩, ⟨k39, hk39, ek39⟩, c_48⟩, hk]; rfl) | (rw [cnt, decide_eq_false (by first | exact fun q => nk30 q.1 | exact fun q => nk39 q.2.1 | exact fun q => q.2.2 c_48), hk]; rfl))) [4, 1, 0] rfl
          · -- call 39
            refine x_if_eq h 54 dX0_crossings_42 (by decide) (fun _ => ?_) (fun c => absurd (by decide) c)
            refine x_iinc_n h 4 (n := 1) [(2, .int (nI (i + 1))), (4, .int (M c (7 + (i + 81)))), (3, .int (M c (7 + i))), (0, .ref (g.1 (24 * c))), (1, .int (nI k))] dX0_crossings_54 rfl (by decide) rfl ?_
            refine x_goto h 4 dX0_crossings_57 (by decide) ?_
            exact x_lv (ih4 (i + 1) k (by omega) (by omega) (by first | (rw [cnt, decide_eq_true ⟨⟨k30, hk30, ek30⟩, ⟨k39, hk39, ek39⟩, c_48⟩, hk]; rfl) | (rw [cnt, decide_eq_false (by first | exact fun q => nk30 q.1 | exact fun q => nk39 q.2.1 | exact fun q => q.2.2 c_48), hk]; rfl))) [3, 4, 0] rfl
        · -- call 30
          refine x_if_eq h 54 dX0_crossings_33 (by decide) (fun _ => ?_) (fun c => absurd (by decide) c)
          refine x_iinc_n h 4 (n := 1) [(2, .int (nI (i + 1))), (4, .int (M c (7 + (i + 81)))), (3, .int (M c (7 + i))), (0, .ref (g.1 (24 * c))), (1, .int (nI k))] dX0_crossings_54 rfl (by decide) rfl ?_
          refine x_goto h 4 dX0_crossings_57 (by decide) ?_
          exact x_lv (ih4 (i + 1) k (by omega) (by omega) (by first | (rw [cnt, decide_eq_true ⟨⟨k30, hk30, ek30⟩, ⟨k39, hk39, ek39⟩, c_48⟩, hk]; rfl) | (rw [cnt, decide_eq_false (by first | exact fun q => nk30 q.1 | exact fun q => nk39 q.2.1 | exact fun q => q.2.2 c_48), hk]; rfl))) [3, 4, 0] rfl
  exact x_lv (L4 _ 0 0 (Nat.lt_succ_self _) (by omega) (by rfl)) [2, 1, 0] rfl
