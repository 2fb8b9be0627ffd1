/-! the acts' relations -/
def layQ (e : Enc) (X : Nat → Int32) (N : Nat) (n r : Int32) (X' : Nat → Int32) : Prop := (¬ InR N n ∧ r = -1000001 ∧ X' = X) ∨ ∃ k, k < N ∧ n = nI k ∧ (((¬ X (169 + 9 * k + 5) = 0 ∨ rtX e X N k false = none) ∧ r = -1000002 ∧ X' = X) ∨ (X (169 + 9 * k + 5) = 0 ∧ ∃ z l1 l2, rtX e X N k false = some (z, l1, l2) ∧ r = nI z ∧ X' = upd (takeE e X k (l1 ++ l2)) 4 (X 4 + nI 1)))
def digQ (fin : (Nat → Int32) → Nat → Nat → Nat → List Nat → Nat → Int32) (e : Enc) (X : Nat → Int32) (N K : Nat) (n r : Int32) (X' : Nat → Int32) : Prop := (¬ InR N n ∧ r = -1000001 ∧ X' = X) ∨ ∃ k, k < N ∧ n = nI k ∧ (((¬ X (169 + 9 * k + 5) = 0 ∨ rtX e X N k true = none) ∧ r = -1000002 ∧ X' = X) ∨ (X (169 + 9 * k + 5) = 0 ∧ ∃ z l1 l2, rtX e X N k true = some (z, l1, l2) ∧ ((X (169 + 9 * k + 4) < nI (priE e X N (l1 ++ l2)) ∧ r = -1000002 ∧ X' = X) ∨ (¬ X (169 + 9 * k + 4) < nI (priE e X N (l1 ++ l2)) ∧ ((12 < K + cnt (vicE e X (l1 ++ l2)) N ∧ r = -1000003 ∧ X' = X) ∨ (K + cnt (vicE e X (l1 ++ l2)) N ≤ 12 ∧ r = nI (priE e X N (l1 ++ l2)) ∧ X' = fin X N K k (l1 ++ l2)))))))
/-- a victim's step of a digging, as the chip takes it -/
def dgS (X0 : Nat → Int32) (L : List Nat) (n K v : Nat) (Y : Nat → Int32) : Nat → Int32 := loseE eC (upd (recvX (claimE mkC eC Y (K + cnt (vicE eC X0 L) v) v n (nI (dueE eC X0 L v))) v (nI (dueE eC X0 L v))) (169 + 9 * v + 6) (recvX (claimE mkC eC Y (K + cnt (vicE eC X0 L) v) v n (nI (dueE eC X0 L v))) v (nI (dueE eC X0 L v)) (169 + 9 * v + 6) + nI 1)) v
def dgR (X0 : Nat → Int32) (L : List Nat) (N n K : Nat) (Y : Nat → Int32) : Nat → Nat → Int32
  | 0 => Y
  | v + 1 => if v < N ∧ vicE eC X0 L v = true then dgS X0 L n K v (dgR X0 L N n K Y v) else dgR X0 L N n K Y v
def finC (X : Nat → Int32) (N K k : Nat) (L : List Nat) : Nat → Int32 := takeE eC (dgR X L N k K (spendX (upd X 4 (X 4 + nI 1)) k (nI (priE eC X N L))) 6) k L
def FrC (c : Nat) (M M' : Nat → Nat → Int32) : Prop := ∀ k, k ≠ c → (k < 149 ∨ k = 150 ∨ 157 < k) → M' k = M k
theorem FrC_v {M : Nat → Nat → Int32} {c : Nat} {Y : Nat → Int32} : FrC c M (va_up M c Y) := fun _ hk _ => va_up_n _ _ hk
theorem FrC_f {M M1 : Nat → Nat → Int32} {c : Nat} {Y : Nat → Int32} (h : FrF M M1) : FrC c M (va_up M1 c Y) := fun k hk h2 => by rw [va_up_n _ _ hk]; exact h k h2
theorem FrC_F {M M1 : Nat → Nat → Int32} {c : Nat} (h : FrF M M1) : FrC c M M1 := fun k _ h2 => h k h2
theorem FrC_r (M : Nat → Nat → Int32) (c : Nat) : FrC c M M := fun _ _ _ => rfl
/-- what is paid at a hearing -/
def payI (due u : Int32) : Int32 := if due ≤ 0 then 0 else if due < u then due else u
theorem payI_eq {due u : Int32} (h : ¬ u < 0) : (if nI 0 < (if u < due then u else due) then (if u < due then u else due) else nI 0) = payI due u := by
  unfold payI
  have hz : nI 0 = (0 : Int32) := rfl
  rw [hz]
  simp only [Int32.lt_iff_toInt_lt, Int32.le_iff_toInt_le] at h ⊢
  have h0 : (0 : Int32).toInt = 0 := rfl
  rw [h0] at h ⊢
  by_cases h1 : u.toInt < due.toInt
  · rw [if_pos h1, if_neg (by omega : ¬ due.toInt ≤ 0), if_neg (by omega : ¬ due.toInt < u.toInt)]
    by_cases h2 : 0 < u.toInt
    · rw [if_pos h2]
    · rw [if_neg h2]
      exact (Int32.toInt_inj.mp (by rw [h0]; omega)).symm
  · rw [if_neg h1]
    by_cases h2 : 0 < due.toInt
    · rw [if_pos h2, if_neg (by omega : ¬ due.toInt ≤ 0)]
      by_cases h3 : due.toInt < u.toInt
      · rw [if_pos h3]
      · rw [if_neg h3]
        exact Int32.toInt_inj.mp (by omega)
    · rw [if_neg h2, if_pos (by omega : due.toInt ≤ 0)]
def bC (X : Nat → Int32) (i a : Nat) : Bool := decide (bit1 (X (400 + a)) i)
def backG (bt : (Nat → Int32) → Nat → Nat → Bool) (e : Enc) (X : Nat → Int32) (i k : Nat) : Nat → Int32 := upd (scan 7 X (fun a v => if bt X i a = true then e.2.1 k else v) 162) (169 + 9 * k + 5) (nI 1)
def canB (bt : (Nat → Int32) → Nat → Nat → Bool) (e : Enc) (X : Nat → Int32) (i k : Nat) : Prop := X (169 + 9 * k + 5) = 0 ∧ ∀ a, a < 162 → bt X i a = true → X (7 + a) = e.1
def dueI (X : Nat → Int32) (i : Nat) : Int32 := lossX X i - X (223 + 13 * i + 4)
def hearY (X : Nat → Int32) (i h d : Nat) (p : Int32) : Nat → Int32 := upd (upd (recvX (spendX X d p) h p) (223 + 13 * i + 4) (X (223 + 13 * i + 4) + p)) (223 + 13 * i + 5) (nI 2)
def hearQ (bt : (Nat → Int32) → Nat → Nat → Bool) (e : Enc) (X : Nat → Int32) (N K : Nat) (r : Int32) (X' : Nat → Int32) : Prop := (hd1 X K (nI 0) = none ∧ r = -1000002 ∧ X' = X) ∨ ∃ i h d, hd1 X K (nI 0) = some i ∧ i < K ∧ X (223 + 13 * i) = nI h ∧ X (223 + 13 * i + 1) = nI d ∧ h < N ∧ d < N ∧ r = payI (dueI X i) (X (169 + 9 * d + 4)) ∧ ((¬ r < dueI X i ∧ X' = upd (hearY X i h d r) 4 (X 4 + nI 1)) ∨ (r < dueI X i ∧ ((¬ canB bt e (loseE e (hearY X i h d r) d) i h ∧ X' = upd (loseE e (hearY X i h d r) d) 4 (X 4 + nI 1)) ∨ (canB bt e (loseE e (hearY X i h d r) d) i h ∧ X' = upd (backG bt e (loseE e (hearY X i h d r) d) i h) 4 (X 4 + nI 1)))))
theorem backF_G (X : Nat → Int32) (i k : Nat) : backF eC X i k = backG bC eC X i k := by
  unfold backF backG
  congr 2
  funext a v
  unfold bC
  by_cases h : bit1 (X (400 + a)) i
  · rw [if_pos h, if_pos (decide_eq_true h)]
  · rw [if_neg h, if_neg (by rw [decide_eq_false h]; decide)]
theorem canB_C {X : Nat → Int32} {i k : Nat} : canB bC eC X i k ↔ (X (169 + 9 * k + 5) = 0 ∧ lostFree eC X i) := by
  unfold canB lostFree bC
  simp only [decide_eq_true_eq]
theorem hd1_lt {X : Nat → Int32} {K i : Nat} {ix : Int32} (h : hd1 X K ix = some i) : i < K := by
  unfold hd1 fnd at h
  exact List.mem_range.mp (List.mem_of_find?_eq_some h)
theorem loseE_4 (e : Enc) (X : Nat → Int32) (k : Nat) : loseE e X k 4 = X 4 := by
  unfold loseE
  rw [pk_un (by omega), scan_ge _ _ (by omega)]
theorem backF_4 (e : Enc) (X : Nat → Int32) (i k : Nat) : backF e X i k 4 = X 4 := by
  unfold backF
  rw [pk_un (by omega), scan_ge _ _ (by omega)]
theorem takeE_4 (e : Enc) (X : Nat → Int32) (k : Nat) (L : List Nat) : takeE e X k L 4 = X 4 := by
  unfold takeE tkF
  rw [pk_un (by omega), if_neg (by omega)]
theorem hearY_4 (X : Nat → Int32) (i h d : Nat) (p : Int32) : hearY X i h d p 4 = X 4 := by
  unfold hearY recvX spendX
  repeat rw [pk_un (by omega)]
theorem spr_clm (X : Nat → Int32) {i h d j : Nat} {p : Int32} (hh : h < 6) (hd : d < 6) : recvX (spendX X d p) h p (223 + 13 * i + j) = X (223 + 13 * i + j) := by
  unfold recvX spendX
  repeat rw [pk_un (by omega)]
theorem cnt_s {p : Nat → Bool} {v : Nat} (h : p v = true) : cnt p (v + 1) = cnt p v + 1 := by
  show cnt p v + (if p v = true then 1 else 0) = _
  rw [if_pos h]
theorem cnt_n {p : Nat → Bool} {v : Nat} (h : p v = false) : cnt p (v + 1) = cnt p v := by
  show cnt p v + (if p v = true then 1 else 0) = _
  rw [if_neg (by rw [h]; decide)]; rfl
theorem cnt_le2 {p : Nat → Bool} : ∀ {a b : Nat}, a ≤ b → cnt p a ≤ cnt p b
  | a, 0, h => by rw [Nat.le_zero.mp h]; exact Nat.le_refl _
  | a, b + 1, h => by
    by_cases e : a = b + 1
    · rw [e]; exact Nat.le_refl _
    · have := cnt_le2 (p := p) (a := a) (b := b) (by omega)
      have h2 : cnt p (b + 1) = cnt p b + (if p b = true then 1 else 0) := rfl
      omega
theorem bcnt_set {p : Nat → Bool} {N : Nat} (hN : N ≤ 6) : bcnt (bset p N) = cnt p N := by
  unfold bcnt
  have h1 : ∀ n, n ≤ 6 → cnt (fun k => (bset p N).testBit k) n = cnt p (min n N) := by
    intro n
    induction n with
    | zero => intro _; rw [Nat.zero_min]; rfl
    | succ n ih =>
      intro hn
      have ih := ih (by omega)
      by_cases h : n < N
      · rw [Nat.min_eq_left (by omega)] at ih ⊢
        unfold cnt
        rw [ih, bset_bit]
        simp [h]
      · rw [Nat.min_eq_right (by omega)] at ih ⊢
        rw [cnt_n (by rw [bset_bit]; simp [h]), ih]
  rw [h1 6 (Nat.le_refl _), Nat.min_eq_right hN]
theorem dgR_6 {X0 : Nat → Int32} {L : List Nat} {N n K : Nat} {Y : Nat → Int32} (h : Y 6 = nI K) : ∀ v, v ≤ N → dgR X0 L N n K Y v 6 = nI (K + cnt (vicE eC X0 L) v)
  | 0, _ => h
  | v + 1, hv => by
    unfold dgR
    by_cases e : vicE eC X0 L v = true
    · rw [if_pos ⟨hv, e⟩, cnt_s e]
      unfold dgS loseE recvX claimE mkC clmRow
      rw [pk_un (by omega), scan_ge _ _ (by omega), pk_un (by omega), pk_un (by omega), pk_un (by omega), scan_ge _ _ (by omega)]
      repeat rw [pk_un (by omega)]
      rw [pk_us]
      rfl
    · rw [if_neg (fun q => e q.2), cnt_n (by simpa using e)]
      exact dgR_6 h v (by omega)
theorem dgR_end {X0 : Nat → Int32} {L : List Nat} {N n K : Nat} {Y : Nat → Int32} : ∀ v, N ≤ v → dgR X0 L N n K Y v = dgR X0 L N n K Y N
  | 0, h => by rw [Nat.le_zero.mp h]
  | v + 1, h => by
    by_cases e : N = v + 1
    · rw [e]
    · rw [← dgR_end v (by omega)]
      show (if v < N ∧ _ then _ else _) = _
      rw [if_neg (fun q => absurd q.1 (by omega))]

theorem c_X3_findG {l : Launch} {g : Geo} {M : Nat → Nat → Int32} {P : Nat → Nat} {c : Nat} (hc : c < 6) {N K : Nat} (hG : GdX eC (M c) N K) (hNb : Nbr M) {k : Nat} (hk : k < N) (dg : Bool) : Met l yX3_find wsX3_find rmX3_find (cPre g [.ref (g.1 149), .ref (g.1 (24 * c)), .int (nI k), .int (bI dg)] M P) (cQi g (fun r M' P' => P = P' ∧ FrF M M' ∧ ((rtX eC (M c) N k dg = none ∧ r = nI 0) ∨ ∃ z l1 l2, rtX eC (M c) N k dg = some (z, l1, l2) ∧ r = nI 1 ∧ RtM M' (l1 ++ l2) (accR (M c) N (twX eC (M c) N k dg) l1 l2) ∧ M' 149 12 = nI z))) 0 0 (gA g) :=
  c_X3_find hc hG.1 hG.2.1 hk hG.vc.1 hG.vc.2 hG.pr.1 hG.pr.2 (fun j hj => (hG.net hj).st.1) (fun j hj => (hG.net hj).st.2) hNb (hG.net hk).p0.1 (hG.net hk).p0.2.1 (hG.net hk).p1.1 (hG.net hk).p1.2.1 (hG.net hk).p2.1 (fun t e => ((hG.net hk).p2.2 t e).1) (hG.net hk).p0.2.2.1 (hG.net hk).2.2.2.2.2.2

set_option maxRecDepth 20000 in
theorem ggX0_layNet_X0_hasNet : GoodIn wsX0_layNet wsX0_hasNet := goodIn_r _ [11, 12, 94, 95, 96, 97, 98, 99, 100, 101] (by decide +kernel) (by decide +kernel)
set_option maxRecDepth 20000 in
theorem gX0_layNet_X0_hasNet : GoodIn wsX0_layNet (wsV RX0 110 RX0 yX0_hasNet wsX0_hasNet) := goodIn_app (goodIn_of _ (by decide +kernel)) ggX0_layNet_X0_hasNet
set_option maxRecDepth 20000 in
theorem ggX0_layNet_X3_find : GoodIn wsX0_layNet wsX3_find := goodIn_r _ [17, 18, 19, 20, 21, 22, 23, 24, 25, 26, 27, 28, 29, 30, 31, 8, 9, 10, 11, 12, 32, 33, 34, 35, 36, 37, 2, 38, 7, 39, 40, 41, 16, 42, 43, 44, 45, 46, 47, 48, 49, 50, 51, 52, 53, 54, 55, 56, 57, 58, 59, 60, 61, 62, 63, 64, 65, 66, 67, 68, 69, 70, 71, 72, 73, 74, 75, 76, 77, 78, 79, 80, 81, 82, 83, 111, 112, 113, 114, 115, 116, 117, 118, 119, 120, 121, 122, 123, 124, 125, 94, 95, 96, 97, 98, 99, 100, 101, 102, 103, 104, 105, 106, 107, 108, 109, 110] (by decide +kernel) (by decide +kernel)
set_option maxRecDepth 20000 in
theorem gX0_layNet_X3_find : GoodIn wsX0_layNet (wsV RX0 122 RX3 yX3_find wsX3_find) := goodIn_app (goodIn_of _ (by decide +kernel)) ggX0_layNet_X3_find
set_option maxRecDepth 20000 in
theorem ggX0_layNet_X0_takeRoute : GoodIn wsX0_layNet wsX0_takeRoute := goodIn_r _ [87, 88, 36, 2, 3, 89, 90, 91, 16, 92, 18, 48, 93, 111, 112, 113, 114, 115, 116, 117, 118, 119, 120, 121, 122, 123, 124, 125, 94, 95, 96, 97, 98, 99, 100, 101, 102, 103, 104, 105, 106, 107, 108, 109, 110] (by decide +kernel) (by decide +kernel)
set_option maxRecDepth 20000 in
theorem gX0_layNet_X0_takeRoute : GoodIn wsX0_layNet (wsV RX0 128 RX0 yX0_takeRoute wsX0_takeRoute) := goodIn_app (goodIn_of _ (by decide +kernel)) ggX0_layNet_X0_takeRoute
theorem dX0_layNet_0 : decode cX0_layNet 0 = .ok (.aload_n 0, 1) := by decide +kernel
theorem dX0_layNet_1 : decode cX0_layNet 1 = .ok (.iload_n 2, 1) := by decide +kernel
theorem dX0_layNet_2 : decode cX0_layNet 2 = .ok (.invokevirtual 110, 3) := by decide +kernel
theorem dX0_layNet_5 : decode cX0_layNet 5 = .ok (.ifCond .ne 6, 3) := by decide +kernel
theorem dX0_layNet_8 : decode cX0_layNet 8 = .ok (.ldc 64, 2) := by decide +kernel
theorem dX0_layNet_10 : decode cX0_layNet 10 = .ok (.ireturn, 1) := by decide +kernel
theorem dX0_layNet_11 : decode cX0_layNet 11 = .ok (.aload_n 0, 1) := by decide +kernel
theorem dX0_layNet_12 : decode cX0_layNet 12 = .ok (.getfield 23, 3) := by decide +kernel
theorem dX0_layNet_15 : decode cX0_layNet 15 = .ok (.iload_n 2, 1) := by decide +kernel
theorem dX0_layNet_16 : decode cX0_layNet 16 = .ok (.aaload, 1) := by decide +kernel
theorem dX0_layNet_17 : decode cX0_layNet 17 = .ok (.getfield 97, 3) := by decide +kernel
theorem dX0_layNet_20 : decode cX0_layNet 20 = .ok (.ifCond .ne 13, 3) := by decide +kernel
theorem dX0_layNet_23 : decode cX0_layNet 23 = .ok (.aload_n 1, 1) := by decide +kernel
theorem dX0_layNet_24 : decode cX0_layNet 24 = .ok (.aload_n 0, 1) := by decide +kernel
theorem dX0_layNet_25 : decode cX0_layNet 25 = .ok (.iload_n 2, 1) := by decide +kernel
theorem dX0_layNet_26 : decode cX0_layNet 26 = .ok (.iconst 0, 1) := by decide +kernel
theorem dX0_layNet_27 : decode cX0_layNet 27 = .ok (.invokevirtual 122, 3) := by decide +kernel
theorem dX0_layNet_30 : decode cX0_layNet 30 = .ok (.ifCond .ne 6, 3) := by decide +kernel
theorem dX0_layNet_33 : decode cX0_layNet 33 = .ok (.ldc 65, 2) := by decide +kernel
theorem dX0_layNet_35 : decode cX0_layNet 35 = .ok (.ireturn, 1) := by decide +kernel
theorem dX0_layNet_36 : decode cX0_layNet 36 = .ok (.aload_n 0, 1) := by decide +kernel
theorem dX0_layNet_37 : decode cX0_layNet 37 = .ok (.aload_n 1, 1) := by decide +kernel
theorem dX0_layNet_38 : decode cX0_layNet 38 = .ok (.iload_n 2, 1) := by decide +kernel
theorem dX0_layNet_39 : decode cX0_layNet 39 = .ok (.invokevirtual 128, 3) := by decide +kernel
theorem dX0_layNet_42 : decode cX0_layNet 42 = .ok (.aload_n 0, 1) := by decide +kernel
theorem dX0_layNet_43 : decode cX0_layNet 43 = .ok (.dup, 1) := by decide +kernel
theorem dX0_layNet_44 : decode cX0_layNet 44 = .ok (.getfield 55, 3) := by decide +kernel
theorem dX0_layNet_47 : decode cX0_layNet 47 = .ok (.iconst 1, 1) := by decide +kernel
theorem dX0_layNet_48 : decode cX0_layNet 48 = .ok (.iadd, 1) := by decide +kernel
theorem dX0_layNet_49 : decode cX0_layNet 49 = .ok (.putfield 55, 3) := by decide +kernel
theorem dX0_layNet_52 : decode cX0_layNet 52 = .ok (.aload_n 1, 1) := by decide +kernel
theorem dX0_layNet_53 : decode cX0_layNet 53 = .ok (.getfield 132, 3) := by decide +kernel
theorem dX0_layNet_56 : decode cX0_layNet 56 = .ok (.ireturn, 1) := by decide +kernel
abbrev rmX0_layNet : Room := { frames := 4, cells := 0, slots := 0, locals := 97 }
set_option maxRecDepth 20000 in
theorem in_X0_layNet_X0 : ∀ w ∈ wsX00, w ∈ wsX0_layNet := by decide +kernel
set_option maxRecDepth 20000 in
theorem in_X0_layNet_X2 : ∀ w ∈ wsX20, w ∈ wsX0_layNet := by decide +kernel
set_option maxRecDepth 20000 in
theorem in_X0_layNet_X3 : ∀ w ∈ wsX30, w ∈ wsX0_layNet := by decide +kernel

set_option maxRecDepth 100000 in
set_option maxHeartbeats 4000000 in
theorem c_X0_layNet {l : Launch} {g : Geo} {M : Nat → Nat → Int32} {P : Nat → Nat} {c : Nat} (hc : c < 6) {N K : Nat} (hG : GdX eC (M c) N K) (hNb : Nbr M) {n : Int32} : Met l yX0_layNet wsX0_layNet rmX0_layNet (cPre g [.ref (g.1 (24 * c)), .ref (g.1 149), .int n] M P) (cQi g (fun r M' P' => P = P' ∧ FrC c M M' ∧ layQ eC (M c) N n r (M' c))) 0 0 (gA g) := by
  refine met_i (cc := cX0_layNet) (maxL := 3) (by decide) rfl ⟨rfl, rfl⟩ (Nat.le_of_ble_eq_true rfl) (fun x hx h hret => ?_)
  replace h : Cxk x g cX0_layNet 3 wsX0_layNet RX0 rmX0_layNet := h
  show X x 0 [(0, .ref (g.1 (24 * c))), (1, .ref (g.1 149)), (2, .int n)] [] M P
  have hN := hG.1
  have hN6 := hG.2.1
  have hK := hG.2.2.1
  have hK12 := hG.2.2.2.1
  refine x_aload_n h 0 dX0_layNet_0 rfl rfl ?_
  refine x_iload_n h 2 dX0_layNet_1 rfl rfl ?_
  refine x_callV h (As := [.int n]) 1 hx (c_X0_hasNet hc hN hN6) gX0_layNet_X0_hasNet rfl ⟨rfl, rfl⟩ (by decide +kernel) rfl (by decide) (hk_chip hc) (E_chip hc) rfl rfl (Nat.le_of_ble_eq_true rfl) dX0_layNet_2 (fun rv M' P' hp => ?_)
  obtain ⟨⟨rfl, rfl⟩, hp⟩ := hp
  rcases hp with ⟨⟨k2, hk2, rfl⟩, rfl⟩ | ⟨nk2, rfl⟩
  · -- call 2
    refine x_if_ne h 11 dX0_layNet_5 (by decide) (fun _ => ?_) (fun c => absurd c (by decide))
    refine x_aload_n h 0 dX0_layNet_11 rfl rfl ?_
    refine xg_X0_3 h hc in_X0_layNet_X0 (by decide +kernel) dX0_layNet_12 ?_
    refine x_iload_n h 2 dX0_layNet_15 rfl rfl ?_
    refine xa_nets h hc dX0_layNet_16 (by omega) ?_
    refine xg_X2_5 h hc (by omega) in_X0_layNet_X2 (by decide +kernel) dX0_layNet_17 ?_
    refine x_if_ne h 33 dX0_layNet_20 (by decide) (fun c_20 => ?_) (fun c_20 => ?_)
    · -- 20 true
      refine x_ldc h ((-1000002)) (by decide +kernel) dX0_layNet_33 ?_
      exact hret _ _ _ _ _ dX0_layNet_35 (by exact ⟨rfl, FrC_r M c, Or.inr ⟨k2, hk2, rfl, Or.inl ⟨Or.inl c_20, rfl, rfl⟩⟩⟩)
    · -- 20 false
      refine x_aload_n h 1 dX0_layNet_23 rfl rfl ?_
      refine x_aload_n h 0 dX0_layNet_24 rfl rfl ?_
      refine x_iload_n h 2 dX0_layNet_25 rfl rfl ?_
      refine x_iconst h (nI 0) dX0_layNet_26 (by decide) ?_
      refine x_callV h (As := [.ref (g.1 (24 * c)), .int (nI k2), .int (nI 0)]) 3 hx (c_X3_findG hc hG hNb hk2 false) gX0_layNet_X3_find rfl ⟨rfl, rfl⟩ (by decide +kernel) rfl (by decide) (by decide) E_149 rfl rfl (Nat.le_of_ble_eq_true rfl) dX0_layNet_27 (fun rv M27 P' hp => ?_)
      obtain ⟨rfl, hF27, hp⟩ := hp
      have hc27 : M27 c = M c := hF27 c (by omega)
      rcases hp with ⟨hn27, rfl⟩ | ⟨z, l1, l2, hs27, rfl, hR27, hz27⟩
      · -- no route
        refine x_if_ne h 36 dX0_layNet_30 (by decide) (fun c => absurd c (by decide)) (fun _ => ?_)
        refine x_ldc h ((-1000002)) (by decide +kernel) dX0_layNet_33 ?_
        exact hret _ _ _ _ _ dX0_layNet_35 (by exact ⟨rfl, FrC_F hF27, Or.inr ⟨k2, hk2, rfl, Or.inl ⟨Or.inr hn27, rfl, hc27⟩⟩⟩)
      · -- a route
        have hok := rtX_ok hG hk2 hs27
        refine x_if_ne h 36 dX0_layNet_30 (by decide) (fun _ => ?_) (fun c => absurd c (by decide))
        refine x_aload_n h 0 dX0_layNet_36 rfl rfl ?_
        refine x_aload_n h 1 dX0_layNet_37 rfl rfl ?_
        refine x_iload_n h 2 dX0_layNet_38 rfl rfl ?_
        refine x_callVv h (As := [.ref (g.1 149), .int (nI k2)]) 2 hx (c_X0_takeRoute hc (by omega) hR27 (rt_len hok) (fun a ha => (hok.2.2.2.2 a ha).1)) gX0_layNet_X0_takeRoute rfl ⟨rfl, rfl⟩ (by decide +kernel) rfl (by decide) (hk_chip hc) (E_chip hc) rfl rfl (Nat.le_of_ble_eq_true rfl) dX0_layNet_39 (fun M39 P' hp => ?_)
        obtain ⟨rfl, hM39⟩ := hp
        refine x_aload_n h 0 dX0_layNet_42 rfl rfl ?_
        refine x_dup h dX0_layNet_43 rfl ?_
        refine xg_X0_7 h hc in_X0_layNet_X0 (by decide +kernel) dX0_layNet_44 ?_
        refine x_iconst h (nI 1) dX0_layNet_47 (by decide) ?_
        refine x_iadd h dX0_layNet_48 ?_
        refine xp_X0_7 h hc in_X0_layNet_X0 (by decide +kernel) dX0_layNet_49 ?_
        refine x_aload_n h 1 dX0_layNet_52 rfl rfl ?_
        refine xg_X3_12 h in_X0_layNet_X3 (by decide +kernel) dX0_layNet_53 ?_
        refine x_top (nI z) (by rw [st2_n _ _ _ (by omega), hM39, va_up_n _ _ (by omega)]; exact hz27) ?_
        exact hret _ _ _ _ _ dX0_layNet_56 (by 
                      refine ⟨rfl, ?_, Or.inr ⟨k2, hk2, rfl, Or.inr ⟨c_20, z, l1, l2, hs27, rfl, ?_⟩⟩⟩
                      · rw [st2_va, hM39, va_up_up]; exact FrC_f hF27
                      · rw [st2_va, va_up_k, hM39, va_up_k, hc27, takeE_4])
  · -- call 2
    refine x_if_ne h 11 dX0_layNet_5 (by decide) (fun c => absurd c (by decide)) (fun _ => ?_)
    refine x_ldc h ((-1000001)) (by decide +kernel) dX0_layNet_8 ?_
    exact hret _ _ _ _ _ dX0_layNet_10 (by exact ⟨rfl, FrC_r M c, Or.inl ⟨nk2, rfl, rfl⟩⟩)

set_option maxRecDepth 20000 in
theorem ggX0_digForNet_X0_hasNet : GoodIn wsX0_digForNet wsX0_hasNet := goodIn_r _ [17, 18, 144, 145, 146, 147, 148, 149, 150, 151] (by decide +kernel) (by decide +kernel)
set_option maxRecDepth 20000 in
theorem gX0_digForNet_X0_hasNet : GoodIn wsX0_digForNet (wsV RX0 110 RX0 yX0_hasNet wsX0_hasNet) := goodIn_app (goodIn_of _ (by decide +kernel)) ggX0_digForNet_X0_hasNet
set_option maxRecDepth 20000 in
theorem ggX0_digForNet_X3_find : GoodIn wsX0_digForNet wsX3_find := goodIn_r _ [23, 24, 25, 26, 27, 28, 29, 30, 31, 32, 33, 34, 35, 36, 37, 14, 15, 16, 17, 18, 38, 39, 40, 41, 42, 43, 2, 44, 13, 45, 46, 47, 22, 48, 49, 50, 51, 52, 53, 54, 55, 56, 57, 58, 59, 60, 61, 62, 63, 64, 65, 66, 67, 68, 69, 70, 71, 72, 73, 74, 75, 76, 77, 78, 79, 80, 81, 82, 83, 84, 85, 86, 87, 88, 89, 161, 162, 163, 164, 165, 166, 167, 168, 169, 170, 171, 172, 173, 174, 175, 144, 145, 146, 147, 148, 149, 150, 151, 152, 153, 154, 155, 156, 157, 158, 159, 160] (by decide +kernel) (by decide +kernel)
set_option maxRecDepth 20000 in
theorem gX0_digForNet_X3_find : GoodIn wsX0_digForNet (wsV RX0 122 RX3 yX3_find wsX3_find) := goodIn_app (goodIn_of _ (by decide +kernel)) ggX0_digForNet_X3_find
set_option maxRecDepth 20000 in
theorem ggX0_digForNet_J6_bitCount_0f7a4 : GoodIn wsX0_digForNet wsJ6_bitCount_0f7a4 := goodIn_r _ [93, 94, 95, 96] (by decide +kernel) (by decide +kernel)
set_option maxRecDepth 20000 in
theorem gX0_digForNet_J6_bitCount_0f7a4 : GoodIn wsX0_digForNet (va_wsS RX0 141 yJ6_bitCount_0f7a4 wsJ6_bitCount_0f7a4) := goodIn_app (goodIn_of _ (by decide +kernel)) ggX0_digForNet_J6_bitCount_0f7a4
set_option maxRecDepth 20000 in
theorem ggX0_digForNet_X2_spend : GoodIn wsX0_digForNet wsX2_spend := goodIn_r _ [101, 102, 103, 152, 153, 154, 155, 156, 157, 158, 159, 160] (by decide +kernel) (by decide +kernel)
set_option maxRecDepth 20000 in
theorem gX0_digForNet_X2_spend : GoodIn wsX0_digForNet (wsV RX0 146 RX2 yX2_spend wsX2_spend) := goodIn_app (goodIn_of _ (by decide +kernel)) ggX0_digForNet_X2_spend
set_option maxRecDepth 20000 in
theorem ggX0_digForNet_X0_addClaim : GoodIn wsX0_digForNet wsX0_addClaim := goodIn_r _ [107, 7, 108, 109, 110, 111, 112, 113, 114, 10, 115, 42, 116, 117, 118, 119, 16, 120, 121, 122, 123, 124, 144, 145, 146, 147, 148, 149, 150, 151, 176, 177, 178, 179, 180, 181, 182] (by decide +kernel) (by decide +kernel)
set_option maxRecDepth 20000 in
theorem gX0_digForNet_X0_addClaim : GoodIn wsX0_digForNet (wsV RX0 153 RX0 yX0_addClaim wsX0_addClaim) := goodIn_app (goodIn_of _ (by decide +kernel)) ggX0_digForNet_X0_addClaim
set_option maxRecDepth 20000 in
theorem ggX0_digForNet_X2_receive : GoodIn wsX0_digForNet wsX2_receive := goodIn_r _ [128, 102, 129, 152, 153, 154, 155, 156, 157, 158, 159, 160] (by decide +kernel) (by decide +kernel)
set_option maxRecDepth 20000 in
theorem gX0_digForNet_X2_receive : GoodIn wsX0_digForNet (wsV RX0 157 RX2 yX2_receive wsX2_receive) := goodIn_app (goodIn_of _ (by decide +kernel)) ggX0_digForNet_X2_receive
set_option maxRecDepth 20000 in
theorem ggX0_digForNet_X0_loseWire : GoodIn wsX0_digForNet wsX0_loseWire := goodIn_r _ [133, 42, 2, 3, 144, 145, 146, 147, 148, 149, 150, 151, 152, 153, 154, 155, 156, 157, 158, 159, 160] (by decide +kernel) (by decide +kernel)
set_option maxRecDepth 20000 in
theorem gX0_digForNet_X0_loseWire : GoodIn wsX0_digForNet (wsV RX0 160 RX0 yX0_loseWire wsX0_loseWire) := goodIn_app (goodIn_of _ (by decide +kernel)) ggX0_digForNet_X0_loseWire
set_option maxRecDepth 20000 in
theorem ggX0_digForNet_X0_takeRoute : GoodIn wsX0_digForNet wsX0_takeRoute := goodIn_r _ [137, 138, 42, 2, 3, 139, 140, 141, 22, 142, 24, 54, 143, 161, 162, 163, 164, 165, 166, 167, 168, 169, 170, 171, 172, 173, 174, 175, 144, 145, 146, 147, 148, 149, 150, 151, 152, 153, 154, 155, 156, 157, 158, 159, 160] (by decide +kernel) (by decide +kernel)
set_option maxRecDepth 20000 in
theorem gX0_digForNet_X0_takeRoute : GoodIn wsX0_digForNet (wsV RX0 128 RX0 yX0_takeRoute wsX0_takeRoute) := goodIn_app (goodIn_of _ (by decide +kernel)) ggX0_digForNet_X0_takeRoute
theorem dX0_digForNet_0 : decode cX0_digForNet 0 = .ok (.aload_n 0, 1) := by decide +kernel
theorem dX0_digForNet_1 : decode cX0_digForNet 1 = .ok (.iload_n 2, 1) := by decide +kernel
theorem dX0_digForNet_2 : decode cX0_digForNet 2 = .ok (.invokevirtual 110, 3) := by decide +kernel
theorem dX0_digForNet_5 : decode cX0_digForNet 5 = .ok (.ifCond .ne 6, 3) := by decide +kernel
theorem dX0_digForNet_8 : decode cX0_digForNet 8 = .ok (.ldc 64, 2) := by decide +kernel
theorem dX0_digForNet_10 : decode cX0_digForNet 10 = .ok (.ireturn, 1) := by decide +kernel
theorem dX0_digForNet_11 : decode cX0_digForNet 11 = .ok (.aload_n 0, 1) := by decide +kernel
theorem dX0_digForNet_12 : decode cX0_digForNet 12 = .ok (.getfield 23, 3) := by decide +kernel
theorem dX0_digForNet_15 : decode cX0_digForNet 15 = .ok (.iload_n 2, 1) := by decide +kernel
theorem dX0_digForNet_16 : decode cX0_digForNet 16 = .ok (.aaload, 1) := by decide +kernel
theorem dX0_digForNet_17 : decode cX0_digForNet 17 = .ok (.astore_n 3, 1) := by decide +kernel
theorem dX0_digForNet_18 : decode cX0_digForNet 18 = .ok (.aload_n 3, 1) := by decide +kernel
theorem dX0_digForNet_19 : decode cX0_digForNet 19 = .ok (.getfield 97, 3) := by decide +kernel
theorem dX0_digForNet_22 : decode cX0_digForNet 22 = .ok (.ifCond .ne 24, 3) := by decide +kernel
theorem dX0_digForNet_25 : decode cX0_digForNet 25 = .ok (.aload_n 1, 1) := by decide +kernel
theorem dX0_digForNet_26 : decode cX0_digForNet 26 = .ok (.aload_n 0, 1) := by decide +kernel
theorem dX0_digForNet_27 : decode cX0_digForNet 27 = .ok (.iload_n 2, 1) := by decide +kernel
theorem dX0_digForNet_28 : decode cX0_digForNet 28 = .ok (.iconst 1, 1) := by decide +kernel
theorem dX0_digForNet_29 : decode cX0_digForNet 29 = .ok (.invokevirtual 122, 3) := by decide +kernel
theorem dX0_digForNet_32 : decode cX0_digForNet 32 = .ok (.ifCond .eq 14, 3) := by decide +kernel
theorem dX0_digForNet_35 : decode cX0_digForNet 35 = .ok (.aload_n 3, 1) := by decide +kernel
theorem dX0_digForNet_36 : decode cX0_digForNet 36 = .ok (.getfield 94, 3) := by decide +kernel
theorem dX0_digForNet_39 : decode cX0_digForNet 39 = .ok (.aload_n 1, 1) := by decide +kernel
theorem dX0_digForNet_40 : decode cX0_digForNet 40 = .ok (.getfield 135, 3) := by decide +kernel
theorem dX0_digForNet_43 : decode cX0_digForNet 43 = .ok (.if_icmp .ge 6, 3) := by decide +kernel
theorem dX0_digForNet_46 : decode cX0_digForNet 46 = .ok (.ldc 65, 2) := by decide +kernel
theorem dX0_digForNet_48 : decode cX0_digForNet 48 = .ok (.ireturn, 1) := by decide +kernel
theorem dX0_digForNet_49 : decode cX0_digForNet 49 = .ok (.aload_n 0, 1) := by decide +kernel
theorem dX0_digForNet_50 : decode cX0_digForNet 50 = .ok (.getfield 49, 3) := by decide +kernel
theorem dX0_digForNet_53 : decode cX0_digForNet 53 = .ok (.aload_n 1, 1) := by decide +kernel
theorem dX0_digForNet_54 : decode cX0_digForNet 54 = .ok (.getfield 138, 3) := by decide +kernel
theorem dX0_digForNet_57 : decode cX0_digForNet 57 = .ok (.invokestatic 141, 3) := by decide +kernel
theorem dX0_digForNet_60 : decode cX0_digForNet 60 = .ok (.iadd, 1) := by decide +kernel
theorem dX0_digForNet_61 : decode cX0_digForNet 61 = .ok (.bipush 12, 2) := by decide +kernel
theorem dX0_digForNet_63 : decode cX0_digForNet 63 = .ok (.if_icmp .le 6, 3) := by decide +kernel
theorem dX0_digForNet_66 : decode cX0_digForNet 66 = .ok (.ldc 77, 2) := by decide +kernel
theorem dX0_digForNet_68 : decode cX0_digForNet 68 = .ok (.ireturn, 1) := by decide +kernel
theorem dX0_digForNet_69 : decode cX0_digForNet 69 = .ok (.aload_n 0, 1) := by decide +kernel
theorem dX0_digForNet_70 : decode cX0_digForNet 70 = .ok (.dup, 1) := by decide +kernel
theorem dX0_digForNet_71 : decode cX0_digForNet 71 = .ok (.getfield 55, 3) := by decide +kernel
theorem dX0_digForNet_74 : decode cX0_digForNet 74 = .ok (.iconst 1, 1) := by decide +kernel
theorem dX0_digForNet_75 : decode cX0_digForNet 75 = .ok (.iadd, 1) := by decide +kernel
theorem dX0_digForNet_76 : decode cX0_digForNet 76 = .ok (.putfield 55, 3) := by decide +kernel
theorem dX0_digForNet_79 : decode cX0_digForNet 79 = .ok (.aload_n 3, 1) := by decide +kernel
theorem dX0_digForNet_80 : decode cX0_digForNet 80 = .ok (.aload_n 1, 1) := by decide +kernel
theorem dX0_digForNet_81 : decode cX0_digForNet 81 = .ok (.getfield 135, 3) := by decide +kernel
theorem dX0_digForNet_84 : decode cX0_digForNet 84 = .ok (.invokevirtual 146, 3) := by decide +kernel
theorem dX0_digForNet_87 : decode cX0_digForNet 87 = .ok (.iconst 0, 1) := by decide +kernel
theorem dX0_digForNet_88 : decode cX0_digForNet 88 = .ok (.istore 4, 2) := by decide +kernel
theorem dX0_digForNet_90 : decode cX0_digForNet 90 = .ok (.iload 4, 2) := by decide +kernel
theorem dX0_digForNet_92 : decode cX0_digForNet 92 = .ok (.bipush 6, 2) := by decide +kernel
theorem dX0_digForNet_94 : decode cX0_digForNet 94 = .ok (.if_icmp .ge 75, 3) := by decide +kernel
theorem dX0_digForNet_97 : decode cX0_digForNet 97 = .ok (.aload_n 1, 1) := by decide +kernel
theorem dX0_digForNet_98 : decode cX0_digForNet 98 = .ok (.getfield 138, 3) := by decide +kernel
theorem dX0_digForNet_101 : decode cX0_digForNet 101 = .ok (.iload 4, 2) := by decide +kernel
theorem dX0_digForNet_103 : decode cX0_digForNet 103 = .ok (.ishr, 1) := by decide +kernel
theorem dX0_digForNet_104 : decode cX0_digForNet 104 = .ok (.iconst 1, 1) := by decide +kernel
theorem dX0_digForNet_105 : decode cX0_digForNet 105 = .ok (.iand, 1) := by decide +kernel
theorem dX0_digForNet_106 : decode cX0_digForNet 106 = .ok (.iconst 1, 1) := by decide +kernel
theorem dX0_digForNet_107 : decode cX0_digForNet 107 = .ok (.if_icmp .ne 56, 3) := by decide +kernel
theorem dX0_digForNet_110 : decode cX0_digForNet 110 = .ok (.aload_n 0, 1) := by decide +kernel
theorem dX0_digForNet_111 : decode cX0_digForNet 111 = .ok (.iload 4, 2) := by decide +kernel
theorem dX0_digForNet_113 : decode cX0_digForNet 113 = .ok (.iload_n 2, 1) := by decide +kernel
theorem dX0_digForNet_114 : decode cX0_digForNet 114 = .ok (.aload_n 1, 1) := by decide +kernel
theorem dX0_digForNet_115 : decode cX0_digForNet 115 = .ok (.getfield 150, 3) := by decide +kernel
theorem dX0_digForNet_118 : decode cX0_digForNet 118 = .ok (.iload 4, 2) := by decide +kernel
theorem dX0_digForNet_120 : decode cX0_digForNet 120 = .ok (.iaload, 1) := by decide +kernel
theorem dX0_digForNet_121 : decode cX0_digForNet 121 = .ok (.invokevirtual 153, 3) := by decide +kernel
theorem dX0_digForNet_124 : decode cX0_digForNet 124 = .ok (.aload_n 0, 1) := by decide +kernel
theorem dX0_digForNet_125 : decode cX0_digForNet 125 = .ok (.getfield 23, 3) := by decide +kernel
theorem dX0_digForNet_128 : decode cX0_digForNet 128 = .ok (.iload 4, 2) := by decide +kernel
theorem dX0_digForNet_130 : decode cX0_digForNet 130 = .ok (.aaload, 1) := by decide +kernel
theorem dX0_digForNet_131 : decode cX0_digForNet 131 = .ok (.aload_n 1, 1) := by decide +kernel
theorem dX0_digForNet_132 : decode cX0_digForNet 132 = .ok (.getfield 150, 3) := by decide +kernel
theorem dX0_digForNet_135 : decode cX0_digForNet 135 = .ok (.iload 4, 2) := by decide +kernel
theorem dX0_digForNet_137 : decode cX0_digForNet 137 = .ok (.iaload, 1) := by decide +kernel
theorem dX0_digForNet_138 : decode cX0_digForNet 138 = .ok (.invokevirtual 157, 3) := by decide +kernel
theorem dX0_digForNet_141 : decode cX0_digForNet 141 = .ok (.aload_n 0, 1) := by decide +kernel
theorem dX0_digForNet_142 : decode cX0_digForNet 142 = .ok (.getfield 23, 3) := by decide +kernel
theorem dX0_digForNet_145 : decode cX0_digForNet 145 = .ok (.iload 4, 2) := by decide +kernel
theorem dX0_digForNet_147 : decode cX0_digForNet 147 = .ok (.aaload, 1) := by decide +kernel
theorem dX0_digForNet_148 : decode cX0_digForNet 148 = .ok (.dup, 1) := by decide +kernel
theorem dX0_digForNet_149 : decode cX0_digForNet 149 = .ok (.getfield 101, 3) := by decide +kernel
theorem dX0_digForNet_152 : decode cX0_digForNet 152 = .ok (.iconst 1, 1) := by decide +kernel
theorem dX0_digForNet_153 : decode cX0_digForNet 153 = .ok (.iadd, 1) := by decide +kernel
theorem dX0_digForNet_154 : decode cX0_digForNet 154 = .ok (.putfield 101, 3) := by decide +kernel
theorem dX0_digForNet_157 : decode cX0_digForNet 157 = .ok (.aload_n 0, 1) := by decide +kernel
theorem dX0_digForNet_158 : decode cX0_digForNet 158 = .ok (.iload 4, 2) := by decide +kernel
theorem dX0_digForNet_160 : decode cX0_digForNet 160 = .ok (.invokevirtual 160, 3) := by decide +kernel
theorem dX0_digForNet_163 : decode cX0_digForNet 163 = .ok (.iinc 4 1, 3) := by decide +kernel
theorem dX0_digForNet_166 : decode cX0_digForNet 166 = .ok (.goto (-76), 3) := by decide +kernel
theorem dX0_digForNet_169 : decode cX0_digForNet 169 = .ok (.aload_n 0, 1) := by decide +kernel
theorem dX0_digForNet_170 : decode cX0_digForNet 170 = .ok (.aload_n 1, 1) := by decide +kernel
theorem dX0_digForNet_171 : decode cX0_digForNet 171 = .ok (.iload_n 2, 1) := by decide +kernel
theorem dX0_digForNet_172 : decode cX0_digForNet 172 = .ok (.invokevirtual 128, 3) := by decide +kernel
theorem dX0_digForNet_175 : decode cX0_digForNet 175 = .ok (.aload_n 1, 1) := by decide +kernel
theorem dX0_digForNet_176 : decode cX0_digForNet 176 = .ok (.getfield 135, 3) := by decide +kernel
theorem dX0_digForNet_179 : decode cX0_digForNet 179 = .ok (.ireturn, 1) := by decide +kernel
abbrev rmX0_digForNet : Room := { frames := 4, cells := 0, slots := 0, locals := 97 }
set_option maxRecDepth 20000 in
theorem in_X0_digForNet_X0 : ∀ w ∈ wsX00, w ∈ wsX0_digForNet := by decide +kernel
set_option maxRecDepth 20000 in
theorem in_X0_digForNet_X2 : ∀ w ∈ wsX20, w ∈ wsX0_digForNet := by decide +kernel
set_option maxRecDepth 20000 in
theorem in_X0_digForNet_X3 : ∀ w ∈ wsX30, w ∈ wsX0_digForNet := by decide +kernel

set_option maxRecDepth 100000 in
set_option maxHeartbeats 16000000 in
theorem c_X0_digForNet {l : Launch} {g : Geo} {M : Nat → Nat → Int32} {P : Nat → Nat} {c : Nat} (hc : c < 6) {N K : Nat} (hG : GdX eC (M c) N K) (hNb : Nbr M) {n : Int32} : Met l yX0_digForNet wsX0_digForNet rmX0_digForNet (cPre g [.ref (g.1 (24 * c)), .ref (g.1 149), .int n] M P) (cQi g (fun r M' P' => P = P' ∧ FrC c M M' ∧ digQ finC eC (M c) N K n r (M' c))) 0 0 (gA g) := by
  refine met_i (cc := cX0_digForNet) (maxL := 5) (by decide) rfl ⟨rfl, rfl⟩ (Nat.le_of_ble_eq_true rfl) (fun x hx h hret => ?_)
  replace h : Cxk x g cX0_digForNet 5 wsX0_digForNet RX0 rmX0_digForNet := h
  show X x 0 [(0, .ref (g.1 (24 * c))), (1, .ref (g.1 149)), (2, .int n)] [] M P
  have hN := hG.1
  have hN6 := hG.2.1
  have hK := hG.2.2.1
  have hK12 := hG.2.2.2.1
  refine x_aload_n h 0 dX0_digForNet_0 rfl rfl ?_
  refine x_iload_n h 2 dX0_digForNet_1 rfl rfl ?_
  refine x_callV h (As := [.int n]) 1 hx (c_X0_hasNet hc hN hN6) gX0_digForNet_X0_hasNet rfl ⟨rfl, rfl⟩ (by decide +kernel) rfl (by decide) (hk_chip hc) (E_chip hc) rfl rfl (Nat.le_of_ble_eq_true rfl) dX0_digForNet_2 (fun rv M' P' hp => ?_)
  obtain ⟨⟨rfl, rfl⟩, hp⟩ := hp
  rcases hp with ⟨⟨k2, hk2, rfl⟩, rfl⟩ | ⟨nk2, rfl⟩
  · -- call 2
    refine x_if_ne h 11 dX0_digForNet_5 (by decide) (fun _ => ?_) (fun c => absurd c (by decide))
    refine x_aload_n h 0 dX0_digForNet_11 rfl rfl ?_
    refine xg_X0_3 h hc in_X0_digForNet_X0 (by decide +kernel) dX0_digForNet_12 ?_
    refine x_iload_n h 2 dX0_digForNet_15 rfl rfl ?_
    refine xa_nets h hc dX0_digForNet_16 (by omega) ?_
    refine x_astore_n h [(3, .ref (g.1 (24 * c + 5 + k2))), (0, .ref (g.1 (24 * c))), (1, .ref (g.1 149)), (2, .int (nI k2))] dX0_digForNet_17 rfl (by decide) rfl ?_
    refine x_aload_n h 0 dX0_digForNet_18 rfl rfl ?_
    refine xg_X2_5 h hc (by omega) in_X0_digForNet_X2 (by decide +kernel) dX0_digForNet_19 ?_
    refine x_if_ne h 46 dX0_digForNet_22 (by decide) (fun c_22 => ?_) (fun c_22 => ?_)
    · -- 22 true
      refine x_ldc h ((-1000002)) (by decide +kernel) dX0_digForNet_46 ?_
      exact hret _ _ _ _ _ dX0_digForNet_48 (by exact ⟨rfl, FrC_r M c, Or.inr ⟨k2, hk2, rfl, Or.inl ⟨Or.inl c_22, rfl, rfl⟩⟩⟩)
    · -- 22 false
      refine x_aload_n h 2 dX0_digForNet_25 rfl rfl ?_
      refine x_aload_n h 1 dX0_digForNet_26 rfl rfl ?_
      refine x_iload_n h 3 dX0_digForNet_27 rfl rfl ?_
      refine x_iconst h (nI 1) dX0_digForNet_28 (by decide) ?_
      refine x_callV h (As := [.ref (g.1 (24 * c)), .int (nI k2), .int (nI 1)]) 3 hx (c_X3_findG hc hG hNb hk2 true) gX0_digForNet_X3_find rfl ⟨rfl, rfl⟩ (by decide +kernel) rfl (by decide) (by decide) E_149 rfl rfl (Nat.le_of_ble_eq_true rfl) dX0_digForNet_29 (fun rv M29 P' hp => ?_)
      obtain ⟨rfl, hF29, hp⟩ := hp
      have hc29 : M29 c = M c := hF29 c (by omega)
      rcases hp with ⟨hn29, rfl⟩ | ⟨z, l1, l2, hs29, rfl, hR29, hz29⟩
      · -- no route
        refine x_if_eq h 46 dX0_digForNet_32 (by decide) (fun _ => ?_) (fun c => absurd (by decide) c)
        refine x_ldc h ((-1000002)) (by decide +kernel) dX0_digForNet_46 ?_
        exact hret _ _ _ _ _ dX0_digForNet_48 (by first | exact ⟨rfl, FrC_F hF29, Or.inr ⟨k2, hk2, rfl, Or.inl ⟨Or.inr hn29, rfl, hc29⟩⟩⟩ | exact ⟨rfl, FrC_F hF29, Or.inr ⟨k2, hk2, rfl, Or.inr ⟨c_22, z, l1, l2, hs29, Or.inl ⟨Int32.not_le.mp c_43, rfl, hc29⟩⟩⟩⟩)
      · -- a route
        have hok := rtX_ok hG hk2 hs29
        refine x_if_eq h 46 dX0_digForNet_32 (by decide) (fun c => absurd c (by decide)) (fun _ => ?_)
        have hA := accR_ok hN6 hk2 hok
        have hb64 := bset_64 (vicE eC (M c) (l1 ++ l2)) hN6
        refine x_aload_n h 0 dX0_digForNet_35 rfl rfl ?_
        refine xg_X2_4 h hc (by omega) in_X0_digForNet_X2 (by decide +kernel) dX0_digForNet_36 ?_
        refine x_top ((M c (169 + 9 * k2 + 4))) (by rw [hc29]) ?_
        refine x_aload_n h 2 dX0_digForNet_39 rfl rfl ?_
        refine xg_X3_13 h in_X0_digForNet_X3 (by decide +kernel) dX0_digForNet_40 ?_
        refine x_top ((nI (priE eC (M c) N (l1 ++ l2)))) (by rw [hR29.2.2.2.1]; exact hA.2.1) ?_
        refine x_icmp_ge h 49 dX0_digForNet_43 (by decide) (fun c_43 => ?_) (fun c_43 => ?_)
        · -- 43 true
          refine x_aload_n h 1 dX0_digForNet_49 rfl rfl ?_
          refine xg_X0_6 h hc in_X0_digForNet_X0 (by decide +kernel) dX0_digForNet_50 ?_
          refine x_top (nI K) (by rw [hc29]; exact hK) ?_
          refine x_aload_n h 2 dX0_digForNet_53 rfl rfl ?_
          refine xg_X3_14 h in_X0_digForNet_X3 (by decide +kernel) dX0_digForNet_54 ?_
          refine x_top ((nI (bset (vicE eC (M c) (l1 ++ l2)) N))) (by rw [hR29.2.2.1]; exact hA.1) ?_
          refine x_callS h (As := [.int (nI (bset (vicE eC (M c) (l1 ++ l2)) N))]) 1 hx (c_J6_bitCount_0f7a4 hb64) gX0_digForNet_J6_bitCount_0f7a4 rfl ⟨rfl, rfl⟩ (by decide +kernel) rfl (by decide) (Nat.le_of_ble_eq_true rfl) dX0_digForNet_57 (fun rv M' P' hp => ?_)
          obtain ⟨⟨rfl, rfl⟩, rfl⟩ := hp
          refine x_iadd_n h dX0_digForNet_60 ?_
          refine x_bipush h (nI 12) dX0_digForNet_61 (by decide) ?_
          refine x_icmp_le_n h 69 dX0_digForNet_63 (by decide) (by first | omega | (have := cnt_le (fun k => (bset (vicE eC (M c) (l1 ++ l2)) N).testBit k) 6; unfold bcnt; omega)) (by decide) (fun c_63 => ?_) (fun c_63 => ?_)
          · -- 63 true
            rw [bcnt_set hN6] at c_63
            refine x_aload_n h 1 dX0_digForNet_69 rfl rfl ?_
            refine x_dup h dX0_digForNet_70 rfl ?_
            refine xg_X0_7 h hc in_X0_digForNet_X0 (by decide +kernel) dX0_digForNet_71 ?_
            refine x_top ((M c 4)) (by rw [hc29]) ?_
            refine x_iconst h (nI 1) dX0_digForNet_74 (by decide) ?_
            refine x_iadd h dX0_digForNet_75 ?_
            refine xp_X0_7 h hc in_X0_digForNet_X0 (by decide +kernel) dX0_digForNet_76 ?_
            refine x_aload_n h 0 dX0_digForNet_79 rfl rfl ?_
            refine x_aload_n h 2 dX0_digForNet_80 rfl rfl ?_
            refine xg_X3_13 h in_X0_digForNet_X3 (by decide +kernel) dX0_digForNet_81 ?_
            refine x_top ((nI (priE eC (M c) N (l1 ++ l2)))) (by rw [st2_n _ _ _ (by omega), hR29.2.2.2.1]; exact hA.2.1) ?_
            refine x_callVv h (As := [.int (nI (priE eC (M c) N (l1 ++ l2)))]) 1 hx (c_X2_spend hc (by omega)) gX0_digForNet_X2_spend rfl ⟨rfl, rfl⟩ (by decide +kernel) rfl (by decide) (hk_net hc (by omega)) (E_net hc (by omega)) rfl rfl (Nat.le_of_ble_eq_true rfl) dX0_digForNet_84 (fun M84 P' hp => ?_)
            obtain ⟨rfl, hM84⟩ := hp
            refine x_iconst h (nI 0) dX0_digForNet_87 (by decide) ?_
            refine x_istore h [(4, .int (nI 0)), (3, .ref (g.1 (24 * c + 5 + k2))), (0, .ref (g.1 (24 * c))), (1, .ref (g.1 149)), (2, .int (nI k2))] dX0_digForNet_88 (by decide) rfl ?_
            have L90 : ∀ (fu : Nat) (v : Nat) (W : Nat → Nat → Int32), (6 - v) < fu → (v ≤ 6) → (W = va_up M29 c (dgR (M c) (l1 ++ l2) N k2 K (spendX (upd (M c) 4 (M c 4 + nI 1)) k2 (nI (priE eC (M c) N (l1 ++ l2)))) v)) → X x 90 [(0, .ref (g.1 (24 * c))), (1, .ref (g.1 149)), (2, .int (nI k2)), (4, .int (nI v))] [] W P := by
              intro fu
              induction fu with
              | zero => intro v W hmu90; exact absurd hmu90 (Nat.not_lt_zero _)
              | succ fu ih90 =>
                intro v W hmu90 hv hW
                refine x_iload h 3 dX0_digForNet_90 rfl ?_
                refine x_bipush h (nI 6) dX0_digForNet_92 (by decide) ?_
                refine x_icmp_ge_n h 169 dX0_digForNet_94 (by decide) (by first | omega | (have := cnt_le (fun k => (bset (vicE eC (M c) (l1 ++ l2)) N).testBit k) 6; unfold bcnt; omega)) (by decide) (fun c_94 => ?_) (fun c_94 => ?_)
                · -- 94 true
                  refine x_aload_n h 0 dX0_digForNet_169 rfl rfl ?_
                  refine x_aload_n h 1 dX0_digForNet_170 rfl rfl ?_
                  refine x_iload_n h 2 dX0_digForNet_171 rfl rfl ?_
                  refine x_callVv h (As := [.ref (g.1 149), .int (nI k2)]) 2 hx (c_X0_takeRoute hc (by omega) (by rw [hW]; exact RtM_v hc hR29) (rt_len hok) (fun a ha => (hok.2.2.2.2 a ha).1)) gX0_digForNet_X0_takeRoute rfl ⟨rfl, rfl⟩ (by decide +kernel) rfl (by decide) (hk_chip hc) (E_chip hc) rfl rfl (Nat.le_of_ble_eq_true rfl) dX0_digForNet_172 (fun M172 P' hp => ?_)
                  obtain ⟨rfl, hM172⟩ := hp
                  refine x_aload_n h 1 dX0_digForNet_175 rfl rfl ?_
                  refine xg_X3_13 h in_X0_digForNet_X3 (by decide +kernel) dX0_digForNet_176 ?_
                  refine x_top ((nI (priE eC (M c) N (l1 ++ l2)))) (by rw [hM172, va_up_n _ _ (by omega), hW, va_up_n _ _ (by omega), hR29.2.2.2.1]; exact hA.2.1) ?_
                  exact hret _ _ _ _ _ dX0_digForNet_179 (by 
                                          obtain rfl : v = 6 := (by omega); refine ⟨rfl, ?_, Or.inr ⟨k2, hk2, rfl, Or.inr ⟨c_22, z, l1, l2, hs29, Or.inr ⟨Int32.not_lt.mpr c_43, Or.inr ⟨by omega, rfl, ?_⟩⟩⟩⟩⟩
                                          · rw [hM172, hW, va_up_up]; exact FrC_f hF29
                                          · rw [hM172, va_up_k, hW, va_up_k]; rfl)
                · -- 94 false
                  have hW149 : W 149 = M29 149 := by rw [hW, va_up_n _ _ (by omega)]
                  have hW157 : W 157 = M29 157 := by rw [hW, va_up_n _ _ (by omega)]
                  refine x_aload_n h 1 dX0_digForNet_97 rfl rfl ?_
                  refine xg_X3_14 h in_X0_digForNet_X3 (by decide +kernel) dX0_digForNet_98 ?_
                  refine x_top ((nI (bset (vicE eC (M c) (l1 ++ l2)) N))) (by rw [hW149, hR29.2.2.1]; exact hA.1) ?_
                  refine x_iload h 3 dX0_digForNet_101 rfl ?_
                  refine x_ishr h dX0_digForNet_103 ?_
                  refine x_iconst h (nI 1) dX0_digForNet_104 (by decide) ?_
                  refine x_iand h dX0_digForNet_105 ?_
                  refine x_iconst h (nI 1) dX0_digForNet_106 (by decide) ?_
                  refine x_icmp_ne h 163 dX0_digForNet_107 (by decide) (fun c_107 => ?_) (fun c_107 => ?_)
                  · -- 107 true
                    have hvv : ¬ (v < N ∧ vicE eC (M c) (l1 ++ l2) v = true) := fun q => c_107 ((bit1_nI hb64 (by omega)).mpr (by rw [bset_bit]; simp [q.1, q.2]))
                    refine x_iinc_n h 3 (n := 1) [(4, .int (nI (v + 1))), (0, .ref (g.1 (24 * c))), (1, .ref (g.1 149)), (2, .int (nI k2))] dX0_digForNet_163 rfl (by decide) rfl ?_
                    refine x_goto h 90 dX0_digForNet_166 (by decide) ?_
                    exact x_lv (ih90 (v + 1) W (by omega) (by omega) (by first | (rw [hM160]; simp only [st2_va, hM138, hM121, hW, va_up_up, va_up_k]; exact congrArg _ (by rw [dgR, if_pos hvv]; rfl)) | (rw [hW, dgR, if_neg hvv]))) [1, 2, 3, 0] rfl
                  · -- 107 false
                    have hvv : v < N ∧ vicE eC (M c) (l1 ++ l2) v = true := by have q := (bit1_nI hb64 (by omega)).mp c_107; rw [bset_bit] at q; simpa using q
                    have hcv := cnt_s (p := vicE eC (M c) (l1 ++ l2)) hvv.2
                    have hcl := cnt_le2 (p := vicE eC (M c) (l1 ++ l2)) (a := v + 1) (b := N) hvv.1
                    have hY6 : (spendX (upd (M c) 4 (M c 4 + nI 1)) k2 (nI (priE eC (M c) N (l1 ++ l2)))) 6 = nI K := by unfold spendX; rw [pk_un (by omega), pk_un (by omega), pk_un (by omega)]; exact hK
                    have hW6 : W c 6 = nI (K + cnt (vicE eC (M c) (l1 ++ l2)) v) := by rw [hW, va_up_k]; exact dgR_6 hY6 v (by omega)
                    refine x_aload_n h 0 dX0_digForNet_110 rfl rfl ?_
                    refine x_iload h 3 dX0_digForNet_111 rfl ?_
                    refine x_iload_n h 2 dX0_digForNet_113 rfl rfl ?_
                    refine x_aload_n h 1 dX0_digForNet_114 rfl rfl ?_
                    refine xg_X3_10 h in_X0_digForNet_X3 (by decide +kernel) dX0_digForNet_115 ?_
                    refine x_iload h 3 dX0_digForNet_118 rfl ?_
                    refine xl_157 h dX0_digForNet_120 (by omega) ?_
                    refine x_top ((nI (dueE eC (M c) (l1 ++ l2) v))) (by rw [hW157, hR29.2.2.2.2 v (by omega)]; exact hA.2.2 v hvv.1) ?_
                    refine x_callVv h (As := [.int (nI v), .int (nI k2), .int (nI (dueE eC (M c) (l1 ++ l2) v))]) 3 hx (c_X0_addClaim hc hW6 (by omega)) gX0_digForNet_X0_addClaim rfl ⟨rfl, rfl⟩ (by decide +kernel) rfl (by decide) (hk_chip hc) (E_chip hc) rfl rfl (Nat.le_of_ble_eq_true rfl) dX0_digForNet_121 (fun M121 P' hp => ?_)
                    obtain ⟨rfl, hM121⟩ := hp
                    refine x_aload_n h 0 dX0_digForNet_124 rfl rfl ?_
                    refine xg_X0_3 h hc in_X0_digForNet_X0 (by decide +kernel) dX0_digForNet_125 ?_
                    refine x_iload h 3 dX0_digForNet_128 rfl ?_
                    refine xa_nets h hc dX0_digForNet_130 (by omega) ?_
                    refine x_aload_n h 1 dX0_digForNet_131 rfl rfl ?_
                    refine xg_X3_10 h in_X0_digForNet_X3 (by decide +kernel) dX0_digForNet_132 ?_
                    refine x_iload h 3 dX0_digForNet_135 rfl ?_
                    refine xl_157 h dX0_digForNet_137 (by omega) ?_
                    refine x_top ((nI (dueE eC (M c) (l1 ++ l2) v))) (by rw [hM121, va_up_n _ _ (by omega), hW157, hR29.2.2.2.2 v (by omega)]; exact hA.2.2 v hvv.1) ?_
                    refine x_callVv h (As := [.int (nI (dueE eC (M c) (l1 ++ l2) v))]) 1 hx (c_X2_receive hc (by omega)) gX0_digForNet_X2_receive rfl ⟨rfl, rfl⟩ (by decide +kernel) rfl (by decide) (hk_net hc (by omega)) (E_net hc (by omega)) rfl rfl (Nat.le_of_ble_eq_true rfl) dX0_digForNet_138 (fun M138 P' hp => ?_)
                    obtain ⟨rfl, hM138⟩ := hp
                    refine x_aload_n h 0 dX0_digForNet_141 rfl rfl ?_
                    refine xg_X0_3 h hc in_X0_digForNet_X0 (by decide +kernel) dX0_digForNet_142 ?_
                    refine x_iload h 3 dX0_digForNet_145 rfl ?_
                    refine xa_nets h hc dX0_digForNet_147 (by omega) ?_
                    refine x_dup h dX0_digForNet_148 rfl ?_
                    refine xg_X2_6 h hc (by omega) in_X0_digForNet_X2 (by decide +kernel) dX0_digForNet_149 ?_
                    refine x_iconst h (nI 1) dX0_digForNet_152 (by decide) ?_
                    refine x_iadd h dX0_digForNet_153 ?_
                    refine xp_X2_6 h hc (by omega) in_X0_digForNet_X2 (by decide +kernel) dX0_digForNet_154 ?_
                    refine x_aload_n h 0 dX0_digForNet_157 rfl rfl ?_
                    refine x_iload h 3 dX0_digForNet_158 rfl ?_
                    refine x_callVv h (As := [.int (nI v)]) 1 hx (c_X0_loseWire hc (by omega)) gX0_digForNet_X0_loseWire rfl ⟨rfl, rfl⟩ (by decide +kernel) rfl (by decide) (hk_chip hc) (E_chip hc) rfl rfl (Nat.le_of_ble_eq_true rfl) dX0_digForNet_160 (fun M160 P' hp => ?_)
                    obtain ⟨rfl, hM160⟩ := hp
                    refine x_iinc_n h 3 (n := 1) [(4, .int (nI (v + 1))), (0, .ref (g.1 (24 * c))), (1, .ref (g.1 149)), (2, .int (nI k2))] dX0_digForNet_163 rfl (by decide) rfl ?_
                    refine x_goto h 90 dX0_digForNet_166 (by decide) ?_
                    exact x_lv (ih90 (v + 1) M160 (by omega) (by omega) (by first | (rw [hM160]; simp only [st2_va, hM138, hM121, hW, va_up_up, va_up_k]; exact congrArg _ (by rw [dgR, if_pos hvv]; rfl)) | (rw [hW, dgR, if_neg hvv]))) [1, 2, 3, 0] rfl
            exact x_lv (L90 _ 0 M84 (Nat.lt_succ_self _) (by omega) (by rw [hM84]; simp only [st2_va, va_up_up, va_up_k, hc29]; rfl)) [2, 3, 4, 0] rfl
          · -- 63 false
            rw [bcnt_set hN6] at c_63
            refine x_ldc h ((-1000003)) (by decide +kernel) dX0_digForNet_66 ?_
            exact hret _ _ _ _ _ dX0_digForNet_68 (by exact ⟨rfl, FrC_F hF29, Or.inr ⟨k2, hk2, rfl, Or.inr ⟨c_22, z, l1, l2, hs29, Or.inr ⟨Int32.not_lt.mpr c_43, Or.inl ⟨by omega, rfl, hc29⟩⟩⟩⟩⟩)
        · -- 43 false
          refine x_ldc h ((-1000002)) (by decide +kernel) dX0_digForNet_46 ?_
          exact hret _ _ _ _ _ dX0_digForNet_48 (by first | exact ⟨rfl, FrC_F hF29, Or.inr ⟨k2, hk2, rfl, Or.inl ⟨Or.inr hn29, rfl, hc29⟩⟩⟩ | exact ⟨rfl, FrC_F hF29, Or.inr ⟨k2, hk2, rfl, Or.inr ⟨c_22, z, l1, l2, hs29, Or.inl ⟨Int32.not_le.mp c_43, rfl, hc29⟩⟩⟩⟩)
  · -- call 2
    refine x_if_ne h 11 dX0_digForNet_5 (by decide) (fun c => absurd c (by decide)) (fun _ => ?_)
    refine x_ldc h ((-1000001)) (by decide +kernel) dX0_digForNet_8 ?_
    exact hret _ _ _ _ _ dX0_digForNet_10 (by exact ⟨rfl, FrC_r M c, Or.inl ⟨nk2, rfl, rfl⟩⟩)

set_option maxRecDepth 20000 in
theorem ggX0_hearFirst_X0_appealAt : GoodIn wsX0_hearFirst wsX0_appealAt := goodIn_r _ [21, 22, 2, 15, 23, 24, 25, 20, 26, 27, 28, 29, 30, 31, 32, 33, 70, 71, 72, 73, 74, 75, 76, 77, 78, 79, 80, 81, 82, 83, 84] (by decide +kernel) (by decide +kernel)
set_option maxRecDepth 20000 in
theorem gX0_hearFirst_X0_appealAt : GoodIn wsX0_hearFirst (wsV RX0 194 RX0 yX0_appealAt wsX0_appealAt) := goodIn_app (goodIn_of _ (by decide +kernel)) ggX0_hearFirst_X0_appealAt
set_option maxRecDepth 20000 in
theorem ggX0_hearFirst_X0_hasClaim : GoodIn wsX0_hearFirst wsX0_hasClaim := goodIn_r _ [37, 22, 70, 71, 72, 73, 74, 75, 76, 77] (by decide +kernel) (by decide +kernel)
set_option maxRecDepth 20000 in
theorem gX0_hearFirst_X0_hasClaim : GoodIn wsX0_hearFirst (wsV RX0 188 RX0 yX0_hasClaim wsX0_hasClaim) := goodIn_app (goodIn_of _ (by decide +kernel)) ggX0_hearFirst_X0_hasClaim
set_option maxRecDepth 20000 in
theorem ggX0_hearFirst_X0_hasNet : GoodIn wsX0_hearFirst wsX0_hasNet := goodIn_r _ [41, 42, 70, 71, 72, 73, 74, 75, 76, 77] (by decide +kernel) (by decide +kernel)
set_option maxRecDepth 20000 in
theorem gX0_hearFirst_X0_hasNet : GoodIn wsX0_hearFirst (wsV RX0 110 RX0 yX0_hasNet wsX0_hasNet) := goodIn_app (goodIn_of _ (by decide +kernel)) ggX0_hearFirst_X0_hasNet
set_option maxRecDepth 20000 in
theorem ggX0_hearFirst_X0_lossOf : GoodIn wsX0_hearFirst wsX0_lossOf := goodIn_r _ [30, 31, 32, 33, 70, 71, 72, 73, 74, 75, 76, 77, 78, 79, 80, 81, 82, 83, 84] (by decide +kernel) (by decide +kernel)
set_option maxRecDepth 20000 in
theorem gX0_hearFirst_X0_lossOf : GoodIn wsX0_hearFirst (wsV RX0 197 RX0 yX0_lossOf wsX0_lossOf) := goodIn_app (goodIn_of _ (by decide +kernel)) ggX0_hearFirst_X0_lossOf
set_option maxRecDepth 20000 in
theorem ggX0_hearFirst_X2_spend : GoodIn wsX0_hearFirst wsX2_spend := goodIn_r _ [47, 48, 49, 85, 86, 87, 88, 89, 90, 91, 92, 93] (by decide +kernel) (by decide +kernel)
set_option maxRecDepth 20000 in
theorem gX0_hearFirst_X2_spend : GoodIn wsX0_hearFirst (wsV RX0 146 RX2 yX2_spend wsX2_spend) := goodIn_app (goodIn_of _ (by decide +kernel)) ggX0_hearFirst_X2_spend
set_option maxRecDepth 20000 in
theorem ggX0_hearFirst_X2_receive : GoodIn wsX0_hearFirst wsX2_receive := goodIn_r _ [53, 48, 54, 85, 86, 87, 88, 89, 90, 91, 92, 93] (by decide +kernel) (by decide +kernel)
set_option maxRecDepth 20000 in
theorem gX0_hearFirst_X2_receive : GoodIn wsX0_hearFirst (wsV RX0 157 RX2 yX2_receive wsX2_receive) := goodIn_app (goodIn_of _ (by decide +kernel)) ggX0_hearFirst_X2_receive
set_option maxRecDepth 20000 in
theorem ggX0_hearFirst_X0_loseWire : GoodIn wsX0_hearFirst wsX0_loseWire := goodIn_r _ [58, 59, 5, 60, 70, 71, 72, 73, 74, 75, 76, 77, 85, 86, 87, 88, 89, 90, 91, 92, 93] (by decide +kernel) (by decide +kernel)
set_option maxRecDepth 20000 in
theorem gX0_hearFirst_X0_loseWire : GoodIn wsX0_hearFirst (wsV RX0 160 RX0 yX0_loseWire wsX0_loseWire) := goodIn_app (goodIn_of _ (by decide +kernel)) ggX0_hearFirst_X0_loseWire
set_option maxRecDepth 20000 in
theorem ggX0_hearFirst_X0_giveBack : GoodIn wsX0_hearFirst wsX0_giveBack := goodIn_r _ [64, 5, 60, 65, 59, 66, 67, 68, 20, 69, 70, 71, 72, 73, 74, 75, 76, 77, 85, 86, 87, 88, 89, 90, 91, 92, 93] (by decide +kernel) (by decide +kernel)
set_option maxRecDepth 20000 in
theorem gX0_hearFirst_X0_giveBack : GoodIn wsX0_hearFirst (wsV RX0 210 RX0 yX0_giveBack wsX0_giveBack) := goodIn_app (goodIn_of _ (by decide +kernel)) ggX0_hearFirst_X0_giveBack
theorem dX0_hearFirst_0 : decode cX0_hearFirst 0 = .ok (.aload_n 0, 1) := by decide +kernel
theorem dX0_hearFirst_1 : decode cX0_hearFirst 1 = .ok (.iconst 0, 1) := by decide +kernel
theorem dX0_hearFirst_2 : decode cX0_hearFirst 2 = .ok (.invokevirtual 194, 3) := by decide +kernel
theorem dX0_hearFirst_5 : decode cX0_hearFirst 5 = .ok (.istore_n 1, 1) := by decide +kernel
theorem dX0_hearFirst_6 : decode cX0_hearFirst 6 = .ok (.aload_n 0, 1) := by decide +kernel
theorem dX0_hearFirst_7 : decode cX0_hearFirst 7 = .ok (.iload_n 1, 1) := by decide +kernel
theorem dX0_hearFirst_8 : decode cX0_hearFirst 8 = .ok (.invokevirtual 188, 3) := by decide +kernel
theorem dX0_hearFirst_11 : decode cX0_hearFirst 11 = .ok (.ifCond .ne 6, 3) := by decide +kernel
theorem dX0_hearFirst_14 : decode cX0_hearFirst 14 = .ok (.ldc 65, 2) := by decide +kernel
theorem dX0_hearFirst_16 : decode cX0_hearFirst 16 = .ok (.ireturn, 1) := by decide +kernel
theorem dX0_hearFirst_17 : decode cX0_hearFirst 17 = .ok (.aload_n 0, 1) := by decide +kernel
theorem dX0_hearFirst_18 : decode cX0_hearFirst 18 = .ok (.getfield 30, 3) := by decide +kernel
theorem dX0_hearFirst_21 : decode cX0_hearFirst 21 = .ok (.iload_n 1, 1) := by decide +kernel
theorem dX0_hearFirst_22 : decode cX0_hearFirst 22 = .ok (.aaload, 1) := by decide +kernel
theorem dX0_hearFirst_23 : decode cX0_hearFirst 23 = .ok (.astore_n 2, 1) := by decide +kernel
theorem dX0_hearFirst_24 : decode cX0_hearFirst 24 = .ok (.aload_n 0, 1) := by decide +kernel
theorem dX0_hearFirst_25 : decode cX0_hearFirst 25 = .ok (.aload_n 2, 1) := by decide +kernel
theorem dX0_hearFirst_26 : decode cX0_hearFirst 26 = .ok (.getfield 172, 3) := by decide +kernel
theorem dX0_hearFirst_29 : decode cX0_hearFirst 29 = .ok (.invokevirtual 110, 3) := by decide +kernel
theorem dX0_hearFirst_32 : decode cX0_hearFirst 32 = .ok (.ifCond .eq 14, 3) := by decide +kernel
theorem dX0_hearFirst_35 : decode cX0_hearFirst 35 = .ok (.aload_n 0, 1) := by decide +kernel
theorem dX0_hearFirst_36 : decode cX0_hearFirst 36 = .ok (.aload_n 2, 1) := by decide +kernel
theorem dX0_hearFirst_37 : decode cX0_hearFirst 37 = .ok (.getfield 169, 3) := by decide +kernel
theorem dX0_hearFirst_40 : decode cX0_hearFirst 40 = .ok (.invokevirtual 110, 3) := by decide +kernel
theorem dX0_hearFirst_43 : decode cX0_hearFirst 43 = .ok (.ifCond .ne 6, 3) := by decide +kernel
theorem dX0_hearFirst_46 : decode cX0_hearFirst 46 = .ok (.ldc 65, 2) := by decide +kernel
theorem dX0_hearFirst_48 : decode cX0_hearFirst 48 = .ok (.ireturn, 1) := by decide +kernel
theorem dX0_hearFirst_49 : decode cX0_hearFirst 49 = .ok (.aload_n 0, 1) := by decide +kernel
theorem dX0_hearFirst_50 : decode cX0_hearFirst 50 = .ok (.getfield 23, 3) := by decide +kernel
theorem dX0_hearFirst_53 : decode cX0_hearFirst 53 = .ok (.aload_n 2, 1) := by decide +kernel
theorem dX0_hearFirst_54 : decode cX0_hearFirst 54 = .ok (.getfield 172, 3) := by decide +kernel
theorem dX0_hearFirst_57 : decode cX0_hearFirst 57 = .ok (.aaload, 1) := by decide +kernel
theorem dX0_hearFirst_58 : decode cX0_hearFirst 58 = .ok (.astore_n 3, 1) := by decide +kernel
theorem dX0_hearFirst_59 : decode cX0_hearFirst 59 = .ok (.aload_n 0, 1) := by decide +kernel
theorem dX0_hearFirst_60 : decode cX0_hearFirst 60 = .ok (.aload_n 2, 1) := by decide +kernel
theorem dX0_hearFirst_61 : decode cX0_hearFirst 61 = .ok (.invokevirtual 197, 3) := by decide +kernel
theorem dX0_hearFirst_64 : decode cX0_hearFirst 64 = .ok (.aload_n 2, 1) := by decide +kernel
theorem dX0_hearFirst_65 : decode cX0_hearFirst 65 = .ok (.getfield 181, 3) := by decide +kernel
theorem dX0_hearFirst_68 : decode cX0_hearFirst 68 = .ok (.isub, 1) := by decide +kernel
theorem dX0_hearFirst_69 : decode cX0_hearFirst 69 = .ok (.istore 4, 2) := by decide +kernel
theorem dX0_hearFirst_71 : decode cX0_hearFirst 71 = .ok (.iconst 0, 1) := by decide +kernel
theorem dX0_hearFirst_72 : decode cX0_hearFirst 72 = .ok (.iload 4, 2) := by decide +kernel
theorem dX0_hearFirst_74 : decode cX0_hearFirst 74 = .ok (.aload_n 3, 1) := by decide +kernel
theorem dX0_hearFirst_75 : decode cX0_hearFirst 75 = .ok (.getfield 94, 3) := by decide +kernel
theorem dX0_hearFirst_78 : decode cX0_hearFirst 78 = .ok (.invokestatic 201, 3) := by decide +kernel
theorem dX0_hearFirst_81 : decode cX0_hearFirst 81 = .ok (.invokestatic 207, 3) := by decide +kernel
theorem dX0_hearFirst_84 : decode cX0_hearFirst 84 = .ok (.istore 5, 2) := by decide +kernel
theorem dX0_hearFirst_86 : decode cX0_hearFirst 86 = .ok (.aload_n 3, 1) := by decide +kernel
theorem dX0_hearFirst_87 : decode cX0_hearFirst 87 = .ok (.iload 5, 2) := by decide +kernel
theorem dX0_hearFirst_89 : decode cX0_hearFirst 89 = .ok (.invokevirtual 146, 3) := by decide +kernel
theorem dX0_hearFirst_92 : decode cX0_hearFirst 92 = .ok (.aload_n 0, 1) := by decide +kernel
theorem dX0_hearFirst_93 : decode cX0_hearFirst 93 = .ok (.getfield 23, 3) := by decide +kernel
theorem dX0_hearFirst_96 : decode cX0_hearFirst 96 = .ok (.aload_n 2, 1) := by decide +kernel
theorem dX0_hearFirst_97 : decode cX0_hearFirst 97 = .ok (.getfield 169, 3) := by decide +kernel
theorem dX0_hearFirst_100 : decode cX0_hearFirst 100 = .ok (.aaload, 1) := by decide +kernel
theorem dX0_hearFirst_101 : decode cX0_hearFirst 101 = .ok (.iload 5, 2) := by decide +kernel
theorem dX0_hearFirst_103 : decode cX0_hearFirst 103 = .ok (.invokevirtual 157, 3) := by decide +kernel
theorem dX0_hearFirst_106 : decode cX0_hearFirst 106 = .ok (.aload_n 2, 1) := by decide +kernel
theorem dX0_hearFirst_107 : decode cX0_hearFirst 107 = .ok (.dup, 1) := by decide +kernel
theorem dX0_hearFirst_108 : decode cX0_hearFirst 108 = .ok (.getfield 181, 3) := by decide +kernel
theorem dX0_hearFirst_111 : decode cX0_hearFirst 111 = .ok (.iload 5, 2) := by decide +kernel
theorem dX0_hearFirst_113 : decode cX0_hearFirst 113 = .ok (.iadd, 1) := by decide +kernel
theorem dX0_hearFirst_114 : decode cX0_hearFirst 114 = .ok (.putfield 181, 3) := by decide +kernel
theorem dX0_hearFirst_117 : decode cX0_hearFirst 117 = .ok (.aload_n 2, 1) := by decide +kernel
theorem dX0_hearFirst_118 : decode cX0_hearFirst 118 = .ok (.iconst 2, 1) := by decide +kernel
theorem dX0_hearFirst_119 : decode cX0_hearFirst 119 = .ok (.putfield 182, 3) := by decide +kernel
theorem dX0_hearFirst_122 : decode cX0_hearFirst 122 = .ok (.iload 5, 2) := by decide +kernel
theorem dX0_hearFirst_124 : decode cX0_hearFirst 124 = .ok (.iload 4, 2) := by decide +kernel
theorem dX0_hearFirst_126 : decode cX0_hearFirst 126 = .ok (.if_icmp .ge 20, 3) := by decide +kernel
theorem dX0_hearFirst_129 : decode cX0_hearFirst 129 = .ok (.aload_n 0, 1) := by decide +kernel
theorem dX0_hearFirst_130 : decode cX0_hearFirst 130 = .ok (.aload_n 2, 1) := by decide +kernel
theorem dX0_hearFirst_131 : decode cX0_hearFirst 131 = .ok (.getfield 172, 3) := by decide +kernel
theorem dX0_hearFirst_134 : decode cX0_hearFirst 134 = .ok (.invokevirtual 160, 3) := by decide +kernel
theorem dX0_hearFirst_137 : decode cX0_hearFirst 137 = .ok (.aload_n 0, 1) := by decide +kernel
theorem dX0_hearFirst_138 : decode cX0_hearFirst 138 = .ok (.iload_n 1, 1) := by decide +kernel
theorem dX0_hearFirst_139 : decode cX0_hearFirst 139 = .ok (.aload_n 2, 1) := by decide +kernel
theorem dX0_hearFirst_140 : decode cX0_hearFirst 140 = .ok (.getfield 169, 3) := by decide +kernel
theorem dX0_hearFirst_143 : decode cX0_hearFirst 143 = .ok (.invokevirtual 210, 3) := by decide +kernel
theorem dX0_hearFirst_146 : decode cX0_hearFirst 146 = .ok (.aload_n 0, 1) := by decide +kernel
theorem dX0_hearFirst_147 : decode cX0_hearFirst 147 = .ok (.dup, 1) := by decide +kernel
theorem dX0_hearFirst_148 : decode cX0_hearFirst 148 = .ok (.getfield 55, 3) := by decide +kernel
theorem dX0_hearFirst_151 : decode cX0_hearFirst 151 = .ok (.iconst 1, 1) := by decide +kernel
theorem dX0_hearFirst_152 : decode cX0_hearFirst 152 = .ok (.iadd, 1) := by decide +kernel
theorem dX0_hearFirst_153 : decode cX0_hearFirst 153 = .ok (.putfield 55, 3) := by decide +kernel
theorem dX0_hearFirst_156 : decode cX0_hearFirst 156 = .ok (.iload 5, 2) := by decide +kernel
theorem dX0_hearFirst_158 : decode cX0_hearFirst 158 = .ok (.ireturn, 1) := by decide +kernel
abbrev rmX0_hearFirst : Room := { frames := 3, cells := 0, slots := 0, locals := 69 }
set_option maxRecDepth 20000 in
theorem in_X0_hearFirst_X0 : ∀ w ∈ wsX00, w ∈ wsX0_hearFirst := by decide +kernel
set_option maxRecDepth 20000 in
theorem in_X0_hearFirst_X1 : ∀ w ∈ wsX10, w ∈ wsX0_hearFirst := by decide +kernel
set_option maxRecDepth 20000 in
theorem in_X0_hearFirst_X2 : ∀ w ∈ wsX20, w ∈ wsX0_hearFirst := by decide +kernel

set_option maxRecDepth 100000 in
set_option maxHeartbeats 4000000 in
theorem c_X0_hearFirst {l : Launch} {g : Geo} {M : Nat → Nat → Int32} {P : Nat → Nat} {c : Nat} (hc : c < 6) {N K : Nat} (hG : GdX eC (M c) N K) : Met l yX0_hearFirst wsX0_hearFirst rmX0_hearFirst (cPre g [.ref (g.1 (24 * c))] M P) (cQi g (fun r M' P' => P = P' ∧ FrC c M M' ∧ hearQ bC eC (M c) N K r (M' c))) 0 0 (gA g) := by
  refine met_i (cc := cX0_hearFirst) (maxL := 6) (by decide) rfl ⟨rfl, rfl⟩ (Nat.le_of_ble_eq_true rfl) (fun x hx h hret => ?_)
  replace h : Cxk x g cX0_hearFirst 6 wsX0_hearFirst RX0 rmX0_hearFirst := h
  show X x 0 [(0, .ref (g.1 (24 * c)))] [] M P
  have hN := hG.1
  have hN6 := hG.2.1
  have hK := hG.2.2.1
  have hK12 := hG.2.2.2.1
  refine x_aload_n h 0 dX0_hearFirst_0 rfl rfl ?_
  refine x_iconst h (nI 0) dX0_hearFirst_1 (by decide) ?_
  refine x_callV h (As := [.int (nI 0)]) 1 hx (c_X0_appealAt hc hK hK12) gX0_hearFirst_X0_appealAt rfl ⟨rfl, rfl⟩ (by decide +kernel) rfl (by decide) (hk_chip hc) (E_chip hc) rfl rfl (Nat.le_of_ble_eq_true rfl) dX0_hearFirst_2 (fun rv M' P' hp => ?_)
  obtain ⟨⟨rfl, rfl⟩, rfl⟩ := hp
  cases hh : hd1 (M c) K (nI 0) with
  | none =>
    refine x_top (-1) rfl ?_
    refine x_istore_n h [(1, .int (-1)), (0, .ref (g.1 (24 * c)))] dX0_hearFirst_5 rfl (by decide) rfl ?_
    refine x_aload_n h 1 dX0_hearFirst_6 rfl rfl ?_
    refine x_iload_n h 0 dX0_hearFirst_7 rfl rfl ?_
    refine x_callV h (As := [.int (-1)]) 1 hx (c_X0_hasClaim hc hK hK12) gX0_hearFirst_X0_hasClaim rfl ⟨rfl, rfl⟩ (by decide +kernel) rfl (by decide) (hk_chip hc) (E_chip hc) rfl rfl (Nat.le_of_ble_eq_true rfl) dX0_hearFirst_8 (fun rv M' P' hp => ?_)
    obtain ⟨⟨rfl, rfl⟩, hp⟩ := hp
    rcases hp with ⟨⟨k8, hk8, ek8⟩, rfl⟩ | ⟨nk8, rfl⟩
    · -- call 8
      exact absurd ek8 (m1_ne (by omega))
    · -- call 8
      refine x_if_ne h 17 dX0_hearFirst_11 (by decide) (fun c => absurd c (by decide)) (fun _ => ?_)
      refine x_ldc h ((-1000002)) (by decide +kernel) dX0_hearFirst_14 ?_
      exact hret _ _ _ _ _ dX0_hearFirst_16 (by exact ⟨rfl, FrC_r M c, Or.inl ⟨hh, rfl, rfl⟩⟩)
  | some i =>
    refine x_top (nI i) rfl ?_
    have hi := hd1_lt hh
    obtain ⟨⟨hh0, hhN, eh⟩, ⟨dd, hdN, ed⟩⟩ := hG.2.2.2.2.2.2.2 i hi
    obtain ⟨uu, huu, eu⟩ := (hG.net hdN).2.2.2.2.1
    refine x_istore_n h [(1, .int (nI i)), (0, .ref (g.1 (24 * c)))] dX0_hearFirst_5 rfl (by decide) rfl ?_
    refine x_aload_n h 1 dX0_hearFirst_6 rfl rfl ?_
    refine x_iload_n h 0 dX0_hearFirst_7 rfl rfl ?_
    refine x_callV h (As := [.int (nI i)]) 1 hx (c_X0_hasClaim hc hK hK12) gX0_hearFirst_X0_hasClaim rfl ⟨rfl, rfl⟩ (by decide +kernel) rfl (by decide) (hk_chip hc) (E_chip hc) rfl rfl (Nat.le_of_ble_eq_true rfl) dX0_hearFirst_8 (fun rv M' P' hp => ?_)
    obtain ⟨⟨rfl, rfl⟩, hp⟩ := hp
    rcases hp with ⟨⟨k8, hk8, ek8⟩, rfl⟩ | ⟨nk8, rfl⟩
    · -- call 8
      refine x_if_ne h 17 dX0_hearFirst_11 (by decide) (fun _ => ?_) (fun c => absurd c (by decide))
      refine x_aload_n h 1 dX0_hearFirst_17 rfl rfl ?_
      refine xg_X0_4 h hc in_X0_hearFirst_X0 (by decide +kernel) dX0_hearFirst_18 ?_
      refine x_iload_n h 0 dX0_hearFirst_21 rfl rfl ?_
      refine xa_clms h hc dX0_hearFirst_22 (by omega) ?_
      refine x_astore_n h [(2, .ref (g.1 (24 * c + 12 + i))), (1, .int (nI i)), (0, .ref (g.1 (24 * c)))] dX0_hearFirst_23 rfl (by decide) rfl ?_
      refine x_aload_n h 2 dX0_hearFirst_24 rfl rfl ?_
      refine x_aload_n h 0 dX0_hearFirst_25 rfl rfl ?_
      refine xg_X1_1 h hc (by omega) in_X0_hearFirst_X1 (by decide +kernel) dX0_hearFirst_26 ?_
      refine x_top (nI dd) (ed) ?_
      refine x_callV h (As := [.int (nI dd)]) 1 hx (c_X0_hasNet hc hN hN6) gX0_hearFirst_X0_hasNet rfl ⟨rfl, rfl⟩ (by decide +kernel) rfl (by decide) (hk_chip hc) (E_chip hc) rfl rfl (Nat.le_of_ble_eq_true rfl) dX0_hearFirst_29 (fun rv M' P' hp => ?_)
      obtain ⟨⟨rfl, rfl⟩, hp⟩ := hp
      rcases hp with ⟨⟨k29, hk29, ek29⟩, rfl⟩ | ⟨nk29, rfl⟩
      · -- call 29
        refine x_if_eq h 46 dX0_hearFirst_32 (by decide) (fun c => absurd c (by decide)) (fun _ => ?_)
        refine x_aload_n h 2 dX0_hearFirst_35 rfl rfl ?_
        refine x_aload_n h 0 dX0_hearFirst_36 rfl rfl ?_
        refine xg_X1_0 h hc (by omega) in_X0_hearFirst_X1 (by decide +kernel) dX0_hearFirst_37 ?_
        refine x_top (nI hh0) (eh) ?_
        refine x_callV h (As := [.int (nI hh0)]) 1 hx (c_X0_hasNet hc hN hN6) gX0_hearFirst_X0_hasNet rfl ⟨rfl, rfl⟩ (by decide +kernel) rfl (by decide) (hk_chip hc) (E_chip hc) rfl rfl (Nat.le_of_ble_eq_true rfl) dX0_hearFirst_40 (fun rv M' P' hp => ?_)
        obtain ⟨⟨rfl, rfl⟩, hp⟩ := hp
        rcases hp with ⟨⟨k40, hk40, ek40⟩, rfl⟩ | ⟨nk40, rfl⟩
        · -- call 40
          refine x_if_ne h 49 dX0_hearFirst_43 (by decide) (fun _ => ?_) (fun c => absurd c (by decide))
          refine x_aload_n h 2 dX0_hearFirst_49 rfl rfl ?_
          refine xg_X0_3 h hc in_X0_hearFirst_X0 (by decide +kernel) dX0_hearFirst_50 ?_
          refine x_aload_n h 0 dX0_hearFirst_53 rfl rfl ?_
          refine xg_X1_1 h hc (by omega) in_X0_hearFirst_X1 (by decide +kernel) dX0_hearFirst_54 ?_
          refine x_top (nI dd) (ed) ?_
          refine xa_nets h hc dX0_hearFirst_57 (by omega) ?_
          refine x_astore_n h [(3, .ref (g.1 (24 * c + 5 + dd))), (2, .ref (g.1 (24 * c + 12 + i))), (1, .int (nI i)), (0, .ref (g.1 (24 * c)))] dX0_hearFirst_58 rfl (by decide) rfl ?_
          refine x_aload_n h 3 dX0_hearFirst_59 rfl rfl ?_
          refine x_aload_n h 1 dX0_hearFirst_60 rfl rfl ?_
          refine x_callV h (As := [.ref (g.1 (24 * c + 12 + i))]) 1 hx (c_X0_lossOf hc (by omega)) gX0_hearFirst_X0_lossOf rfl ⟨rfl, rfl⟩ (by decide +kernel) rfl (by decide) (hk_chip hc) (E_chip hc) rfl rfl (Nat.le_of_ble_eq_true rfl) dX0_hearFirst_61 (fun rv M' P' hp => ?_)
          obtain ⟨⟨rfl, rfl⟩, rfl⟩ := hp
          refine x_aload_n h 1 dX0_hearFirst_64 rfl rfl ?_
          refine xg_X1_4 h hc (by omega) in_X0_hearFirst_X1 (by decide +kernel) dX0_hearFirst_65 ?_
          refine x_isub h dX0_hearFirst_68 ?_
          refine x_istore h [(4, .int ((lossX (M c) i) - (M c (223 + 13 * i + 4)))), (3, .ref (g.1 (24 * c + 5 + dd))), (2, .ref (g.1 (24 * c + 12 + i))), (1, .int (nI i)), (0, .ref (g.1 (24 * c)))] dX0_hearFirst_69 (by decide) rfl ?_
          refine x_iconst h (nI 0) dX0_hearFirst_71 (by decide) ?_
          refine x_iload h 0 dX0_hearFirst_72 rfl ?_
          refine x_aload_n h 1 dX0_hearFirst_74 rfl rfl ?_
          refine xg_X2_4 h hc (by omega) in_X0_hearFirst_X2 (by decide +kernel) dX0_hearFirst_75 ?_
          refine x_mmin h (by decide +kernel) ⟨Nat.le_of_ble_eq_true rfl, Nat.le_of_ble_eq_true rfl⟩ dX0_hearFirst_78 ?_
          refine x_mmax h (by decide +kernel) ⟨Nat.le_of_ble_eq_true rfl, Nat.le_of_ble_eq_true rfl⟩ dX0_hearFirst_81 ?_
          refine x_top (payI (dueI (M c) i) (M c (169 + 9 * dd + 4))) (payI_eq (by rw [eu]; exact nI_pos huu)) ?_
          obtain ⟨p, hp0⟩ : ∃ p, p = payI (dueI (M c) i) (M c (169 + 9 * dd + 4)) := ⟨_, rfl⟩
          refine x_top p hp0.symm ?_
          refine x_istore h [(5, .int p), (4, .int ((lossX (M c) i) - (M c (223 + 13 * i + 4)))), (3, .ref (g.1 (24 * c + 5 + dd))), (2, .ref (g.1 (24 * c + 12 + i))), (1, .int (nI i)), (0, .ref (g.1 (24 * c)))] dX0_hearFirst_84 (by decide) rfl ?_
          refine x_aload_n h 2 dX0_hearFirst_86 rfl rfl ?_
          refine x_iload h 0 dX0_hearFirst_87 rfl ?_
          refine x_callVv h (As := [.int p]) 1 hx (c_X2_spend hc (by omega)) gX0_hearFirst_X2_spend rfl ⟨rfl, rfl⟩ (by decide +kernel) rfl (by decide) (hk_net hc (by omega)) (E_net hc (by omega)) rfl rfl (Nat.le_of_ble_eq_true rfl) dX0_hearFirst_89 (fun M89 P' hp => ?_)
          obtain ⟨rfl, hM89⟩ := hp
          refine x_aload_n h 5 dX0_hearFirst_92 rfl rfl ?_
          refine xg_X0_3 h hc in_X0_hearFirst_X0 (by decide +kernel) dX0_hearFirst_93 ?_
          refine x_aload_n h 3 dX0_hearFirst_96 rfl rfl ?_
          refine xg_X1_0 h hc (by omega) in_X0_hearFirst_X1 (by decide +kernel) dX0_hearFirst_97 ?_
          refine x_top (nI hh0) (by rw [hM89, va_up_k]; unfold spendX; rw [pk_un (by omega), pk_un (by omega)]; exact eh) ?_
          refine xa_nets h hc dX0_hearFirst_100 (by omega) ?_
          refine x_iload h 0 dX0_hearFirst_101 rfl ?_
          refine x_callVv h (As := [.int p]) 1 hx (c_X2_receive hc (by omega)) gX0_hearFirst_X2_receive rfl ⟨rfl, rfl⟩ (by decide +kernel) rfl (by decide) (hk_net hc (by omega)) (E_net hc (by omega)) rfl rfl (Nat.le_of_ble_eq_true rfl) dX0_hearFirst_103 (fun M103 P' hp => ?_)
          obtain ⟨rfl, hM103⟩ := hp
          refine x_aload_n h 3 dX0_hearFirst_106 rfl rfl ?_
          refine x_dup h dX0_hearFirst_107 rfl ?_
          refine xg_X1_4 h hc (by omega) in_X0_hearFirst_X1 (by decide +kernel) dX0_hearFirst_108 ?_
          refine x_iload h 0 dX0_hearFirst_111 rfl ?_
          refine x_iadd h dX0_hearFirst_113 ?_
          refine xp_X1_4 h hc (by omega) in_X0_hearFirst_X1 (by decide +kernel) dX0_hearFirst_114 ?_
          refine x_aload_n h 3 dX0_hearFirst_117 rfl rfl ?_
          refine x_iconst h (nI 2) dX0_hearFirst_118 (by decide) ?_
          refine xp_X1_5 h hc (by omega) in_X0_hearFirst_X1 (by decide +kernel) dX0_hearFirst_119 ?_
          obtain ⟨W1, hW1⟩ : ∃ q : Nat → Nat → Int32, q = st2 (st2 M103 c (223 + 13 * i + 4) ((M103 c (223 + 13 * i + 4)) + p)) c (223 + 13 * i + 5) (nI 2) := ⟨_, rfl⟩
          refine x_mem W1 hW1.symm ?_
          replace hW1 : W1 = va_up M c (hearY (M c) i hh0 dd p) := by rw [hW1]; simp only [st2_va, hM103, hM89, va_up_up, va_up_k]; rw [spr_clm _ (by omega) (by omega)]; rfl
          refine x_iload h 0 dX0_hearFirst_122 rfl ?_
          refine x_iload h 1 dX0_hearFirst_124 rfl ?_
          refine x_icmp_ge h 146 dX0_hearFirst_126 (by decide) (fun c_126 => ?_) (fun c_126 => ?_)
          · -- 126 true
            refine x_aload_n h 5 dX0_hearFirst_146 rfl rfl ?_
            refine x_dup h dX0_hearFirst_147 rfl ?_
            refine xg_X0_7 h hc in_X0_hearFirst_X0 (by decide +kernel) dX0_hearFirst_148 ?_
            refine x_iconst h (nI 1) dX0_hearFirst_151 (by decide) ?_
            refine x_iadd h dX0_hearFirst_152 ?_
            refine xp_X0_7 h hc in_X0_hearFirst_X0 (by decide +kernel) dX0_hearFirst_153 ?_
            refine x_iload h 0 dX0_hearFirst_156 rfl ?_
            exact hret _ _ _ _ _ dX0_hearFirst_158 (by 
                              refine ⟨rfl, ?_, Or.inr ⟨i, hh0, dd, hh, hi, eh, ed, hhN, hdN, hp0, Or.inl ⟨Int32.not_lt.mpr c_126, ?_⟩⟩⟩
                              · rw [st2_va, hW1, va_up_up]; exact FrC_v
                              · rw [st2_va, va_up_k, hW1, va_up_k, hearY_4])
          · -- 126 false
            refine x_aload_n h 5 dX0_hearFirst_129 rfl rfl ?_
            refine x_aload_n h 3 dX0_hearFirst_130 rfl rfl ?_
            refine xg_X1_1 h hc (by omega) in_X0_hearFirst_X1 (by decide +kernel) dX0_hearFirst_131 ?_
            refine x_top (nI dd) (by rw [hW1, va_up_k]; unfold hearY; rw [pk_un (by omega), pk_un (by omega), spr_clm _ (by omega) (by omega)]; exact ed) ?_
            refine x_callVv h (As := [.int (nI dd)]) 1 hx (c_X0_loseWire hc (by omega)) gX0_hearFirst_X0_loseWire rfl ⟨rfl, rfl⟩ (by decide +kernel) rfl (by decide) (hk_chip hc) (E_chip hc) rfl rfl (Nat.le_of_ble_eq_true rfl) dX0_hearFirst_134 (fun M134 P' hp => ?_)
            obtain ⟨rfl, hM134⟩ := hp
            refine x_aload_n h 5 dX0_hearFirst_137 rfl rfl ?_
            refine x_iload_n h 4 dX0_hearFirst_138 rfl rfl ?_
            refine x_aload_n h 3 dX0_hearFirst_139 rfl rfl ?_
            refine xg_X1_0 h hc (by omega) in_X0_hearFirst_X1 (by decide +kernel) dX0_hearFirst_140 ?_
            refine x_top (nI hh0) (by rw [hM134, va_up_k, hW1, va_up_k]; unfold loseE; rw [pk_un (by omega), scan_ge _ _ (by omega)]; unfold hearY; rw [pk_un (by omega), pk_un (by omega)]; exact (spr_clm (j := 0) _ (by omega) (by omega)).trans eh) ?_
            refine x_callVv h (As := [.int (nI i), .int (nI hh0)]) 2 hx (c_X0_giveBack hc (by omega) (by omega)) gX0_hearFirst_X0_giveBack rfl ⟨rfl, rfl⟩ (by decide +kernel) rfl (by decide) (hk_chip hc) (E_chip hc) rfl rfl (Nat.le_of_ble_eq_true rfl) dX0_hearFirst_143 (fun M143 P' hp => ?_)
            obtain ⟨rfl, hB143⟩ := hp
            refine x_aload_n h 5 dX0_hearFirst_146 rfl rfl ?_
            refine x_dup h dX0_hearFirst_147 rfl ?_
            refine xg_X0_7 h hc in_X0_hearFirst_X0 (by decide +kernel) dX0_hearFirst_148 ?_
            refine x_iconst h (nI 1) dX0_hearFirst_151 (by decide) ?_
            refine x_iadd h dX0_hearFirst_152 ?_
            refine xp_X0_7 h hc in_X0_hearFirst_X0 (by decide +kernel) dX0_hearFirst_153 ?_
            refine x_iload h 0 dX0_hearFirst_156 rfl ?_
            exact hret _ _ _ _ _ dX0_hearFirst_158 (by 
                              rcases hB143 with ⟨hq, hM143⟩ | ⟨hq1, hq2, hM143⟩
                              · refine ⟨rfl, ?_, Or.inr ⟨i, hh0, dd, hh, hi, eh, ed, hhN, hdN, hp0, Or.inr ⟨Int32.not_le.mp c_126, Or.inl ⟨fun q => hq ?_, ?_⟩⟩⟩⟩
                                · rw [st2_va, hM143, hM134, hW1, va_up_up, va_up_up]; exact FrC_v
                                · rw [hM134, hW1, va_up_k, va_up_k]; exact canB_C.mp q
                                · rw [st2_va, va_up_k, hM143, hM134, hW1, va_up_k, va_up_k, loseE_4, hearY_4]
                              · rw [hM134, hW1, va_up_k, va_up_k] at hq1 hq2
                                refine ⟨rfl, ?_, Or.inr ⟨i, hh0, dd, hh, hi, eh, ed, hhN, hdN, hp0, Or.inr ⟨Int32.not_le.mp c_126, Or.inr ⟨canB_C.mpr ⟨hq1, hq2⟩, ?_⟩⟩⟩⟩
                                · rw [st2_va, hM143, hM134, hW1, va_up_up, va_up_up, va_up_up]; exact FrC_v
                                · rw [st2_va, va_up_k, hM143, hM134, hW1, va_up_k, va_up_k, va_up_k, backF_4, loseE_4, hearY_4, backF_G])
        · -- call 40
          exact absurd ⟨hh0, (by first | assumption | omega), rfl⟩ nk40
      · -- call 29
        exact absurd ⟨dd, (by first | assumption | omega), rfl⟩ nk29
    · -- call 8
      exact absurd ⟨i, (by first | assumption | omega), rfl⟩ nk8
