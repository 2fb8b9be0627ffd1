/-! PURE: what holds of a row; routes by the row; what a route comes to -/
def vcX (X : Nat → Int32) : Nat := (X 0).toNatClampNeg
def prX (X : Nat → Int32) : Nat := (X 1).toNatClampNeg
def stX (X : Nat → Int32) (k : Nat) : Nat := (X (169 + 9 * k + 3)).toNatClampNeg
def p0X (X : Nat → Int32) (k : Nat) : Nat := (X (169 + 9 * k)).toNatClampNeg
def p1X (X : Nat → Int32) (k : Nat) : Nat := (X (169 + 9 * k + 1)).toNatClampNeg
def p2X (X : Nat → Int32) (k : Nat) : Option Nat := if X (169 + 9 * k + 2) = -1 then none else some (X (169 + 9 * k + 2)).toNatClampNeg
def twX (e : Enc) (X : Nat → Int32) (N n : Nat) (dg : Bool) : Nat → Option Nat := twE e X N n dg (prX X) (stX X)
noncomputable def rtX (e : Enc) (X : Nat → Int32) (N n : Nat) (dg : Bool) : Option (Nat × List Nat × List Nat) := rtP e X N n dg (prX X) (stX X) (vcX X) (p0X X n) (p1X X n) (p2X X n)
def NetG (e : Enc) (X : Nat → Int32) (k : Nat) : Prop :=
  (∃ p, p < 81 ∧ X (169 + 9 * k) = nI p ∧ X (7 + p) = e.2.2 k ∧ X (7 + (p + 81)) = e.2.2 k) ∧
  (∃ p, p < 81 ∧ X (169 + 9 * k + 1) = nI p ∧ X (7 + p) = e.2.2 k ∧ X (7 + (p + 81)) = e.2.2 k) ∧
  (X (169 + 9 * k + 2) = -1 ∨ ∃ p, p < 81 ∧ X (169 + 9 * k + 2) = nI p ∧ X (7 + p) = e.2.2 k ∧ X (7 + (p + 81)) = e.2.2 k) ∧
  (∃ s, s ≤ 9 ∧ X (169 + 9 * k + 3) = nI s) ∧ (∃ u, u < 2 ^ 31 ∧ X (169 + 9 * k + 4) = nI u) ∧ (X (169 + 9 * k + 5) = nI 0 ∨ X (169 + 9 * k + 5) = nI 1) ∧
  (∀ a, a < 81 → (X (7 + a) = e.2.2 k ↔ X (7 + (a + 81)) = e.2.2 k))
def GdX (e : Enc) (X : Nat → Int32) (N K : Nat) : Prop :=
  X 5 = nI N ∧ N ≤ 6 ∧ X 6 = nI K ∧ K ≤ 12 ∧ (∃ vc, X 0 = nI vc ∧ 1 ≤ vc ∧ vc ≤ 20) ∧ (∃ pr, X 1 = nI pr ∧ pr ≤ 50) ∧ (∀ k, k < N → NetG e X k) ∧ ∀ i, i < K → InR N (X (223 + 13 * i)) ∧ InR N (X (223 + 13 * i + 1))
section GDX
variable {e : Enc} {X : Nat → Int32} {N K k : Nat}
theorem GdX.vc (h : GdX e X N K) : X 0 = nI (vcX X) ∧ 1 ≤ vcX X ∧ vcX X ≤ 20 := by
  obtain ⟨v, h1, h2, h3⟩ := h.2.2.2.2.1
  unfold vcX
  rw [h1, nI_clamp (by omega)]
  exact ⟨rfl, h2, h3⟩
theorem GdX.pr (h : GdX e X N K) : X 1 = nI (prX X) ∧ prX X ≤ 50 := by
  obtain ⟨v, h1, h2⟩ := h.2.2.2.2.2.1
  unfold prX
  rw [h1, nI_clamp (by omega)]
  exact ⟨rfl, h2⟩
theorem GdX.net (h : GdX e X N K) (hk : k < N) : NetG e X k := h.2.2.2.2.2.2.1 k hk
theorem NetG.p0 (h : NetG e X k) : X (169 + 9 * k) = nI (p0X X k) ∧ p0X X k < 81 ∧ X (7 + p0X X k) = e.2.2 k ∧ X (7 + (p0X X k + 81)) = e.2.2 k := by
  obtain ⟨p, h1, h2, h3⟩ := h.1
  unfold p0X
  rw [h2, nI_clamp (by omega)]
  exact ⟨rfl, h1, h3⟩
theorem NetG.p1 (h : NetG e X k) : X (169 + 9 * k + 1) = nI (p1X X k) ∧ p1X X k < 81 ∧ X (7 + p1X X k) = e.2.2 k ∧ X (7 + (p1X X k + 81)) = e.2.2 k := by
  obtain ⟨p, h1, h2, h3⟩ := h.2.1
  unfold p1X
  rw [h2, nI_clamp (by omega)]
  exact ⟨rfl, h1, h3⟩
theorem NetG.p2 (h : NetG e X k) : X (169 + 9 * k + 2) = ngh (p2X X k) ∧ ∀ t, p2X X k = some t → t < 81 ∧ X (7 + t) = e.2.2 k ∧ X (7 + (t + 81)) = e.2.2 k := by
  unfold p2X
  rcases h.2.2.1 with h1 | ⟨p, h1, h2, h3⟩
  · rw [h1, if_pos rfl]
    exact ⟨rfl, fun t e => by cases e⟩
  · rw [h2, if_neg (fun q => m1_ne (by omega) q.symm), nI_clamp (by omega)]
    exact ⟨rfl, fun t e => by cases e; exact ⟨h1, h3⟩⟩
theorem NetG.st (h : NetG e X k) : X (169 + 9 * k + 3) = nI (stX X k) ∧ stX X k ≤ 9 := by
  obtain ⟨s, h1, h2⟩ := h.2.2.2.1
  unfold stX
  rw [h2, nI_clamp (by omega)]
  exact ⟨rfl, h1⟩
end GDX
/-- a path has no cell twice, its cells can be entered -/
theorem pth_D {vc : Nat} {tw : Nat → Option Nat} {J : Nat → Bool} {D : Nat → Nat} (hv : 1 ≤ vc) : ∀ (f c a : Nat), a ∈ pthL vc tw J D f c → D a ≤ D c
  | 0, c, a, h => by rw [pthL] at h; rw [List.mem_singleton.mp h]; exact Nat.le_refl _
  | f + 1, c, a, h => by
    rw [pthL] at h
    cases hn : nxJ vc tw J D c with
    | none => rw [hn] at h; rw [List.mem_singleton.mp h]; exact Nat.le_refl _
    | some t =>
      rw [hn] at h
      rcases List.mem_cons.mp h with e | e
      · rw [e]; exact Nat.le_refl _
      · obtain ⟨k, -, -, w, -, -, h2⟩ := nxtO_some (nxJ_some hn).2
        have := mv_pos (k := k) (c := c) hv
        have := pth_D hv f t a e
        omega
theorem pth_nodup {vc : Nat} {tw : Nat → Option Nat} {J : Nat → Bool} {D : Nat → Nat} (hv : 1 ≤ vc) : ∀ (f c : Nat), (pthL vc tw J D f c).Nodup
  | 0, c => by rw [pthL]; exact List.nodup_cons.mpr ⟨List.not_mem_nil, List.nodup_nil⟩
  | f + 1, c => by
    rw [pthL]
    cases hn : nxJ vc tw J D c with
    | none => exact List.nodup_cons.mpr ⟨List.not_mem_nil, List.nodup_nil⟩
    | some t =>
      refine List.nodup_cons.mpr ⟨fun e => ?_, pth_nodup hv f t⟩
      obtain ⟨k, -, -, w, -, -, h2⟩ := nxtO_some (nxJ_some hn).2
      have := mv_pos (k := k) (c := c) hv
      have := pth_D hv f t c e
      omega
theorem pth_opn {vc : Nat} {tw : Nat → Option Nat} {J : Nat → Bool} {D : Nat → Nat} : ∀ (f c a : Nat), tw c ≠ none → a ∈ pthL vc tw J D f c → tw a ≠ none
  | 0, c, a, hc, h => by rw [pthL] at h; rw [List.mem_singleton.mp h]; exact hc
  | f + 1, c, a, hc, h => by
    rw [pthL] at h
    cases hn : nxJ vc tw J D c with
    | none => rw [hn] at h; rw [List.mem_singleton.mp h]; exact hc
    | some t =>
      rw [hn] at h
      rcases List.mem_cons.mp h with e | e
      · rw [e]; exact hc
      · obtain ⟨k, -, -, w, h1, -⟩ := nxtO_some (nxJ_some hn).2
        exact pth_opn f t a (by rw [h1]; exact Option.some_ne_none _) e
/-- what holds of a route's two paths -/
def rtOK (tw : Nat → Option Nat) (l1 l2 : List Nat) : Prop := l1.Nodup ∧ l2.Nodup ∧ l1.length ≤ 162 ∧ l2.length ≤ 162 ∧ ∀ a, a ∈ l1 ++ l2 → a < 162 ∧ tw a ≠ none
theorem tw0_opn {tw : Nat → Option Nat} {l : List Nat} {a : Nat} (h : ∀ b, b ∈ l → tw b ≠ none) (h2 : tw0 tw l a ≠ none) : tw a ≠ none := by
  unfold tw0 at h2
  by_cases e : a ∈ l
  · exact h a e
  · rw [if_neg e] at h2; exact h2
theorem rtP_ok {e : Enc} {X : Nat → Int32} {N n : Nat} {dg : Bool} {pr : Nat} {sb : Nat → Nat} {vc p0 p1 : Nat} {p2 : Option Nat} {z : Nat} {l1 l2 : List Nat} (hv : 1 ≤ vc) (hp1 : p1 < 81) (hp2 : ∀ t, p2 = some t → t < 81) (h : rtP e X N n dg pr sb vc p0 p1 p2 = some (z, l1, l2)) : rtOK (twE e X N n dg pr sb) l1 l2 := by
  unfold rtP at h
  cases h1 : startO (dcl (twE e X N n dg pr sb) (dS vc (twE e X N n dg pr sb) (jn0 p0))) p1 with
  | none => rw [h1] at h; cases h
  | some s1 =>
    rw [h1] at h
    have q1 := startO_some h1
    have o1 := dcl_open q1.2
    have d1 : ∀ a, a ∈ pthL vc (twE e X N n dg pr sb) (jn0 p0) (dcl (twE e X N n dg pr sb) (dS vc (twE e X N n dg pr sb) (jn0 p0))) 161 s1 → twE e X N n dg pr sb a ≠ none := fun a ha => pth_opn 161 s1 a o1 ha
    have k1 := fun a ha => pth_lt (vc := vc) (tw := twE e X N n dg pr sb) (J := jn0 p0) (D := dcl (twE e X N n dg pr sb) (dS vc (twE e X N n dg pr sb) (jn0 p0))) 161 s1 (by omega) a ha
    have n1 := pth_nodup (vc := vc) (tw := twE e X N n dg pr sb) (J := jn0 p0) (D := dcl (twE e X N n dg pr sb) (dS vc (twE e X N n dg pr sb) (jn0 p0))) hv 161 s1
    have g1 := pth_len (vc := vc) (tw := twE e X N n dg pr sb) (J := jn0 p0) (D := dcl (twE e X N n dg pr sb) (dS vc (twE e X N n dg pr sb) (jn0 p0))) 161 s1
    dsimp only at h
    cases p2 with
    | none =>
      dsimp only at h
      cases h
      exact ⟨n1, List.nodup_nil, g1, Nat.zero_le _, fun a ha => by rw [List.append_nil] at ha; exact ⟨k1 a ha, d1 a ha⟩⟩
    | some t =>
      dsimp only at h
      generalize hD2 : dcl (tw0 (twE e X N n dg pr sb) (pthL vc (twE e X N n dg pr sb) (jn0 p0) (dcl (twE e X N n dg pr sb) (dS vc (twE e X N n dg pr sb) (jn0 p0))) 161 s1)) _ = D2 at h
      cases h2 : startO D2 t with
      | none => rw [h2] at h; cases h
      | some s2 =>
        rw [h2] at h
        dsimp only at h
        cases h
        have q2 := startO_some h2
        have ht := hp2 t rfl
        have o2 : tw0 (twE e X N n dg pr sb) (pthL vc (twE e X N n dg pr sb) (jn0 p0) (dcl (twE e X N n dg pr sb) (dS vc (twE e X N n dg pr sb) (jn0 p0))) 161 s1) s2 ≠ none := dcl_open (by rw [hD2]; exact q2.2)
        refine ⟨n1, pth_nodup hv 161 s2, g1, pth_len 161 s2, fun a ha => ?_⟩
        rcases List.mem_append.mp ha with ha | ha
        · exact ⟨k1 a ha, d1 a ha⟩
        · exact ⟨pth_lt 161 s2 (by omega) a ha, tw0_opn d1 (pth_opn 161 s2 a o2 ha)⟩
theorem rtX_ok {e : Enc} {X : Nat → Int32} {N K n : Nat} {dg : Bool} {z : Nat} {l1 l2 : List Nat} (hG : GdX e X N K) (hn : n < N) (h : rtX e X N n dg = some (z, l1, l2)) : rtOK (twX e X N n dg) l1 l2 := rtP_ok hG.vc.2.1 (hG.net hn).p1.2.1 (fun t e => ((hG.net hn).p2.2 t e).1) h
/-- cells of a net's wire on a route; what is due to a net; the price; whose wires they are -/
def thrE (e : Enc) (X : Nat → Int32) (L : List Nat) (k : Nat) : Nat := cnt (fun a => decide (a ∈ L ∧ X (7 + a) = e.2.1 k)) 162
def dueE (e : Enc) (X : Nat → Int32) (L : List Nat) (k : Nat) : Nat := thrE e X L k * (prX X + stX X k)
def sumN (f : Nat → Nat) : Nat → Nat
  | 0 => 0
  | n + 1 => sumN f n + f n
def priE (e : Enc) (X : Nat → Int32) (N : Nat) (L : List Nat) : Nat := sumN (dueE e X L) N
def vicE (e : Enc) (X : Nat → Int32) (L : List Nat) (k : Nat) : Bool := decide (∃ a, a ∈ L ∧ X (7 + a) = e.2.1 k)
def bset (p : Nat → Bool) : Nat → Nat
  | 0 => 0
  | n + 1 => if p n = true then bset p n ||| 2 ^ n else bset p n
theorem bset_bit (p : Nat → Bool) : ∀ (n j : Nat), (bset p n).testBit j = (decide (j < n) && p j)
  | 0, j => by simp [bset]
  | n + 1, j => by
    unfold bset
    have ih := bset_bit p n j
    by_cases h : p n = true
    · rw [if_pos h, Nat.testBit_or, ih, Nat.testBit_two_pow]
      by_cases e : n = j
      · subst e; simp [h]
      · have : decide (j < n + 1) = decide (j < n) := by
          by_cases q : j < n
          · simp [q, Nat.lt_succ_of_lt q]
          · have : ¬ j < n + 1 := by omega
            simp [q, this]
        simp [e, this]
    · rw [if_neg h, ih]
      by_cases e : n = j
      · subst e; simp [h]
      · have : decide (j < n + 1) = decide (j < n) := by
          by_cases q : j < n
          · simp [q, Nat.lt_succ_of_lt q]
          · have : ¬ j < n + 1 := by omega
            simp [q, this]
        simp [this]
theorem bset_lt (p : Nat → Bool) : ∀ n, bset p n < 2 ^ n
  | 0 => Nat.one_pos
  | n + 1 => by
    have ih := bset_lt p n
    unfold bset
    split
    · exact Nat.or_lt_two_pow (by rw [Nat.pow_succ]; omega) (by rw [Nat.pow_succ]; have := Nat.two_pow_pos n; omega)
    · rw [Nat.pow_succ]; omega
theorem bset_64 (p : Nat → Bool) {N : Nat} (h : N ≤ 6) : bset p N < 64 := Nat.lt_of_lt_of_le (bset_lt p N) (by
  have : 2 ^ N ≤ 2 ^ 6 := Nat.pow_le_pow_right (by decide) h
  exact this)
theorem bset_cg {p q : Nat → Bool} : ∀ {n : Nat}, (∀ k, k < n → p k = q k) → bset p n = bset q n
  | 0, _ => rfl
  | n + 1, h => by
    unfold bset
    rw [bset_cg (n := n) (fun k hk => h k (by omega)), h n (by omega)]
theorem or_all : ∀ b : Fin 64, ∀ k : Fin 6, nI b.val ||| (nI 1 <<< (nI k.val &&& 31)) = nI (b.val ||| 2 ^ k.val) := by decide +kernel
theorem bit_all : ∀ b : Fin 64, ∀ k : Fin 6, decide (bit1 (nI b.val) k.val) = b.val.testBit k.val := by decide +kernel
theorem nI_or {b k : Nat} (hb : b < 64) (hk : k < 6) : nI b ||| (nI 1 <<< (nI k &&& 31)) = nI (b ||| 2 ^ k) := or_all ⟨b, hb⟩ ⟨k, hk⟩
theorem bit1_nI {b k : Nat} (hb : b < 64) (hk : k < 6) : bit1 (nI b) k ↔ b.testBit k = true := by
  have := bit_all ⟨b, hb⟩ ⟨k, hk⟩
  dsimp only at this
  rw [← this]
  exact decide_eq_true_iff.symm
theorem bset_add {p q : Nat → Bool} {N k : Nat} (hk : k < N) (hq : q k = true) (h : ∀ j, j < N → j ≠ k → q j = p j) : bset p N ||| 2 ^ k = bset q N := by
  apply Nat.eq_of_testBit_eq
  intro j
  rw [Nat.testBit_or, bset_bit, bset_bit, Nat.testBit_two_pow]
  by_cases e : k = j
  · subst e; simp [hk, hq]
  · by_cases hj : j < N
    · simp [hj, e, h j hj (fun z => e z.symm)]
    · simp [hj, e]
theorem sumN_cg {f g : Nat → Nat} : ∀ {n : Nat}, (∀ k, k < n → f k = g k) → sumN f n = sumN g n
  | 0, _ => rfl
  | n + 1, h => by unfold sumN; rw [sumN_cg (n := n) (fun k hk => h k (by omega)), h n (by omega)]
theorem sumN_upd {f g : Nat → Nat} {k w : Nat} : ∀ {n : Nat}, k < n → g k = f k + w → (∀ j, j < n → j ≠ k → g j = f j) → sumN g n = sumN f n + w
  | 0, h, _, _ => absurd h (Nat.not_lt_zero k)
  | n + 1, hk, hg, h => by
    unfold sumN
    by_cases e : k = n
    · subst e
      rw [sumN_cg (n := k) (f := g) (g := f) (fun j hj => h j (by omega) (by omega)), hg]; omega
    · rw [sumN_upd (n := n) (by omega) hg (fun j hj => h j (by omega)), h n (by omega) (fun z => e z.symm)]; omega
theorem thr_n {e : Enc} {X : Nat → Int32} {S : List Nat} {a k : Nat} (h : a ∈ S ∨ ¬ X (7 + a) = e.2.1 k) : thrE e X (S ++ [a]) k = thrE e X S k := cnt_congr (fun b _ => by
  by_cases q : b ∈ S ∧ X (7 + b) = e.2.1 k
  · rw [decide_eq_true q, decide_eq_true ⟨List.mem_append_left _ q.1, q.2⟩]
  · rw [decide_eq_false q, decide_eq_false (fun z => q ⟨(List.mem_append.mp z.1).elim id (fun w => by
      have e1 := List.mem_singleton.mp w
      subst e1
      exact h.elim id (fun h2 => absurd z.2 h2)), z.2⟩)])
theorem thr_s {e : Enc} {X : Nat → Int32} {S : List Nat} {a k : Nat} (ha : a < 162) (h : a ∉ S) (h2 : X (7 + a) = e.2.1 k) : thrE e X (S ++ [a]) k = thrE e X S k + 1 := cnt_upd1 (a := a) ha (by simp [h]) (by simp [h2]) (fun b _ hb => by simp [hb])
/-- a route's account -/
def StA (X : Nat → Int32) (N pr : Nat) (sb : Nat → Nat) (S : List Nat) (acc : Acc) : Prop := acc.1 = nI (bset (vicE eC X S) N) ∧ acc.2.1 = nI (sumN (fun k => thrE eC X S k * (pr + sb k)) N) ∧ ∀ k, k < N → acc.2.2 k = nI (thrE eC X S k * (pr + sb k))
theorem vic_n {e : Enc} {X : Nat → Int32} {S : List Nat} {a k : Nat} (h : ¬ X (7 + a) = e.2.1 k) : vicE e X (S ++ [a]) k = vicE e X S k := by
  unfold vicE
  by_cases q : ∃ b, b ∈ S ∧ X (7 + b) = e.2.1 k
  · obtain ⟨b, h1, h2⟩ := q
    exact (decide_eq_true (p := ∃ b, b ∈ S ++ [a] ∧ X (7 + b) = e.2.1 k) ⟨b, List.mem_append_left _ h1, h2⟩).trans (decide_eq_true (p := ∃ b, b ∈ S ∧ X (7 + b) = e.2.1 k) ⟨b, h1, h2⟩).symm
  · rw [decide_eq_false q, decide_eq_false]
    rintro ⟨b, h1, h2⟩
    rcases List.mem_append.mp h1 with h1 | h1
    · exact q ⟨b, h1, h2⟩
    · rw [List.mem_singleton.mp h1] at h2
      exact h h2
theorem StA_s {X : Nat → Int32} {N pr : Nat} {sb : Nat → Nat} {S : List Nat} {acc : Acc} {w a : Nat} (hN : N ≤ 6) (h : StA X N pr sb S acc) (ha : a < 162) (hw : ∀ k, k < N → X (7 + a) = nI k → w = if a ∈ S then 0 else pr + sb k) : StA X N pr sb (S ++ [a]) (accS X N w a acc) := by
  obtain ⟨h1, h2, h3⟩ := h
  unfold accS
  by_cases e : ∃ k, k < N ∧ X (7 + a) = nI k
  · rw [if_pos e]
    obtain ⟨k, hk, e1⟩ := e
    have hne : ∀ j, j < N → j ≠ k → ¬ X (7 + a) = eC.2.1 j := fun j hj hjk q => hjk ((nI_eq (by omega) (by omega)).mp (q.symm.trans e1))
    have hww := hw k hk e1
    have ht : thrE eC X (S ++ [a]) k * (pr + sb k) = thrE eC X S k * (pr + sb k) + w := by
      by_cases ea : a ∈ S
      · rw [thr_n (Or.inl ea), hww, if_pos ea]; rfl
      · rw [thr_s ha ea e1, hww, if_neg ea, Nat.succ_mul]
    refine ⟨?_, ?_, fun j hj => ?_⟩
    · rw [e1, h1, nI_or (bset_64 _ hN) (by omega)]
      show nI _ = nI _
      refine congrArg nI (bset_add (p := vicE eC X S) (q := vicE eC X (S ++ [a])) hk ?_ (fun j hj hjk => vic_n (hne j hj hjk)))
      unfold vicE
      exact decide_eq_true ⟨a, List.mem_append_right _ (List.mem_singleton.mpr rfl), e1⟩
    · show acc.2.1 + nI w = _
      rw [h2, nI_add]
      exact congrArg nI (sumN_upd (f := fun k => thrE eC X S k * (pr + sb k)) (g := fun k => thrE eC X (S ++ [a]) k * (pr + sb k)) hk ht (fun j hj hjk => by show thrE eC X (S ++ [a]) j * _ = _; rw [thr_n (Or.inr (hne j hj hjk))])).symm
    · show upd acc.2.2 _ _ j = _
      rw [e1, nI_clamp (by omega)]
      by_cases ej : j = k
      · subst ej
        rw [pk_us, h3 j hj, nI_add, ht]
      · rw [pk_un ej, h3 j hj, thr_n (Or.inr (hne j hj ej))]
  · rw [if_neg e]
    have hne : ∀ j, j < N → ¬ X (7 + a) = eC.2.1 j := fun j hj q => e ⟨j, hj, q⟩
    refine ⟨?_, ?_, fun j hj => ?_⟩
    · exact h1.trans (congrArg nI (bset_cg (fun j hj => (vic_n (hne j hj)).symm)))
    · exact h2.trans (congrArg nI (sumN_cg (fun j hj => by rw [thr_n (Or.inr (hne j hj))])))
    · rw [h3 j hj, thr_n (Or.inr (hne j hj))]
theorem StA_l {X : Nat → Int32} {N pr : Nat} {sb : Nat → Nat} {tw : Nat → Option Nat} (hN : N ≤ 6) : ∀ (l S : List Nat) (acc : Acc), StA X N pr sb S acc → l.Nodup → (∀ a, a ∈ l → a < 162) → (∀ a, a ∈ l → ∀ k, k < N → X (7 + a) = nI k → (tw a).getD 0 = if a ∈ S then 0 else pr + sb k) → StA X N pr sb (S ++ l) (accL X N tw acc l)
  | [], S, acc, h, _, _, _ => by rw [List.append_nil]; exact h
  | a :: l, S, acc, h, hd, hl, hw => by
    have hd2 := List.nodup_cons.mp hd
    have := StA_l hN l (S ++ [a]) (accS X N ((tw a).getD 0) a acc) (StA_s hN h (hl a List.mem_cons_self) (hw a List.mem_cons_self)) hd2.2 (fun b hb => hl b (List.mem_cons_of_mem _ hb)) (fun b hb k hk e => by
      rw [hw b (List.mem_cons_of_mem _ hb) k hk e]
      have hne : b ≠ a := fun q => hd2.1 (q ▸ hb)
      by_cases q : b ∈ S
      · rw [if_pos q, if_pos (List.mem_append_left _ q)]
      · rw [if_neg q, if_neg (fun z => (List.mem_append.mp z).elim q (fun z => hne (List.mem_singleton.mp z)))])
    rw [List.append_assoc] at this
    exact this
theorem twE_wire {X : Nat → Int32} {N n a k pr : Nat} {sb : Nat → Nat} (hN : N ≤ 6) (hn : n < N) (ha : a < 162) (hk : k < N) (h : X (7 + a) = nI k) : twE eC X N n true pr sb a = some (pr + sb k) := by
  unfold twE
  rw [if_neg (by omega), if_neg (show ¬ (X (7 + a) = eC.1 ∨ X (7 + a) = eC.2.2 n) from fun q => by
    rw [h] at q
    rcases q with q | q
    · exact m1_ne (by omega) q.symm
    · have := (nI_eq (by omega) (by omega)).mp (show nI k = nI (10 + n) from q)
      omega), if_pos rfl, h]
  rw [show (fun k_1 => decide (nI k = eC.2.1 k_1)) = (fun j => decide (nI k = nI j)) from rfl, fnd_InR hk (by omega) rfl]
theorem bset_0 {p : Nat → Bool} : ∀ {n : Nat}, (∀ k, k < n → p k = false) → bset p n = 0
  | 0, _ => rfl
  | n + 1, h => by
    unfold bset
    rw [if_neg (by rw [h n (by omega)]; decide), bset_0 (fun k hk => h k (by omega))]
theorem sumN_0 {f : Nat → Nat} : ∀ {n : Nat}, (∀ k, k < n → f k = 0) → sumN f n = 0
  | 0, _ => rfl
  | n + 1, h => by unfold sumN; rw [sumN_0 (fun k hk => h k (by omega)), h n (by omega)]
theorem thr_nil (e : Enc) (X : Nat → Int32) (k : Nat) : thrE e X [] k = 0 := cnt_zero (fun a _ => by simp)
theorem StA_0 (X : Nat → Int32) (N pr : Nat) (sb : Nat → Nat) : StA X N pr sb [] acc0 := by
  refine ⟨?_, ?_, fun k hk => ?_⟩
  · rw [bset_0 (fun k _ => by simp [vicE])]; rfl
  · rw [sumN_0 (fun k _ => by rw [thr_nil]; simp)]; rfl
  · rw [thr_nil, Nat.zero_mul]; rfl
theorem accR_ok {X : Nat → Int32} {N n pr : Nat} {sb : Nat → Nat} {l1 l2 : List Nat} (hN : N ≤ 6) (hn : n < N) (h : rtOK (twE eC X N n true pr sb) l1 l2) : StA X N pr sb (l1 ++ l2) (accR X N (twE eC X N n true pr sb) l1 l2) := by
  obtain ⟨n1, n2, -, -, ho⟩ := h
  have s1 := StA_l (tw := twE eC X N n true pr sb) hN l1 [] acc0 (StA_0 X N pr sb) n1 (fun a ha => (ho a (List.mem_append_left _ ha)).1) (fun a ha k hk e => by
    rw [twE_wire hN hn (ho a (List.mem_append_left _ ha)).1 hk e, if_neg (List.not_mem_nil)]; rfl)
  rw [List.nil_append] at s1
  exact StA_l (tw := tw0 (twE eC X N n true pr sb) l1) hN l2 l1 _ s1 n2 (fun a ha => (ho a (List.mem_append_right _ ha)).1) (fun a ha k hk e => by
    unfold tw0
    by_cases q : a ∈ l1
    · rw [if_pos q, if_pos q]; rfl
    · rw [if_neg q, if_neg q, twE_wire hN hn (ho a (List.mem_append_right _ ha)).1 hk e]; rfl)
theorem rt_len {tw : Nat → Option Nat} {l1 l2 : List Nat} (h : rtOK tw l1 l2) : (l1 ++ l2).length ≤ 324 := by
  rw [List.length_append]
  have := h.2.2.1
  have := h.2.2.2.1
  omega
