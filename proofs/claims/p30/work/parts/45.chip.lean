/-! WHAT isChip RESTS ON -/
theorem cnt_add {p q r : Nat → Bool} : ∀ {n : Nat}, (∀ k, k < n → r k = (p k || q k) ∧ (p k && q k) = false) → cnt r n = cnt p n + cnt q n
  | 0, _ => rfl
  | n + 1, h => by
    have h1 := cnt_add (p := p) (q := q) (r := r) (n := n) (fun k hk => h k (by omega))
    obtain ⟨h2, h3⟩ := h n (by omega)
    rw [show cnt r (n + 1) = cnt r n + (if r n then 1 else 0) from rfl, show cnt p (n + 1) = cnt p n + (if p n then 1 else 0) from rfl, show cnt q (n + 1) = cnt q n + (if q n then 1 else 0) from rfl, h1, h2]
    cases hp : p n <;> cases hq : q n <;> rw [hp, hq] at h3 <;> simp at h3 ⊢ <;> omega
theorem cnt_cut {p q : Nat → Bool} {m : Nat} (h1 : ∀ k, k < m → p k = q k) : ∀ {n : Nat}, m ≤ n → (∀ k, m ≤ k → p k = false) → cnt p n = cnt q m
  | 0, hm, _ => by rw [Nat.le_zero.mp hm]; rfl
  | n + 1, hm, h2 => by
    by_cases e : m = n + 1
    · rw [← e]; exact cnt_congr h1
    · rw [show cnt p (n + 1) = cnt p n + (if p n then 1 else 0) from rfl, h2 n (by omega), cnt_cut h1 (n := n) (by omega) h2]
      rfl
theorem cnt_hit {p : Nat → Bool} {j : Nat} : ∀ {n : Nat}, j < cnt p n → ∃ a, a < n ∧ p a = true ∧ cnt p a = j
  | 0, h => absurd h (Nat.not_lt_zero j)
  | n + 1, h => by
    rw [show cnt p (n + 1) = cnt p n + (if p n then 1 else 0) from rfl] at h
    by_cases h1 : j < cnt p n
    · obtain ⟨a, h2, h3⟩ := cnt_hit h1
      exact ⟨a, by omega, h3⟩
    · by_cases hp : p n = true
      · rw [if_pos hp] at h
        exact ⟨n, Nat.lt_succ_self n, hp, by omega⟩
      · rw [if_neg hp] at h
        exact absurd h (by omega)
theorem pig : ∀ (m : Nat) {n : Nat} {p : Nat → Bool} {f : Nat → Nat}, (∀ i, i < n → p i = true → f i < m) → (∀ i j, i < n → j < n → p i = true → p j = true → f i = f j → i = j) → cnt p n ≤ m
  | 0, n, p, f, h, _ => Nat.le_of_eq (cnt_zero (fun k hk => by
    cases hp : p k with
    | false => rfl
    | true => exact absurd (h k hk hp) (Nat.not_lt_zero _)))
  | m + 1, n, p, f, h, hi => by
    by_cases hx : ∃ i, i < n ∧ p i = true ∧ f i = m
    · obtain ⟨i0, h1, h2, h3⟩ := hx
      have h4 := pig m (n := n) (p := fun i => p i && !decide (i = i0)) (f := f) (fun i a b => by
        simp only [Bool.and_eq_true, Bool.not_eq_true', decide_eq_false_iff_not] at b
        have := h i a b.1
        have : f i ≠ m := fun e => b.2 (hi i i0 a h1 b.1 h2 (e.trans h3.symm))
        omega) (fun i j a b c d e => by
        simp only [Bool.and_eq_true] at c d
        exact hi i j a b c.1 d.1 e)
      have h5 := cnt_upd1 (p := fun i => p i && !decide (i = i0)) (q := p) (a := i0) (n := n) h1 (by simp) h2 (fun k _ hk => by simp [hk])
      omega
    · have := pig m (n := n) (p := p) (f := f) (fun i a b => by
        have := h i a b
        have : f i ≠ m := fun e => hx ⟨i, a, b, e⟩
        omega) hi
      omega
theorem pig_hit {n k : Nat} {p : Nat → Bool} {f : Nat → Nat} (h : ∀ i, i < n → p i = true → f i < cnt p n) (hi : ∀ i j, i < n → j < n → p i = true → p j = true → f i = f j → i = j) (hk : k < cnt p n) : ∃ i, i < n ∧ p i = true ∧ f i = k := by
  by_cases hx : ∃ i, i < n ∧ p i = true ∧ f i = k
  · exact hx
  · have hne : ∀ i, i < n → p i = true → f i ≠ k := fun i a b e => hx ⟨i, a, b, e⟩
    have := pig (cnt p n - 1) (n := n) (p := p) (f := fun i => if f i < k then f i else f i - 1) (fun i a b => by
      have h1 := h i a b
      have h2 := hne i a b
      show (if f i < k then f i else f i - 1) < _
      split <;> omega) (fun i j a b c d e => by
      have h1 := hne i a c
      have h2 := hne j b d
      refine hi i j a b c d ?_
      have e : (if f i < k then f i else f i - 1) = (if f j < k then f j else f j - 1) := e
      split at e <;> split at e <;> omega)
    omega
section CHIPL
variable {X : Nat → Int32} {N K n c k i j : Nat}
def jN (X : Nat → Int32) (k : Nat) : Nat := if X (169 + 9 * k + 5) = 0 then 0 else 1
theorem fNet5 (X : Nat → Int32) (k : Nat) : fNet eC X k 5 = nI (jN X k) := by
  show (if X (169 + 9 * k + 5) = 0 then nI 0 else nI 1) = nI (jN X k)
  unfold jN
  split <;> rfl
theorem jN_lt : jN X k < 2 ^ 31 := by unfold jN; split <;> decide
theorem jN_1 (h : jN X k = 1) : ¬ X (169 + 9 * k + 5) = 0 := fun e => by
  unfold jN at h
  rw [if_pos e] at h
  cases h
theorem jN_0 (h : jN X k ≠ 1) : X (169 + 9 * k + 5) = 0 := by
  unfold jN at h
  split at h
  · assumption
  · exact absurd rfl h
theorem joined_s : joinedN X n + jN X n = joinedN X (n + 1) := by
  show joinedN X n + jN X n = joinedN X n + (if decide (¬ X (169 + 9 * n + 5) = 0) = true then 1 else 0)
  unfold jN
  by_cases e : X (169 + 9 * n + 5) = 0
  · rw [if_pos e, if_neg (by simp [e])]
  · rw [if_neg e, if_pos (by simp [e])]
theorem cellV_k (hk : k < 2 ^ 31) : cellV X c = nI k ↔ X (7 + c) = nI k := by
  unfold cellV
  by_cases e : X (7 + c) = -1
  · rw [if_pos e, e]
    exact ⟨fun q => absurd (by rw [← q]; decide) (nI_pos hk), fun q => absurd q (m1_ne hk)⟩
  · rw [if_neg e]
theorem own_k (h : OwV eC X N) (hc : c < 162) : X (7 + c) = -1 ∨ ∃ k, (k < N ∨ 10 ≤ k) ∧ k < 10 + (N + 11) ∧ X (7 + c) = nI k := by
  rcases h c hc with (e | ⟨k, hk, e⟩) | e | ⟨k, hk, e⟩
  · exact Or.inl e
  · exact Or.inr ⟨k, Or.inl hk, by omega, e⟩
  · exact Or.inr ⟨20, Or.inr (by decide), by omega, e⟩
  · exact Or.inr ⟨10 + k, Or.inr (by omega), by omega, e⟩
theorem cellV_f (h : OwV eC X N) (hN : N ≤ 6) (hc : c < 162) : cellV X c = -1000004 ↔ X (7 + c) = -1 := by
  unfold cellV
  by_cases e : X (7 + c) = -1
  · rw [if_pos e]
    exact ⟨fun _ => e, fun _ => rfl⟩
  · rw [if_neg e]
    rcases own_k h hc with q | ⟨k, -, h2, q⟩
    · exact absurd q e
    · rw [q]
      exact ⟨fun r => absurd (by rw [r]; decide) (nI_pos (n := k) (by omega)), fun r => absurd r.symm (m1_ne (by omega))⟩
/-- a wire's cell, as the law asks for it -/
theorem wir_r (h : OwV eC X N) (hN : N ≤ 6) (hc : c < 162) : (∃ k, k < N ∧ X (7 + c) = nI k) ↔ ¬ cellV X c < 0 ∧ ¬ nI 6 ≤ cellV X c := by
  constructor
  · rintro ⟨k, hk, e⟩
    rw [(cellV_k (by omega)).mpr e]
    exact ⟨nI_pos (by omega), nI_ge (by omega) (by omega)⟩
  · rintro ⟨h1, h2⟩
    rcases own_k h hc with q | ⟨k, h3, h4, q⟩
    · exact absurd (by rw [(cellV_f h hN hc).mpr q]; decide) h1
    · rw [(cellV_k (by omega)).mpr q] at h2
      rcases h3 with h3 | h3
      · exact ⟨k, h3, q⟩
      · exact absurd (nI_le (by omega) (by omega)) h2
def crsP (X : Nat → Int32) (N a : Nat) : Bool := decide (a < 81 ∧ (∃ k, k < N ∧ X (7 + a) = nI k) ∧ (∃ k, k < N ∧ X (7 + (a + 81)) = nI k) ∧ ¬ X (7 + a) = X (7 + (a + 81)))
theorem crs_iff (h : OwV eC X N) (hN : N ≤ 6) (hc : c < 162) : crsP X N c = true ↔ c < 81 ∧ ¬ cellV X c < 0 ∧ ¬ nI 6 ≤ cellV X c ∧ ¬ cellV X (81 + c) < 0 ∧ ¬ nI 6 ≤ cellV X (81 + c) ∧ ¬ cellV X (81 + c) = cellV X c := by
  unfold crsP
  simp only [decide_eq_true_eq]
  by_cases h81 : c < 81
  · rw [Nat.add_comm c 81, wir_r h hN hc, wir_r h hN (show 81 + c < 162 by omega)]
    have key : (¬ cellV X c < 0 ∧ ¬ nI 6 ≤ cellV X c) → (¬ cellV X (81 + c) < 0 ∧ ¬ nI 6 ≤ cellV X (81 + c)) → (X (7 + c) = X (7 + (81 + c)) ↔ cellV X (81 + c) = cellV X c) := fun h1 h2 => by
      obtain ⟨k, hk, e⟩ := (wir_r h hN hc).mpr h1
      obtain ⟨k2, hk2, e2⟩ := (wir_r h hN (show 81 + c < 162 by omega)).mpr h2
      rw [(cellV_k (by omega)).mpr e, (cellV_k (by omega)).mpr e2, e, e2]
      exact ⟨Eq.symm, Eq.symm⟩
    constructor
    · rintro ⟨a, b, d, e⟩
      exact ⟨a, b.1, b.2, d.1, d.2, fun q => e ((key b d).mpr q)⟩
    · rintro ⟨a, b1, b2, d1, d2, e⟩
      exact ⟨a, ⟨b1, b2⟩, ⟨d1, d2⟩, fun q => e ((key ⟨b1, b2⟩ ⟨d1, d2⟩).mp q)⟩
  · exact ⟨fun q => absurd q.1 h81, fun q => absurd q.1 h81⟩
theorem crs_all : cnt (crsP X N) 162 = cross eC X N := cnt_cut (m := 81) (fun a ha => by
  unfold crsP
  simp only [decide_eq_decide]
  exact ⟨fun q => ⟨q.2.1, q.2.2.1, q.2.2.2⟩, fun q => ⟨ha, q.1, q.2.1, q.2.2⟩⟩) (by decide) (fun a ha => by
  unfold crsP
  simp only [decide_eq_false_iff_not]
  exact fun q => absurd q.1 (by omega))
def viaP (X : Nat → Int32) (n a : Nat) : Bool := decide (a < 81 ∧ cellV X a = nI n ∧ cellV X (81 + a) = nI n)
theorem via_all (hn : n < 2 ^ 31) : cnt (viaP X n) 162 = via X (nI n) := cnt_cut (m := 81) (fun a ha => by
  unfold viaP
  simp only [decide_eq_decide]
  rw [cellV_k hn, cellV_k hn, Nat.add_comm a 81]
  exact ⟨fun q => q.2, fun q => ⟨ha, q⟩⟩) (by decide) (fun a ha => by
  unfold viaP
  simp only [decide_eq_false_iff_not]
  exact fun q => absurd q.1 (by omega))
theorem wir_all (hn : n < 2 ^ 31) : cnt (fun a => decide (cellV X a = nI n)) 162 = wir X (nI n) := cnt_congr (fun a _ => by rw [decide_eq_decide]; exact cellV_k hn)
theorem free_all (h : OwV eC X N) (hN : N ≤ 6) : cnt (fun a => decide (cellV X a = -1000004)) 162 = wir X eC.1 := cnt_congr (fun a ha => by rw [decide_eq_decide]; exact cellV_f h hN ha)
theorem wires_sum : ∀ {N : Nat}, N ≤ 6 → wires eC X N = sumN (fun k => wir X (nI k)) N
  | 0, _ => cnt_zero (fun a _ => by simp)
  | N + 1, h => by
    rw [show sumN (fun k => wir X (nI k)) (N + 1) = sumN (fun k => wir X (nI k)) N + wir X (nI N) from rfl, ← wires_sum (N := N) (by omega)]
    refine cnt_add (fun a _ => ⟨?_, ?_⟩)
    · rw [← Bool.decide_or, decide_eq_decide]
      constructor
      · rintro ⟨k, hk, e⟩
        by_cases q : k = N
        · subst q; exact Or.inr e
        · exact Or.inl ⟨k, by omega, e⟩
      · rintro (⟨k, hk, e⟩ | e)
        · exact ⟨k, by omega, e⟩
        · exact ⟨N, by omega, e⟩
    · rw [← Bool.decide_and]
      simp only [decide_eq_false_iff_not]
      rintro ⟨⟨k, hk, e⟩, e2⟩
      have e : X (7 + a) = nI k := e
      rw [e] at e2
      have := (nI_eq (by omega) (by omega)).mp e2
      omega
theorem wire_some (hk : k < 2 ^ 31) (h : j < wir X (nI k)) : ∃ a, a < 162 ∧ wireV X k j = nI a ∧ cellV X a = nI k := by
  obtain ⟨a, h1, h2, h3⟩ := cnt_hit h
  unfold wireV
  cases hf : fnd (fun a => decide (X (7 + a) = nI k ∧ cnt (fun b => decide (X (7 + b) = nI k)) a = j)) 162 with
  | none =>
    have := fnd_no hf a h1
    simp only [decide_eq_false_iff_not] at this
    exact absurd ⟨by simpa using h2, h3⟩ this
  | some b =>
    have := fnd_true hf
    simp only [decide_eq_true_eq] at this
    exact ⟨b, this.1, rfl, (cellV_k hk).mpr this.2.1⟩
theorem pin_at (h : NetG eC X n) (hn : n < 6) (hk : k < 3) : fNet eC X n k = -1000004 ∨ ∃ p, p < 81 ∧ fNet eC X n k = nI p ∧ cellV X p = nI (10 + n) ∧ cellV X (81 + p) = nI (10 + n) := by
  have hx : ∀ p, X (7 + p) = eC.2.2 n → X (7 + (p + 81)) = eC.2.2 n → cellV X p = nI (10 + n) ∧ cellV X (81 + p) = nI (10 + n) := fun p h1 h2 => ⟨(cellV_k (by omega)).mpr h1, (cellV_k (by omega)).mpr (by rw [Nat.add_comm 81 p]; exact h2)⟩
  obtain ⟨⟨p0, a0, b0, c0, d0⟩, ⟨p1, a1, b1, c1, d1⟩, h2, -⟩ := h
  rcases (show k = 0 ∨ k = 1 ∨ k = 2 by omega) with rfl | rfl | rfl
  · exact Or.inr ⟨p0, a0, b0, hx p0 c0 d0⟩
  · exact Or.inr ⟨p1, a1, b1, hx p1 c1 d1⟩
  · rcases h2 with e | ⟨p2, a2, b2, c2, d2⟩
    · exact Or.inl (if_pos e)
    · refine Or.inr ⟨p2, a2, ?_, hx p2 c2 d2⟩
      show (if X (169 + 9 * n + 2) = -1 then (-1000004 : Int32) else X (169 + 9 * n + 2)) = nI p2
      rw [if_neg (by rw [b2]; exact fun q => m1_ne (by omega) q.symm), b2]
/-- the docket -/
abbrev bef (X : Nat → Int32) (i j : Nat) : Prop := lossX X j < lossX X i ∨ (lossX X i = lossX X j ∧ i < j)
theorem bef_tr (h1 : bef X i j) (h2 : bef X j k) : bef X i k := by
  unfold bef at *
  simp only [Int32.lt_iff_toInt_lt, ← Int32.toInt_inj] at *
  omega
theorem bef_tri (h : i ≠ j) : bef X i j ∨ bef X j i := by
  unfold bef
  simp only [Int32.lt_iff_toInt_lt, ← Int32.toInt_inj]
  omega
theorem bef_ir : ¬ bef X i i := by
  unfold bef
  simp only [Int32.lt_iff_toInt_lt]
  omega
theorem ahead_b : ahead X K i = cnt (fun d => decide (X (223 + 13 * d + 5) = nI 1 ∧ bef X d i)) K := rfl
theorem ahead_s (hi : i < K) (h : X (223 + 13 * i + 5) = nI 1) (hb : bef X i j) : ahead X K i < ahead X K j := by
  rw [ahead_b, ahead_b]
  refine cnt_lt (a := i) (fun k _ hk => ?_) hi ?_ ?_
  · simp only [decide_eq_true_eq] at hk ⊢
    exact ⟨hk.1, bef_tr hk.2 hb⟩
  · simp only [decide_eq_false_iff_not]
    exact fun q => bef_ir q.2
  · simp only [decide_eq_true_eq]
    exact ⟨h, hb⟩
theorem dk_some (hK : K ≤ 12) (hk : k < appl X K) : ∃ i, i < K ∧ hd1 X K (nI k) = some i ∧ X (223 + 13 * i + 5) = nI 1 ∧ ahead X K i = k := by
  have hle : appl X K ≤ K := appl_le
  obtain ⟨i, h1, h2, h3⟩ := pig_hit (n := K) (p := fun i => decide (X (223 + 13 * i + 5) = nI 1)) (f := ahead X K) (fun i a b => ahead_lt a (by simpa using b)) (fun i j a b c d e => by
    by_cases hij : i = j
    · exact hij
    · rcases bef_tri (X := X) hij with q | q
      · have := ahead_s a (by simpa using c) q
        omega
      · have := ahead_s b (by simpa using d) q
        omega) hk
  unfold hd1
  cases hf : fnd (fun i => decide (X (223 + 13 * i + 5) = nI 1 ∧ nI (ahead X K i) = nI k)) K with
  | none =>
    have := fnd_no hf i h1
    simp only [decide_eq_false_iff_not] at this
    exact absurd ⟨by simpa using h2, by rw [h3]⟩ this
  | some b =>
    have := fnd_true hf
    simp only [decide_eq_true_eq] at this
    have h4 := ahead_lt this.1 this.2.1
    exact ⟨b, this.1, rfl, this.2.1, (nI_eq (by omega) (by omega)).mp this.2.2⟩
theorem dk_next (hi : i < K) (hj : j < K) (h1 : X (223 + 13 * i + 5) = nI 1) (h2 : X (223 + 13 * j + 5) = nI 1) (h : ahead X K i < ahead X K j) : bef X i j := by
  rcases bef_tri (X := X) (i := i) (j := j) (fun e => by rw [e] at h; exact absurd h (Nat.lt_irrefl _)) with q | q
  · exact q
  · have := ahead_s hj h2 q
    omega
theorem appl_s : appl X (i + 1) = appl X i + (if X (223 + 13 * i + 5) = nI 1 then 1 else 0) := by
  show appl X i + (if decide (X (223 + 13 * i + 5) = nI 1) = true then 1 else 0) = _
  simp
theorem wrg_s : wrg X (i + 1) = if X (223 + 13 * i + 4) < lossX X i ∧ X (169 + 9 * (X (223 + 13 * i)).toNatClampNeg + 5) = 0 then wrg X i ||| (nI 1 <<< (X (223 + 13 * i) &&& 31)) else wrg X i := rfl
end CHIPL
section STEPS
variable {X : Nat → Int32} {N K n a k v i h : Nat} {p : Nat → Bool}
theorem kc_y (h : p a = true) (hk : k = cnt p a) : k + 1 = cnt p (a + 1) := by
  rw [show cnt p (a + 1) = cnt p a + (if p a then 1 else 0) from rfl, if_pos h, hk]
theorem kc_n (h : p a = false) (hk : k = cnt p a) : k + 0 = cnt p (a + 1) := by
  rw [show cnt p (a + 1) = cnt p a + (if p a then 1 else 0) from rfl, h, hk]
  rfl
theorem via_y (h1 : a < 81) (h2 : cellV X a = nI n) (h3 : cellV X (81 + a) = nI n) (hk : v = cnt (viaP X n) a) : v + 1 = cnt (viaP X n) (a + 1) := kc_y (decide_eq_true ⟨h1, h2, h3⟩) hk
theorem via_n (h : ¬ (a < 81 ∧ cellV X a = nI n ∧ cellV X (81 + a) = nI n)) (hk : v = cnt (viaP X n) a) : v + 0 = cnt (viaP X n) (a + 1) := kc_n (decide_eq_false h) hk
theorem crs_y (hO : OwV eC X N) (hN : N ≤ 6) (ha : a < 162) (h : a < 81 ∧ ¬ cellV X a < 0 ∧ ¬ nI 6 ≤ cellV X a ∧ ¬ cellV X (81 + a) < 0 ∧ ¬ nI 6 ≤ cellV X (81 + a) ∧ ¬ cellV X (81 + a) = cellV X a) (hk : v = cnt (crsP X N) a) : v + 1 = cnt (crsP X N) (a + 1) := kc_y ((crs_iff hO hN ha).mpr h) hk
theorem crs_n (hO : OwV eC X N) (hN : N ≤ 6) (ha : a < 162) (h : ¬ (a < 81 ∧ ¬ cellV X a < 0 ∧ ¬ nI 6 ≤ cellV X a ∧ ¬ cellV X (81 + a) < 0 ∧ ¬ nI 6 ≤ cellV X (81 + a) ∧ ¬ cellV X (81 + a) = cellV X a)) (hk : v = cnt (crsP X N) a) : v + 0 = cnt (crsP X N) (a + 1) := kc_n (by
  cases hc : crsP X N a with
  | false => rfl
  | true => exact absurd ((crs_iff hO hN ha).mp hc) h) hk
theorem or_0 (x : Int32) : x ||| nI 0 = x := by
  refine Int32.toBitVec_inj.mp ?_
  rw [Int32.toBitVec_or, show (nI 0).toBitVec = 0#32 from rfl]
  exact BitVec.or_zero
theorem wrg_y (e0 : X (223 + 13 * i) = nI h) (hh : h < 2 ^ 31) (h1 : jN X h = 0) (h2 : ¬ lossX X i ≤ X (223 + 13 * i + 4)) : (wrg X i ||| (nI 1 <<< (nI h &&& 31))) = wrg X (i + 1) := by
  rw [wrg_s, e0, nI_clamp hh, if_pos ⟨Int32.not_le.mp h2, jN_0 (by rw [h1]; decide)⟩]
theorem wrg_n (e0 : X (223 + 13 * i) = nI h) (hh : h < 2 ^ 31) (h1 : jN X h ≠ 0 ∨ lossX X i ≤ X (223 + 13 * i + 4)) : (wrg X i ||| nI 0) = wrg X (i + 1) := by
  rw [or_0, wrg_s, e0, nI_clamp hh, if_neg]
  rintro ⟨q1, q2⟩
  rcases h1 with h1 | h1
  · exact h1 (if_pos q2)
  · exact absurd q1 (Int32.not_lt.mpr h1)
end STEPS
section BOUNDS
variable {X : Nat → Int32} {N n : Nat}
theorem cnt_lt31 {p : Nat → Bool} (h : n ≤ 162) : cnt p n < 2 ^ 31 := by
  have := cnt_le p n
  omega
theorem sumw_lt (hN : N ≤ 6) (hn : n ≤ N) : sumN (fun k => wir X (nI k)) n < 2 ^ 31 := by
  have := sumN_le (f := fun k => wir X (nI k)) (c := 162) (n := n) (fun k _ => cnt_le _ _)
  omega
theorem joinedN_le : joinedN X n ≤ n := cnt_le _ _
end BOUNDS
