/-! THE STATE THAT THE LAW RUNS IN -/
/-- what holds of a chip beside InvC: a net that is not joined has no wire; claims; numbers -/
def GI (X : Nat → Int32) (N K B A : Nat) : Prop :=
  InvC X N K B ∧ (∀ k, k < N → X (169 + 9 * k + 5) = nI 0 → ∀ a, a < 162 → X (7 + a) ≠ nI k) ∧
  (∃ ac, X 4 = nI ac ∧ ac ≤ A ∧ A < 2 ^ 30 ∧ ∀ i, i < K → ∃ h d c q, X (223 + 13 * i) = nI h ∧ X (223 + 13 * i + 1) = nI d ∧ h < N ∧ d < N ∧ h ≠ d ∧ X (223 + 13 * i + 2) = nI c ∧ 0 < c ∧ c ≤ 162 ∧ X (223 + 13 * i + 6) = nI q ∧ q ≤ ac) ∧
  (∀ i, i + 1 < K → X (223 + 13 * i + 6) ≤ X (223 + 13 * (i + 1) + 6)) ∧
  (∃ q, X 2 = nI q ∧ q ≤ 50) ∧ (∃ q, X 3 = nI q ∧ q ≤ 20)
def WI (M : Nat → Nat → Int32) (P : Nat → Nat) (N K B A s : Nat) : Prop :=
  StP P ∧ Nbr M ∧ GI (M (P 0)) N K B A ∧ (M 144 6 = nI s ∧ s ≤ 4) ∧ M 147 1 = nI 0 ∧ (∀ t, t < s → ∃ N' K', GI (M (P (5 - t))) N' K' B A)
section WSECT
variable {M M' : Nat → Nat → Int32} {P : Nat → Nat} {N K B A s : Nat}
theorem WI.hP (h : WI M P N K B A s) : StP P := h.1
theorem WI.hNb (h : WI M P N K B A s) : Nbr M := h.2.1
theorem WI.hG (h : WI M P N K B A s) : GI (M (P 0)) N K B A := h.2.2.1
theorem WI.hI (h : WI M P N K B A s) : InvC (M (P 0)) N K B := h.2.2.1.1
theorem WI.hs (h : WI M P N K B A s) : M 144 6 = nI s := h.2.2.2.1.1
theorem WI.hs4 (h : WI M P N K B A s) : s ≤ 4 := h.2.2.2.1.2
theorem WI.hln (h : WI M P N K B A s) : M 147 1 = nI 0 := h.2.2.2.2.1
theorem WI.hT (h : WI M P N K B A s) : TxM M (fun _ => 32) 0 := ⟨h.hln, by decide, fun i hi => absurd hi (Nat.not_lt_zero i)⟩
theorem WI.N6 (h : WI M P N K B A s) : N ≤ 6 := h.hI.1.1.2.1
theorem WI.K12 (h : WI M P N K B A s) : K ≤ 12 := h.hI.1.1.2.2.2.1
/-- what a call that changes nothing keeps -/
def FrS (P : Nat → Nat) (M M' : Nat → Nat → Int32) : Prop := (∀ k, k ≠ P 1 → k ≠ 144 → k ≠ 146 → k ≠ 147 → (k < 149 ∨ k = 150) → M' k = M k) ∧ M' 144 6 = M 144 6 ∧ M' 147 1 = M 147 1
theorem FrS_rf : FrS P M M := ⟨fun _ _ _ _ _ _ => rfl, rfl, rfl⟩
theorem FrS_tr {M2 : Nat → Nat → Int32} (h1 : FrS P M M') (h2 : FrS P M' M2) : FrS P M M2 := ⟨fun k a b c d e => (h2.1 k a b c d e).trans (h1.1 k a b c d e), h2.2.1.trans h1.2.1, h2.2.2.trans h1.2.2⟩
theorem FrS_p (hP : StP P) (h : FrS P M M') {i : Nat} (hi : i < 6) (h1 : i ≠ 1) : M' (P i) = M (P i) := by
  have := hP.1 i hi
  exact h.1 _ (fun e => h1 (hP.2 i 1 hi (by decide) e)) (by omega) (by omega) (by omega) (by omega)
theorem FrS_0 (h : WI M P N K B A s) (hF : FrS P M M') : M' (P 0) = M (P 0) := FrS_p h.hP hF (by decide) (by decide)
theorem WI_fr (h : WI M P N K B A s) (hF : FrS P M M') : WI M' P N K B A s := by
  have h1 := h.hP.1 1 (by decide)
  refine ⟨h.hP, Nbr_cg (hF.1 150 (by omega) (by omega) (by omega) (by omega) (by omega)) h.hNb, ?_, ⟨hF.2.1.trans h.hs, h.hs4⟩, hF.2.2.trans h.hln, fun t ht => ?_⟩
  · rw [FrS_0 h hF]; exact h.hG
  · have := h.hs4
    rw [FrS_p h.hP hF (by omega) (by omega)]
    exact h.2.2.2.2.2 t ht
/-- the calls' frames -/
theorem FrS_F (h : FrF M M') : FrS P M M' := ⟨fun k _ _ _ _ e => h k (by omega), by rw [h 144 (by omega)], by rw [h 147 (by omega)]⟩
theorem FrS_B (hP : StP P) (h : FrB P M M') : FrS P M M' := by
  have h1 := hP.1 1 (by decide)
  exact ⟨fun k a _ c _ e => h k a c (by omega), by rw [h 144 (by omega) (by omega) (by omega)], by rw [h 147 (by omega) (by omega) (by omega)]⟩
theorem FrS_K {r : Int32} {P' : Nat → Nat} (h : FrK P M M') (h2 : M' 147 = M 147) (hs : M 144 6 = nI s) (h3 : KpQ s M P r M' P') (hr : r < 0) : FrS P M M' ∧ P' = P := by
  rcases h3 with ⟨-, e1, e2⟩ | ⟨e, -, -⟩
  · exact ⟨⟨fun k a b _ d e => h k a b d (by omega), e2.trans hs.symm, by rw [h2]⟩, e1⟩
  · exact absurd hr e
end WSECT
theorem cnt_up {p : Nat → Bool} {m : Nat} : ∀ {n : Nat}, m ≤ n → cnt p m ≤ cnt p n
  | 0, h => by rw [Nat.le_zero.mp h]; exact Nat.le_refl _
  | n + 1, h => by
    by_cases e : m = n + 1
    · rw [e]; exact Nat.le_refl _
    · have := cnt_up (p := p) (m := m) (n := n) (by omega)
      rw [show cnt p (n + 1) = cnt p n + (if p n then 1 else 0) from rfl]
      omega
/-! WHAT print SAYS -/
def cellV (X : Nat → Int32) (c : Nat) : Int32 := if X (7 + c) = -1 then -1000004 else X (7 + c)
def lf (f : Nat → Int32) (a : Int64) : Nat → Int64
  | 0 => a
  | n + 1 => 31 * lf f a n + (f n).toInt64
def lf2 (f : Nat → Nat → Int32) (m : Nat) (a : Int64) : Nat → Int64
  | 0 => a
  | n + 1 => lf (f n) (lf2 f m a n) m
def pr1 (X : Nat → Int32) (N K : Nat) : Nat → Int64 := lf (fCnt eC X N K) 7
def pr2 (X : Nat → Int32) (N K : Nat) : Nat → Int64 := lf (fun j => fCnt eC X N K (20 + j)) (pr1 X N K 10)
def pr3 (X : Nat → Int32) (N K : Nat) : Nat → Int64 := lf (cellV X) (pr2 X N K 4)
def pr4 (X : Nat → Int32) (N K : Nat) : Nat → Int64 := lf2 (fNet eC X) 11 (pr3 X N K 162)
def pr5 (X : Nat → Int32) (N K : Nat) : Nat → Int64 := lf2 (fClm X) 8 (pr4 X N K N)
def prn (X : Nat → Int32) (N K : Nat) : Int64 := pr5 X N K K
section TOLD
variable {X : Nat → Int32} {N K s ln j k i : Nat} {r : Int32}
theorem cnt_at (hj : j < 24) (h0 : j ≠ 10) (h1 : j ≠ 11) (h : (nI j = nI 10 ∧ r = nI s) ∨ (nI j = nI 11 ∧ r = nI ln) ∨ (¬ nI j = nI 10 ∧ ¬ nI j = nI 11 ∧ ((∃ i, i < 24 ∧ nI j = nI i ∧ r = fCnt eC X N K i) ∨ (¬ InR 24 (nI j) ∧ r = -1000001)))) : r = fCnt eC X N K j := by
  rcases h with ⟨e, -⟩ | ⟨e, -⟩ | ⟨-, -, ⟨i, hi, e, e2⟩ | ⟨e, -⟩⟩
  · exact absurd ((nI_eq (by omega) (by omega)).mp e) h0
  · exact absurd ((nI_eq (by omega) (by omega)).mp e) h1
  · rw [e2, (nI_eq (by omega) (by omega)).mp e]
  · exact absurd ⟨j, hj, rfl⟩ e
theorem net_at (hN : N ≤ 6) (hk : k < N) (hj : j < 11) (h : (¬ (InR N (nI k) ∧ InR 11 (nI j)) ∧ r = -1000001) ∨ ∃ k' j', k' < N ∧ nI k = nI k' ∧ j' < 11 ∧ nI j = nI j' ∧ r = fNet eC X k' j') : r = fNet eC X k j := by
  rcases h with ⟨e, -⟩ | ⟨k', j', h1, h2, h3, h4, h5⟩
  · exact absurd ⟨⟨k, hk, rfl⟩, ⟨j, hj, rfl⟩⟩ e
  · rw [h5, (nI_eq (by omega) (by omega)).mp h2, (nI_eq (by omega) (by omega)).mp h4]
theorem clm_at (hK : K ≤ 12) (hk : i < K) (hj : j < 8) (h : (¬ (InR K (nI i) ∧ InR 8 (nI j)) ∧ r = -1000001) ∨ ∃ k' j', k' < K ∧ nI i = nI k' ∧ j' < 8 ∧ nI j = nI j' ∧ r = fClm X k' j') : r = fClm X i j := by
  rcases h with ⟨e, -⟩ | ⟨k', j', h1, h2, h3, h4, h5⟩
  · exact absurd ⟨⟨i, hk, rfl⟩, ⟨j, hj, rfl⟩⟩ e
  · rw [h5, (nI_eq (by omega) (by omega)).mp h2, (nI_eq (by omega) (by omega)).mp h4]
theorem cell_at (hj : j < 162) (h : (¬ InR 162 (nI j) ∧ r = -1000001) ∨ ∃ i, i < 162 ∧ nI j = nI i ∧ r = if X (7 + i) = -1 then -1000004 else X (7 + i)) : r = cellV X j := by
  rcases h with ⟨e, -⟩ | ⟨i, h1, h2, h3⟩
  · exact absurd ⟨j, hj, rfl⟩ e
  · rw [h3, (nI_eq (by omega) (by omega)).mp h2]; rfl
end TOLD
