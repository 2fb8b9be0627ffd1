/-! the world between two calls of the law -/
def PairE (X S : Nat → Int32) (N K B : Nat) : Prop := PairR X S N K B ∧ Ext S B
def slt (M : Nat → Nat → Int32) (q : Nat) : Nat → Int32 := fun j => M 162 (379 * q + j)
def WI (M : Nat → Nat → Int32) (P : Nat → Nat) (B N K s at_ : Nat) (tx : Nat → Nat) (ln : Nat) : Prop :=
  StP P ∧ Nbr M ∧ PairE (M (P 0)) (M 159) N K B ∧ (M 144 6 = nI s ∧ s ≤ 4 ∧ M 158 5 = nI s ∧ M 158 6 = nI at_ ∧ at_ < 4) ∧ (∀ t, t < s → ∃ N K, PairE (M (P (5 - t))) (slt M ((at_ + 3 - t) % 4)) N K B) ∧ TxM M tx ln ∧ TxN M tx ln
def Wst (M : Nat → Nat → Int32) (P : Nat → Nat) (B : Nat) : Prop := ∃ N K s at_ tx ln, WI M P B N K s at_ tx ln
theorem PairE.mono {X S : Nat → Int32} {N K B B' : Nat} (h : PairE X S N K B) (hB : B ≤ B') (hB2 : B' < 2 ^ 30) : PairE X S N K B' := ⟨h.1.mono hB (by omega), h.2.mono hB⟩
theorem PairE_S {X S T : Nat → Int32} {N K B : Nat} (h : PairE X S N K B) (hT : ∀ j, j < 379 → T j = S j) : PairE X T N K B := ⟨PairR_S h.1 hT, Ext_cg h.2 (hT 2 (by omega)) (hT 3 (by omega)) (hT 4 (by omega))⟩
section WST
variable {M M1 M2 : Nat → Nat → Int32} {P P1 : Nat → Nat} {B B' N K s at_ ln : Nat} {tx : Nat → Nat} {r r' : Int32}
theorem StP.ne (h : StP P) {i j : Nat} (hi : i < 6) (hj : j < 6) (e : i ≠ j) : P i ≠ P j := fun q => e (h.2 i j hi hj q)
/-- what neither side changes stays -/
theorem W_keep (h : WI M P B N K s at_ tx ln) (hB : B ≤ B') (hB2 : B' < 2 ^ 30) (k1 : ∀ k, k ≠ P 1 → k ≠ 146 → k ≠ 147 → (k < 149 ∨ k = 150 ∨ 157 < k) → M1 k = M k) (k2 : M1 147 1 = M 147 1) (m1 : ∀ k, k < 158 ∨ k = 162 ∨ k = 163 → M2 k = M1 k) (m2 : ∀ j, j = 5 ∨ j = 6 ∨ j = 7 → M2 158 j = M1 158 j) (m3 : ∀ j, j < 379 → M2 159 j = M1 159 j) : Wst M2 P B' := by
  obtain ⟨hP, hNb, hp, ⟨hs, hs4, hm, hat, hat4⟩, hH, hT, hU⟩ := h
  have hp1 := hP.1 1 (by decide)
  have hq : ∀ k, k ≠ P 1 → k ≠ 146 → k ≠ 147 → (k < 149 ∨ k = 150) → M2 k = M k := fun k a b c d => (m1 k (by omega)).trans (k1 k a b c (by omega))
  have h162 : M2 162 = M 162 := (m1 162 (by omega)).trans (k1 162 (by omega) (by omega) (by omega) (by omega))
  have h163 : M2 163 = M 163 := (m1 163 (by omega)).trans (k1 163 (by omega) (by omega) (by omega) (by omega))
  have h158 : M1 158 = M 158 := k1 158 (by omega) (by omega) (by omega) (by omega)
  have h159 : M1 159 = M 159 := k1 159 (by omega) (by omega) (by omega) (by omega)
  have hch : ∀ i, i < 6 → i ≠ 1 → M2 (P i) = M (P i) := fun i hi h1 => hq _ (hP.ne hi (by decide) h1) (by have := hP.1 i hi; omega) (by have := hP.1 i hi; omega) (by have := hP.1 i hi; omega)
  refine ⟨N, K, s, at_, tx, ln, hP, Nbr_cg (hq 150 (by omega) (by omega) (by omega) (by omega)) hNb, ?_, ⟨?_, hs4, ?_, ?_, hat4⟩, fun t ht => ?_, TxM_cg ?_ (hq 148 (by omega) (by omega) (by omega) (by omega)) hT, TxN_cg ?_ h163 hU⟩
  · rw [hch 0 (by decide) (by decide)]
    exact (PairE_S hp (fun j hj => (m3 j hj).trans (by rw [h159]))).mono hB hB2
  · rw [hq 144 (by omega) (by omega) (by omega) (by omega)]; exact hs
  · rw [m2 5 (by omega), h158]; exact hm
  · rw [m2 6 (by omega), h158]; exact hat
  · obtain ⟨N', K', hx⟩ := hH t ht
    refine ⟨N', K', ?_⟩
    rw [hch (5 - t) (by omega) (by omega)]
    unfold slt
    rw [h162]
    exact hx.mono hB hB2
  · rw [m1 147 (by omega)]; exact k2
  · rw [m2 7 (by omega), h158]
/-- an act that is kept, or refused, on both sides -/
theorem W_rec (h : WI M P B N K s at_ tx ln) (hB : B ≤ B') (hB2 : B' < 2 ^ 30) (k1 : FrK P M M1) (k2 : M1 147 1 = M 147 1) (k3 : KpQ s M P r M1 P1) (m1 : FrM M1 M2) (m2 : KpM s at_ (M1 159) M1 r' M2) (he : r = r') (hneg : r < 0 → ∀ j, j < 379 → M2 159 j = M1 159 j) (hpos : ¬ r < 0 → ∃ N' K', PairE (M1 (P 1)) (M2 159) N' K' B') : r = r' ∧ Wst M2 P1 B' := by
  refine ⟨he, ?_⟩
  subst he
  have hP := h.1
  have hp1 := hP.1 1 (by decide)
  have h158 : M1 158 = M 158 := k1 158 (by omega) (by omega) (by omega) (by omega)
  have h159 : M1 159 = M 159 := k1 159 (by omega) (by omega) (by omega) (by omega)
  have h162 : M1 162 = M 162 := k1 162 (by omega) (by omega) (by omega) (by omega)
  have h163 : M1 163 = M 163 := k1 163 (by omega) (by omega) (by omega) (by omega)
  obtain ⟨m1, m163, m1587⟩ := m1
  have hq : ∀ k, k ≠ P 1 → k ≠ 144 → k ≠ 147 → (k < 149 ∨ k = 150) → M2 k = M k := fun k a b c d => (m1 k (by omega)).trans (k1 k a b c (by omega))
  have hch : ∀ i, i < 6 → i ≠ 1 → M2 (P i) = M (P i) := fun i hi h1 => hq _ (hP.ne hi (by decide) h1) (by have := hP.1 i hi; omega) (by have := hP.1 i hi; omega) (by have := hP.1 i hi; omega)
  obtain ⟨-, hNb, hp, ⟨hs, hs4, hm, hat, hat4⟩, hH, hT, hU⟩ := h
  have hT2 : TxM M2 tx ln := TxM_cg (by rw [m1 147 (by omega)]; exact k2) (hq 148 (by omega) (by omega) (by omega) (by omega)) hT
  have hU2 : TxN M2 tx ln := TxN_cg (by rw [m1587, h158]) (by rw [m163, h163]) hU
  have hN2 : Nbr M2 := Nbr_cg (hq 150 (by omega) (by omega) (by omega) (by omega)) hNb
  rcases k3 with ⟨a1, rfl, a3⟩ | ⟨a1, rfl, a3⟩ <;> rcases m2 with ⟨b1, b2, b3, b4⟩ | ⟨b1, b2, b3, b4⟩
  · refine ⟨N, K, s, at_, tx, ln, hP, hN2, ?_, ⟨?_, hs4, b3, b4, hat4⟩, fun t ht => ?_, hT2, hU2⟩
    · rw [hch 0 (by decide) (by decide)]
      exact (PairE_S hp (fun j hj => (hneg a1 j hj).trans (by rw [h159]))).mono hB hB2
    · rw [m1 144 (by omega)]; exact a3
    · obtain ⟨N', K', hx⟩ := hH t ht
      refine ⟨N', K', ?_⟩
      rw [hch (5 - t) (by omega) (by omega)]
      unfold slt
      rw [b2, h162]
      exact hx.mono hB hB2
  · exact absurd a1 b1
  · exact absurd b1 a1
  · obtain ⟨N', K', hx⟩ := hpos a1
    refine ⟨N', K', min (s + 1) 4, (at_ + 1) % 4, tx, ln, StP_rot hP, hN2, ?_, ⟨?_, by omega, b3, b4, by omega⟩, fun t ht => ?_, hT2, hU2⟩
    · rw [rotP_i P 0 (by decide), m1 (P 1) (by omega)]; exact hx
    · rw [m1 144 (by omega)]; exact a3
    · by_cases e0 : t = 0
      · subst e0
        refine ⟨N, K, ?_⟩
        rw [rotP_i P 5 (by decide)]
        rw [hch 0 (by decide) (by decide)]
        refine (PairE_S hp (fun j hj => ?_)).mono hB hB2
        unfold slt
        rw [b2, show ((at_ + 1) % 4 + 3 - 0) % 4 = at_ by omega]
        unfold rcI
        rw [if_pos (by omega), h159]
        congr 1
        omega
      · obtain ⟨N2, K2, hx2⟩ := hH (t - 1) (by omega)
        refine ⟨N2, K2, ?_⟩
        rw [rotP_i P (5 - t) (by omega), show (5 - t + 1) % 6 = 5 - (t - 1) by omega, hch (5 - (t - 1)) (by omega) (by omega)]
        refine (PairE_S hx2 (fun j hj => ?_)).mono hB hB2
        have hq1 : ((at_ + 1) % 4 + 3 - t) % 4 = (at_ + 3 - (t - 1)) % 4 := by omega
        have hq2 : (at_ + 3 - (t - 1)) % 4 ≠ at_ := by omega
        unfold slt
        rw [b2, hq1]
        generalize (at_ + 3 - (t - 1)) % 4 = qq at hq2
        unfold rcI
        rw [if_neg (by omega), h162]
theorem W_undo (h : WI M P B N K s at_ tx ln) (hB : B ≤ B') (hB2 : B' < 2 ^ 30) (c : (s = 0 ∧ r = -1000002 ∧ P1 = P ∧ M1 = M) ∨ (s ≠ 0 ∧ r = nI (s - 1) ∧ P1 = unP P ∧ M1 = st2 M 144 6 (nI (s - 1)))) (m : (s = 0 ∧ r' = -1000002 ∧ M1 = M2) ∨ (s ≠ 0 ∧ r' = nI (s - 1) ∧ M2 159 = cpI (fun j => M1 162 (379 * ((at_ + 3) % 4) + j)) (M1 159) 379 ∧ M2 158 5 = nI (s - 1) ∧ M2 158 6 = nI ((at_ + 3) % 4) ∧ (∀ k, k ≠ 159 → k ≠ 158 → M2 k = M1 k) ∧ M2 158 7 = M1 158 7)) : r = r' ∧ Wst M2 P1 B' := by
  rcases c with ⟨a0, rfl, rfl, rfl⟩ | ⟨a0, rfl, rfl, rfl⟩ <;> rcases m with ⟨b0, rfl, rfl⟩ | ⟨b0, rfl, b1, b2, b3, b4, b5⟩
  · exact ⟨rfl, W_keep h hB hB2 (fun _ _ _ _ _ => rfl) rfl (fun _ _ => rfl) (fun _ _ => rfl) (fun _ _ => rfl)⟩
  · exact absurd a0 b0
  · exact absurd b0 a0
  · refine ⟨rfl, ?_⟩
    obtain ⟨hP, hNb, hp, ⟨hs, hs4, hm, hat, hat4⟩, hH, hT, hU⟩ := h
    have hc : ∀ i, i < 6 → M2 (P i) = M (P i) := fun i hi => by
      have := hP.1 i hi
      rw [b4 _ (by omega) (by omega), st2_n _ _ _ (by omega)]
    have hk : ∀ k, k ≠ 144 → k ≠ 158 → k ≠ 159 → M2 k = M k := fun k h1 h2 h3 => by rw [b4 k h3 h2, st2_n _ _ _ h1]
    obtain ⟨N', K', hx⟩ := hH 0 (by omega)
    refine ⟨N', K', s - 1, (at_ + 3) % 4, tx, ln, StP_un hP, Nbr_cg (hk 150 (by omega) (by omega) (by omega)) hNb, ?_, ⟨?_, by omega, b2, b3, by omega⟩, fun t ht => ?_, TxM_cg (by rw [hk 147 (by omega) (by omega) (by omega)]) (hk 148 (by omega) (by omega) (by omega)) hT, TxN_cg ?_ (hk 163 (by omega) (by omega) (by omega)) hU⟩
    · rw [unP_i P 0 (by decide)]
      show PairE (M2 (P 5)) (M2 159) N' K' B'
      rw [hc 5 (by decide)]
      refine (PairE_S hx (fun j hj => ?_)).mono hB hB2
      rw [b1]
      unfold cpI slt
      rw [if_pos hj, st2_n _ _ _ (by decide)]
      rfl
    · rw [b4 144 (by omega) (by omega), st2_k, pk_us]
    · obtain ⟨N2, K2, hx2⟩ := hH (t + 1) (by omega)
      refine ⟨N2, K2, ?_⟩
      rw [unP_i P (5 - t) (by omega), show unS (5 - t) = 5 - (t + 1) by unfold unS; rw [if_neg (by omega), if_neg (by omega), if_neg (by omega)]; omega, hc _ (by omega), show ((at_ + 3) % 4 + 3 - t) % 4 = (at_ + 3 - (t + 1)) % 4 by omega]
      unfold slt
      rw [hk 162 (by omega) (by omega) (by omega)]
      exact hx2.mono hB hB2
    · rw [b5, st2_n _ _ _ (by decide)]
theorem W_type {a : Int32} (h : WI M P B N K s at_ tx ln) (hB : B ≤ B') (hB2 : B' < 2 ^ 30) (c : (¬ (nI 32 ≤ a ∧ a ≤ nI 126) ∧ r = -1000001 ∧ M = M1) ∨ ((nI 32 ≤ a ∧ a ≤ nI 126) ∧ ((60 ≤ ln ∧ r = -1000003 ∧ M = M1) ∨ (ln < 60 ∧ r = nI (ln + 1) ∧ M1 = st2 (st2 M 148 ln a) 147 1 (nI (ln + 1)))))) (m : (¬ (nI 32 ≤ a ∧ a ≤ nI 126) ∧ r' = -1000001 ∧ M1 = M2) ∨ ((nI 32 ≤ a ∧ a ≤ nI 126) ∧ ((60 ≤ ln ∧ r' = -1000003 ∧ M1 = M2) ∨ (ln < 60 ∧ r' = nI (ln + 1) ∧ M2 = st2 (st2 M1 163 ln a) 158 7 (nI (ln + 1)))))) : r = r' ∧ Wst M2 P B' := by
  have hk : Wst M P B' := W_keep h hB hB2 (fun _ _ _ _ _ => rfl) rfl (fun _ _ => rfl) (fun _ _ => rfl) (fun _ _ => rfl)
  rcases c with ⟨a1, rfl, rfl⟩ | ⟨a1, ⟨a2, rfl, rfl⟩ | ⟨a2, rfl, rfl⟩⟩ <;> rcases m with ⟨b1, rfl, rfl⟩ | ⟨b1, ⟨b2, rfl, rfl⟩ | ⟨b2, rfl, rfl⟩⟩
  · exact ⟨rfl, hk⟩
  · exact absurd b1 a1
  · exact absurd b1 a1
  · exact absurd a1 b1
  · exact ⟨rfl, hk⟩
  · omega
  · exact absurd a1 b1
  · omega
  · refine ⟨rfl, ?_⟩
    obtain ⟨hP, hNb, hp, ⟨hs, hs4, hm, hat, hat4⟩, hH, hT, hU⟩ := h
    obtain ⟨q, rfl, q1, q2⟩ := v_of (lo := 32) (hi := 126) (by decide) (by decide) a1.1 a1.2
    have hk : ∀ k, k ≠ 148 → k ≠ 147 → k ≠ 163 → k ≠ 158 → st2 (st2 (st2 (st2 M 148 ln (nI q)) 147 1 (nI (ln + 1))) 163 ln (nI q)) 158 7 (nI (ln + 1)) k = M k := fun k h1 h2 h3 h4 => by rw [st2_n _ _ _ h4, st2_n _ _ _ h3, st2_n _ _ _ h2, st2_n _ _ _ h1]
    have hc : ∀ i, i < 6 → st2 (st2 (st2 (st2 M 148 ln (nI q)) 147 1 (nI (ln + 1))) 163 ln (nI q)) 158 7 (nI (ln + 1)) (P i) = M (P i) := fun i hi => by
      have := hP.1 i hi
      exact hk _ (by omega) (by omega) (by omega) (by omega)
    refine ⟨N, K, s, at_, fun i => if i = ln then q else tx i, ln + 1, hP, Nbr_cg (hk 150 (by omega) (by omega) (by omega) (by omega)) hNb, ?_, ⟨?_, hs4, ?_, ?_, hat4⟩, fun t ht => ?_, ⟨?_, by omega, fun i hi => ?_⟩, ⟨?_, by omega, fun i hi => ?_⟩⟩
    · rw [hc 0 (by decide), hk 159 (by omega) (by omega) (by omega) (by omega)]; exact hp.mono hB hB2
    · rw [hk 144 (by omega) (by omega) (by omega) (by omega)]; exact hs
    · rw [st2_k, pk_un (by decide), st2_n _ _ _ (by decide), st2_n _ _ _ (by decide), st2_n _ _ _ (by decide)]; exact hm
    · rw [st2_k, pk_un (by decide), st2_n _ _ _ (by decide), st2_n _ _ _ (by decide), st2_n _ _ _ (by decide)]; exact hat
    · obtain ⟨N', K', hx⟩ := hH t ht
      refine ⟨N', K', ?_⟩
      rw [hc _ (by omega)]
      unfold slt
      rw [hk 162 (by omega) (by omega) (by omega) (by omega)]
      exact hx.mono hB hB2
    · rw [st2_n _ _ _ (by decide), st2_n _ _ _ (by decide), st2_k, pk_us]
    · rw [st2_n _ _ _ (by decide), st2_n _ _ _ (by decide), st2_n _ _ _ (by decide), st2_k]
      dsimp only
      by_cases e : i = ln
      · rw [if_pos e, e, pk_us]; exact ⟨rfl, q1, q2⟩
      · rw [if_neg e, pk_un e]; exact hT.2.2 i (by omega)
    · rw [st2_k, pk_us]
    · rw [st2_n _ _ _ (by decide), st2_k]
      dsimp only
      by_cases e : i = ln
      · rw [if_pos e, e, pk_us]; exact ⟨rfl, q1, q2⟩
      · rw [if_neg e, pk_un e, st2_n _ _ _ (by decide), st2_n _ _ _ (by decide)]; exact hU.2.2 i (by omega)
theorem W_clear (h : WI M P B N K s at_ tx ln) (hB : B ≤ B') (hB2 : B' < 2 ^ 30) (e1 : M1 = st2 M 147 1 (nI 0)) (e2 : M2 = st2 M1 158 7 (nI 0)) : Wst M2 P B' := by
  subst e1
  subst e2
  obtain ⟨hP, hNb, hp, ⟨hs, hs4, hm, hat, hat4⟩, hH, hT, hU⟩ := h
  have hk : ∀ k, k ≠ 147 → k ≠ 158 → st2 (st2 M 147 1 (nI 0)) 158 7 (nI 0) k = M k := fun k h1 h2 => by rw [st2_n _ _ _ h2, st2_n _ _ _ h1]
  have hc : ∀ i, i < 6 → st2 (st2 M 147 1 (nI 0)) 158 7 (nI 0) (P i) = M (P i) := fun i hi => by
    have := hP.1 i hi
    exact hk _ (by omega) (by omega)
  refine ⟨N, K, s, at_, tx, 0, hP, Nbr_cg (hk 150 (by omega) (by omega)) hNb, ?_, ⟨?_, hs4, ?_, ?_, hat4⟩, fun t ht => ?_, ⟨?_, by omega, fun i hi => absurd hi (Nat.not_lt_zero i)⟩, ⟨?_, by omega, fun i hi => absurd hi (Nat.not_lt_zero i)⟩⟩
  · rw [hc 0 (by decide), hk 159 (by omega) (by omega)]; exact hp.mono hB hB2
  · rw [hk 144 (by omega) (by omega)]; exact hs
  · rw [st2_k, pk_un (by decide), st2_n _ _ _ (by decide)]; exact hm
  · rw [st2_k, pk_un (by decide), st2_n _ _ _ (by decide)]; exact hat
  · obtain ⟨N', K', hx⟩ := hH t ht
    refine ⟨N', K', ?_⟩
    rw [hc _ (by omega)]
    unfold slt
    rw [hk 162 (by omega) (by omega)]
    exact hx.mono hB hB2
  · rw [st2_n _ _ _ (by decide), st2_k, pk_us]
  · rw [st2_k, pk_us]
end WST
