/-! PURE: what holds of every row, and that the acts keep it -/
def EncG (e : Enc) : Prop := (∀ k, k < 6 → ¬ e.2.1 k = e.1 ∧ ¬ e.2.2 k = e.1 ∧ ¬ e.2.1 k = nI 20 ∧ ¬ e.2.2 k = nI 20 ∧ ∀ j, j < 6 → ¬ e.2.1 k = e.2.2 j ∧ (e.2.1 k = e.2.1 j → k = j) ∧ (e.2.2 k = e.2.2 j → k = j)) ∧ ¬ e.1 = nI 20
theorem eC_g : EncG eC := by
  refine ⟨fun k hk => ⟨fun q => ?_, fun q => ?_, fun q => ?_, fun q => ?_, fun j hj => ⟨fun q => ?_, fun q => ?_, fun q => ?_⟩⟩, by decide⟩
  · exact m1_ne (by omega) (show (-1 : Int32) = nI k from q.symm)
  · exact m1_ne (by omega) (show (-1 : Int32) = nI (10 + k) from q.symm)
  · have := (nI_eq (by omega) (by omega)).mp (show nI k = nI 20 from q); omega
  · have := (nI_eq (by omega) (by omega)).mp (show nI (10 + k) = nI 20 from q); omega
  · have := (nI_eq (by omega) (by omega)).mp (show nI k = nI (10 + j) from q); omega
  · exact (nI_eq (by omega) (by omega)).mp (show nI k = nI j from q)
  · have := (nI_eq (by omega) (by omega)).mp (show nI (10 + k) = nI (10 + j) from q); omega
theorem eM_g : EncG eM := by
  refine ⟨fun k hk => ⟨fun q => ?_, fun q => ?_, fun q => ?_, fun q => ?_, fun j hj => ⟨fun q => ?_, fun q => ?_, fun q => ?_⟩⟩, by decide⟩
  · have := (nI_eq (by omega) (by omega)).mp (show nI (1 + k) = nI 0 from q); omega
  · have := (nI_eq (by omega) (by omega)).mp (show nI (11 + k) = nI 0 from q); omega
  · have := (nI_eq (by omega) (by omega)).mp (show nI (1 + k) = nI 20 from q); omega
  · have := (nI_eq (by omega) (by omega)).mp (show nI (11 + k) = nI 20 from q); omega
  · have := (nI_eq (by omega) (by omega)).mp (show nI (1 + k) = nI (11 + j) from q); omega
  · have := (nI_eq (by omega) (by omega)).mp (show nI (1 + k) = nI (1 + j) from q); omega
  · have := (nI_eq (by omega) (by omega)).mp (show nI (11 + k) = nI (11 + j) from q); omega
/-- what is free or wire -/
def Fw (e : Enc) (N : Nat) (x : Int32) : Prop := x = e.1 ∨ ∃ k, k < N ∧ x = e.2.1 k
def OwV (e : Enc) (X : Nat → Int32) (N : Nat) : Prop := ∀ a, a < 162 → Fw e N (X (7 + a)) ∨ X (7 + a) = nI 20 ∨ ∃ k, k < N ∧ X (7 + a) = e.2.2 k
def BlkV (X : Nat → Int32) : Prop := ∀ a, a < 81 → (X (7 + a) = nI 20 ↔ X (7 + (a + 81)) = nI 20)
def PinV (e : Enc) (X : Nat → Int32) (N : Nat) : Prop := ∀ k, k < N → ∀ a, a < 81 → X (7 + a) = e.2.2 k → X (169 + 9 * k) = nI a ∨ X (169 + 9 * k + 1) = nI a ∨ X (169 + 9 * k + 2) = nI a
def PurV (X : Nat → Int32) (N B : Nat) : Prop := ∃ pu : Nat → Nat, (∀ k, k < N → X (169 + 9 * k + 4) = nI (pu k)) ∧ sumN pu N ≤ B
def InvX (e : Enc) (X : Nat → Int32) (N K B : Nat) : Prop := GdX e X N K ∧ OwV e X N ∧ BlkV X ∧ PinV e X N ∧ PurV X N B ∧ B < 2 ^ 31
theorem le_sumN {f : Nat → Nat} {k : Nat} : ∀ {n : Nat}, k < n → f k ≤ sumN f n
  | 0, h => absurd h (Nat.not_lt_zero k)
  | n + 1, h => by
    show f k ≤ sumN f n + f n
    by_cases e : k = n
    · rw [e]; omega
    · have := le_sumN (f := f) (n := n) (k := k) (by omega)
      omega
theorem Fw_pin {e : Enc} {N k : Nat} {x : Int32} (hE : EncG e) (hN : N ≤ 6) (hk : k < 6) (h : Fw e N x) : ¬ x = e.2.2 k := by
  intro q
  rcases h with h | ⟨j, hj, h⟩
  · exact (hE.1 k hk).2.1 (q.symm.trans h)
  · exact ((hE.1 j (by omega)).2.2.2.2 k hk).1 (h.symm.trans q)
theorem Fw_20 {e : Enc} {N : Nat} {x : Int32} (hE : EncG e) (hN : N ≤ 6) (h : Fw e N x) : ¬ x = nI 20 := by
  intro q
  rcases h with h | ⟨j, hj, h⟩
  · exact hE.2 (h.symm.trans q)
  · exact (hE.1 j (by omega)).2.2.1 (h.symm.trans q)
/-- owners that change: free or wire, before and behind -/
def OwC (e : Enc) (N : Nat) (X X' : Nat → Int32) : Prop := ∀ a, a < 162 → X' (7 + a) = X (7 + a) ∨ (Fw e N (X (7 + a)) ∧ Fw e N (X' (7 + a)))
theorem OwC.pin {e : Enc} {N k a : Nat} {X X' : Nat → Int32} (hE : EncG e) (hN : N ≤ 6) (hk : k < 6) (h : OwC e N X X') (ha : a < 162) : X' (7 + a) = e.2.2 k ↔ X (7 + a) = e.2.2 k := by
  rcases h a ha with h | ⟨h1, h2⟩
  · rw [h]
  · exact ⟨fun q => absurd q (Fw_pin hE hN hk h2), fun q => absurd q (Fw_pin hE hN hk h1)⟩
theorem OwC.blk {e : Enc} {N a : Nat} {X X' : Nat → Int32} (hE : EncG e) (hN : N ≤ 6) (h : OwC e N X X') (ha : a < 162) : X' (7 + a) = nI 20 ↔ X (7 + a) = nI 20 := by
  rcases h a ha with h | ⟨h1, h2⟩
  · rw [h]
  · exact ⟨fun q => absurd q (Fw_20 hE hN h2), fun q => absurd q (Fw_20 hE hN h1)⟩
theorem InvX_st {e : Enc} {X X' : Nat → Int32} {N K K' B : Nat} (hE : EncG e) (h : InvX e X N K B) (h01 : (∃ vc, X' 0 = nI vc ∧ 1 ≤ vc ∧ vc ≤ 20) ∧ ∃ pr, X' 1 = nI pr ∧ pr ≤ 50) (h5 : X' 5 = X 5) (h6 : X' 6 = nI K') (hK : K' ≤ 12) (hn : ∀ k, k < N → ∀ t, t < 4 → X' (169 + 9 * k + t) = X (169 + 9 * k + t)) (hj : ∀ k, k < N → X' (169 + 9 * k + 5) = nI 0 ∨ X' (169 + 9 * k + 5) = nI 1) (hp : PurV X' N B) (hc : ∀ i, i < K' → InR N (X' (223 + 13 * i)) ∧ InR N (X' (223 + 13 * i + 1))) (ho : OwC e N X X') : InvX e X' N K' B := by
  obtain ⟨hG, h1, h2, h3, h4, hB⟩ := h
  have hN := hG.2.1
  have hp' := hp
  obtain ⟨pu, hpu, hs⟩ := hp'
  refine ⟨⟨h5.trans hG.1, hN, h6, hK, h01.1, h01.2, fun k hk => ?_, hc⟩, fun a ha => ?_, fun a ha => ?_, fun k hk a ha q => ?_, hp, hB⟩
  · obtain ⟨⟨p0, a1, a2, a3, a4⟩, ⟨p1, b1, b2, b3, b4⟩, c1, ⟨s, d1, d2⟩, -, -, g1⟩ := hG.net hk
    have pn := fun a ha => ho.pin hE hN (k := k) (by omega) (a := a) ha
    refine ⟨⟨p0, a1, ?_, (pn p0 (by omega)).mpr a3, (pn (p0 + 81) (by omega)).mpr a4⟩, ⟨p1, b1, ?_, (pn p1 (by omega)).mpr b3, (pn (p1 + 81) (by omega)).mpr b4⟩, ?_, ⟨s, d1, ?_⟩, ⟨pu k, ?_, hpu k hk⟩, hj k hk, fun a ha => ?_⟩
    · exact (hn k hk 0 (by decide)).trans a2
    · exact (hn k hk 1 (by decide)).trans b2
    · rw [hn k hk 2 (by decide)]
      rcases c1 with c1 | ⟨p2, c1, c2, c3, c4⟩
      · exact Or.inl c1
      · exact Or.inr ⟨p2, c1, c2, (pn p2 (by omega)).mpr c3, (pn (p2 + 81) (by omega)).mpr c4⟩
    · exact (hn k hk 3 (by decide)).trans d2
    · have := le_sumN (f := pu) hk; omega
    · rw [pn a (by omega), pn (a + 81) (by omega)]; exact g1 a ha
  · rcases ho a ha with q | ⟨-, q⟩
    · rw [q]; exact h1 a ha
    · exact Or.inl q
  · rw [ho.blk hE hN (by omega), ho.blk hE hN (by omega)]; exact h2 a ha
  · rw [ho.pin hE hN (by omega) (by omega)] at q
    have e0 := hn k hk 0 (by decide)
    rw [show 169 + 9 * k = 169 + 9 * k + 0 from rfl, e0, hn k hk 1 (by decide), hn k hk 2 (by decide)]
    exact h3 k hk a ha q
theorem OwC_rf (e : Enc) (N : Nat) {X X' : Nat → Int32} (h : ∀ a, a < 162 → X' (7 + a) = X (7 + a)) : OwC e N X X' := fun a ha => Or.inl (h a ha)
theorem OwC_tr {e : Enc} {N : Nat} {X X1 X2 : Nat → Int32} (h1 : OwC e N X X1) (h2 : OwC e N X1 X2) : OwC e N X X2 := fun a ha => by
  rcases h1 a ha with p | ⟨p, p2⟩
  · rcases h2 a ha with q | ⟨q, q2⟩
    · exact Or.inl (q.trans p)
    · rw [p] at q; exact Or.inr ⟨q, q2⟩
  · rcases h2 a ha with q | ⟨q, q2⟩
    · rw [← q] at p2; exact Or.inr ⟨p, p2⟩
    · exact Or.inr ⟨p, q2⟩
theorem loseE_o {e : Enc} {X : Nat → Int32} {k a : Nat} (hk : k < 6) (ha : a < 162) : loseE e X k (7 + a) = if X (7 + a) = e.2.1 k then e.1 else X (7 + a) := by
  unfold loseE
  rw [pk_un (by omega), scan_in _ _ ha]
theorem OwC_lose {e : Enc} {X : Nat → Int32} {N k : Nat} (hN : N ≤ 6) (hk : k < N) : OwC e N X (loseE e X k) := fun a ha => by
  rw [loseE_o (by omega) ha]
  by_cases h : X (7 + a) = e.2.1 k
  · rw [if_pos h]; exact Or.inr ⟨Or.inr ⟨k, hk, h⟩, Or.inl rfl⟩
  · rw [if_neg h]; exact Or.inl rfl
theorem takeE_o {e : Enc} {X : Nat → Int32} {k a : Nat} {L : List Nat} (hk : k < 6) (ha : a < 162) : takeE e X k L (7 + a) = if a ∈ L ∧ X (7 + a) = e.1 then e.2.1 k else X (7 + a) := by
  unfold takeE
  rw [pk_un (by omega), tkF_at ha]
theorem OwC_take {e : Enc} {X : Nat → Int32} {N k : Nat} {L : List Nat} (hN : N ≤ 6) (hk : k < N) : OwC e N X (takeE e X k L) := fun a ha => by
  rw [takeE_o (by omega) ha]
  by_cases h : a ∈ L ∧ X (7 + a) = e.1
  · rw [if_pos h]; exact Or.inr ⟨Or.inl h.2, Or.inr ⟨k, hk, rfl⟩⟩
  · rw [if_neg h]; exact Or.inl rfl
theorem backG_o {bt : (Nat → Int32) → Nat → Nat → Bool} {e : Enc} {X : Nat → Int32} {i k a : Nat} (hk : k < 6) (ha : a < 162) : backG bt e X i k (7 + a) = if bt X i a = true then e.2.1 k else X (7 + a) := by
  unfold backG
  rw [pk_un (by omega), scan_in _ _ ha]
theorem OwC_back {bt : (Nat → Int32) → Nat → Nat → Bool} {e : Enc} {X : Nat → Int32} {N i k : Nat} (hN : N ≤ 6) (hk : k < N) (h : canB bt e X i k) : OwC e N X (backG bt e X i k) := fun a ha => by
  rw [backG_o (by omega) ha]
  by_cases q : bt X i a = true
  · rw [if_pos q]; exact Or.inr ⟨Or.inl (h.2 a ha q), Or.inr ⟨k, hk, rfl⟩⟩
  · rw [if_neg q]; exact Or.inl rfl
/-- the coordinates that no wire's change reaches -/
theorem loseE_n {e : Enc} {X : Nat → Int32} {k j : Nat} (hj : j < 7 ∨ 169 ≤ j) (h : j ≠ 169 + 9 * k + 5) : loseE e X k j = X j := by
  unfold loseE
  rw [pk_un h, scan_ge _ _ (by omega)]
theorem loseE_5 (e : Enc) (X : Nat → Int32) (k : Nat) : loseE e X k (169 + 9 * k + 5) = nI 0 := pk_us
theorem takeE_n {e : Enc} {X : Nat → Int32} {k j : Nat} {L : List Nat} (hj : j < 7 ∨ 169 ≤ j) (h : j ≠ 169 + 9 * k + 5) : takeE e X k L j = X j := by
  unfold takeE tkF
  rw [pk_un h, if_neg (by omega)]
theorem takeE_5 (e : Enc) (X : Nat → Int32) (k : Nat) (L : List Nat) : takeE e X k L (169 + 9 * k + 5) = nI 1 := pk_us
theorem backG_n {bt : (Nat → Int32) → Nat → Nat → Bool} {e : Enc} {X : Nat → Int32} {i k j : Nat} (hj : j < 7 ∨ 169 ≤ j) (h : j ≠ 169 + 9 * k + 5) : backG bt e X i k j = X j := by
  unfold backG
  rw [pk_un h, scan_ge _ _ (by omega)]
theorem backG_5 (bt : (Nat → Int32) → Nat → Nat → Bool) (e : Enc) (X : Nat → Int32) (i k : Nat) : backG bt e X i k (169 + 9 * k + 5) = nI 1 := pk_us
section INV
variable {e : Enc} {X X' : Nat → Int32} {N K B : Nat} {r : Int32}
theorem InvX.s01 (h : InvX e X N K B) : (∃ vc, X 0 = nI vc ∧ 1 ≤ vc ∧ vc ≤ 20) ∧ ∃ pr, X 1 = nI pr ∧ pr ≤ 50 := ⟨h.1.2.2.2.2.1, h.1.2.2.2.2.2.1⟩
theorem InvX.j5 (h : InvX e X N K B) {k : Nat} (hk : k < N) : X (169 + 9 * k + 5) = nI 0 ∨ X (169 + 9 * k + 5) = nI 1 := (h.1.net hk).2.2.2.2.2.1
theorem InvX.mono (h : InvX e X N K B) {B' : Nat} (hB : B ≤ B') (hB2 : B' < 2 ^ 31) : InvX e X N K B' := by
  obtain ⟨h1, h2, h3, h4, ⟨pu, h5, h6⟩, -⟩ := h
  exact ⟨h1, h2, h3, h4, ⟨pu, h5, by omega⟩, hB2⟩
/-- a row that is changed at acts, states of claims and the like alone -/
theorem InvX_u (hE : EncG e) (h : InvX e X N K B) (hs : ∀ j, j < 2 ∨ j = 5 ∨ j = 6 ∨ (7 ≤ j ∧ j < 169) → X' j = X j) (hn : ∀ k, k < N → ∀ t, t < 6 → X' (169 + 9 * k + t) = X (169 + 9 * k + t)) (hc : ∀ i, i < K → X' (223 + 13 * i) = X (223 + 13 * i) ∧ X' (223 + 13 * i + 1) = X (223 + 13 * i + 1)) : InvX e X' N K B := by
  have hN := h.1.2.1
  have hK := h.1.2.2.2.1
  refine InvX_st hE h ?_ (hs 5 (by omega)) ((hs 6 (by omega)).trans h.1.2.2.1) hK (fun k hk t ht => hn k hk t (by omega)) (fun k hk => ?_) ?_ (fun i hi => ?_) (OwC_rf e N (fun a ha => hs _ (by omega)))
  · rw [hs 0 (by omega), hs 1 (by omega)]; exact h.s01
  · rw [hn k hk 5 (by omega)]; exact h.j5 hk
  · obtain ⟨pu, h1, h2⟩ := h.2.2.2.2.1
    exact ⟨pu, fun k hk => (hn k hk 4 (by omega)).trans (h1 k hk), h2⟩
  · rw [(hc i hi).1, (hc i hi).2]; exact h.1.2.2.2.2.2.2.2 i hi
theorem Inv_set {w v : Int32} (hE : EncG e) (h : InvX e X N K B) (hq : setQ X w v r X') : InvX e X' N K B := by
  have hN := h.1.2.1
  have hK := h.1.2.2.2.1
  rcases hq with ⟨-, -, rfl⟩ | ⟨j, hj, -, h1, h2, -, rfl⟩
  · exact h
  · refine InvX_st hE h ?_ (pk_un (by omega)) ((pk_un (by omega)).trans h.1.2.2.1) hK (fun k hk t ht => pk_un (by omega)) (fun k hk => ?_) ?_ (fun i hi => ?_) (OwC_rf e N (fun a ha => pk_un (by omega)))
    · have vpos : ∀ lo hi : Nat, hi < 2 ^ 31 → lo ≤ hi → nI lo ≤ v → v ≤ nI hi → ∃ q : Nat, v = nI q ∧ lo ≤ q ∧ q ≤ hi := fun lo hi hh hl g1 g2 => by
        obtain ⟨q, hq, rfl⟩ := nI_of (x := v) (fun z => by
          have := Int32.le_iff_toInt_le.mp g1
          rw [nI_toInt (by omega)] at this
          have h0 := Int32.lt_iff_toInt_lt.mp z
          have : (0 : Int32).toInt = 0 := rfl
          omega)
        exact ⟨q, rfl, (nI_leI (by omega) hq).mp g1, (nI_leI hq hh).mp g2⟩
      unfold f_LEASTi at h1
      unfold f_MOSTi at h2
      rcases (show j = 0 ∨ j = 1 ∨ 2 ≤ j by omega) with rfl | rfl | hj2
      · rw [if_pos rfl] at h1 h2
        obtain ⟨q, g1, g2, g3⟩ := vpos 1 20 (by decide) (by decide) h1 h2
        exact ⟨⟨q, by rw [pk_us]; exact g1, g2, g3⟩, by rw [pk_un (by decide)]; exact h.s01.2⟩
      · rw [if_neg (by decide), if_neg (by decide)] at h1 h2
        obtain ⟨q, g1, g2, g3⟩ := vpos 0 50 (by decide) (by decide) h1 h2
        exact ⟨by rw [pk_un (by decide)]; exact h.s01.1, q, by rw [pk_us]; exact g1, g3⟩
      · rw [pk_un (by omega), pk_un (by omega)]; exact h.s01
    · rw [pk_un (by omega)]; exact h.j5 hk
    · obtain ⟨pu, g1, g2⟩ := h.2.2.2.2.1
      exact ⟨pu, fun k hk => (pk_un (by omega)).trans (g1 k hk), g2⟩
    · rw [pk_un (by omega), pk_un (by omega)]; exact h.1.2.2.2.2.2.2.2 i hi
theorem Inv_pass {a : Int32} (hE : EncG e) (h : InvX e X N K B) (hq : passQ X a r X') : InvX e X' N K B := by
  have hN := h.1.2.1
  rcases hq with ⟨-, -, rfl⟩ | ⟨-, -, ⟨-, -, rfl⟩ | ⟨-, -, rfl⟩⟩
  · exact h
  · exact h
  · exact InvX_u hE h (fun j hj => pk_un (by omega)) (fun k hk t ht => pk_un (by omega)) (fun i hi => ⟨pk_un (by omega), pk_un (by omega)⟩)
theorem Inv_appl {n : Int32} (hE : EncG e) (h : InvX e X N K B) (hq : applQ X K n r X') : InvX e X' N K B := by
  have hN := h.1.2.1
  rcases hq with ⟨-, -, rfl⟩ | ⟨i, hi, -, ⟨-, -, rfl⟩ | ⟨-, -, rfl, -⟩⟩
  · exact h
  · exact h
  · exact InvX_u hE h (fun j hj => by rw [pk_un (by omega), pk_un (by omega)]) (fun k hk t ht => by rw [pk_un (by omega), pk_un (by omega)]) (fun i hi => ⟨by rw [pk_un (by omega), pk_un (by omega)], by rw [pk_un (by omega), pk_un (by omega)]⟩)
theorem Inv_give {n a : Int32} (hE : EncG e) (h : InvX e X N K B) (hB : B + 9999 < 2 ^ 31) (hq : giveQ X N n a r X') : InvX e X' N K (B + 9999) := by
  have hN := h.1.2.1
  have hK := h.1.2.2.2.1
  have h' := h.mono (B' := B + 9999) (by omega) hB
  rcases hq with ⟨-, -, rfl⟩ | ⟨k, hk, -, h1, h2, ⟨-, -, rfl⟩ | ⟨-, -, rfl⟩⟩
  · exact h'
  · exact h'
  · obtain ⟨pu, g1, g2⟩ := h.2.2.2.2.1
    obtain ⟨q, hq, rfl⟩ := nI_of (x := a) (fun z => by
      have := Int32.le_iff_toInt_le.mp h1
      have h0 := Int32.lt_iff_toInt_lt.mp z
      have e0 : (0 : Int32).toInt = 0 := rfl
      have e1 : (nI 1).toInt = 1 := rfl
      omega)
    have hq2 := (nI_leI hq (by decide)).mp h2
    refine InvX_st hE h' ?_ (pk_un (by omega)) ((pk_un (by omega)).trans h.1.2.2.1) hK (fun j hj t ht => pk_un (by omega)) (fun j hj => ?_) ?_ (fun i hi => ?_) (OwC_rf e N (fun a ha => pk_un (by omega)))
    · rw [pk_un (by omega), pk_un (by omega)]; exact h.s01
    · rw [pk_un (by omega)]; exact h.j5 hj
    · refine ⟨fun j => if j = k then pu j + q else pu j, fun j hj => ?_, ?_⟩
      · by_cases ej : j = k
        · subst ej; rw [pk_us, g1 j hj, nI_add]; exact congrArg nI (if_pos rfl).symm
        · rw [pk_un (by omega)]; exact (g1 j hj).trans (congrArg nI (if_neg ej).symm)
      · have := sumN_upd (f := pu) (g := fun j => if j = k then pu j + q else pu j) (k := k) (w := q) hk (if_pos rfl) (fun j _ hj => if_neg hj)
        omega
    · rw [pk_un (by omega), pk_un (by omega)]; exact h.1.2.2.2.2.2.2.2 i hi
theorem Inv_lose (hE : EncG e) (h : InvX e X N K B) {k : Nat} (hk : k < N) : InvX e (loseE e X k) N K B := by
  have hN := h.1.2.1
  have hK := h.1.2.2.2.1
  refine InvX_st hE h ?_ (loseE_n (by omega) (by omega)) ((loseE_n (by omega) (by omega)).trans h.1.2.2.1) hK (fun j hj t ht => loseE_n (by omega) (by omega)) (fun j hj => ?_) ?_ (fun i hi => ?_) (OwC_lose hN hk)
  · rw [loseE_n (by omega) (by omega), loseE_n (by omega) (by omega)]; exact h.s01
  · by_cases ej : j = k
    · subst ej; exact Or.inl (loseE_5 e X j)
    · rw [loseE_n (by omega) (by omega)]; exact h.j5 hj
  · obtain ⟨pu, g1, g2⟩ := h.2.2.2.2.1
    exact ⟨pu, fun j hj => (loseE_n (by omega) (by omega)).trans (g1 j hj), g2⟩
  · rw [loseE_n (by omega) (by omega), loseE_n (by omega) (by omega)]; exact h.1.2.2.2.2.2.2.2 i hi
theorem Inv_take (hE : EncG e) (h : InvX e X N K B) {k : Nat} (hk : k < N) (L : List Nat) : InvX e (takeE e X k L) N K B := by
  have hN := h.1.2.1
  have hK := h.1.2.2.2.1
  refine InvX_st hE h ?_ (takeE_n (by omega) (by omega)) ((takeE_n (by omega) (by omega)).trans h.1.2.2.1) hK (fun j hj t ht => takeE_n (by omega) (by omega)) (fun j hj => ?_) ?_ (fun i hi => ?_) (OwC_take hN hk)
  · rw [takeE_n (by omega) (by omega), takeE_n (by omega) (by omega)]; exact h.s01
  · by_cases ej : j = k
    · subst ej; exact Or.inr (takeE_5 e X j L)
    · rw [takeE_n (by omega) (by omega)]; exact h.j5 hj
  · obtain ⟨pu, g1, g2⟩ := h.2.2.2.2.1
    exact ⟨pu, fun j hj => (takeE_n (by omega) (by omega)).trans (g1 j hj), g2⟩
  · rw [takeE_n (by omega) (by omega), takeE_n (by omega) (by omega)]; exact h.1.2.2.2.2.2.2.2 i hi
theorem Inv_back {bt : (Nat → Int32) → Nat → Nat → Bool} {q : Nat} (hE : EncG e) (h : InvX e X N K B) {k : Nat} (hk : k < N) (hb : canB bt e X q k) : InvX e (backG bt e X q k) N K B := by
  have hN := h.1.2.1
  have hK := h.1.2.2.2.1
  refine InvX_st hE h ?_ (backG_n (by omega) (by omega)) ((backG_n (by omega) (by omega)).trans h.1.2.2.1) hK (fun j hj t ht => backG_n (by omega) (by omega)) (fun j hj => ?_) ?_ (fun i hi => ?_) (OwC_back hN hk hb)
  · rw [backG_n (by omega) (by omega), backG_n (by omega) (by omega)]; exact h.s01
  · by_cases ej : j = k
    · subst ej; exact Or.inr (backG_5 bt e X q j)
    · rw [backG_n (by omega) (by omega)]; exact h.j5 hj
  · obtain ⟨pu, g1, g2⟩ := h.2.2.2.2.1
    exact ⟨pu, fun j hj => (backG_n (by omega) (by omega)).trans (g1 j hj), g2⟩
  · rw [backG_n (by omega) (by omega), backG_n (by omega) (by omega)]; exact h.1.2.2.2.2.2.2.2 i hi
theorem Inv_act (hE : EncG e) (h : InvX e X N K B) (v : Int32) : InvX e (upd X 4 v) N K B := by
  have hN := h.1.2.1
  exact InvX_u hE h (fun j hj => pk_un (by omega)) (fun k hk t ht => pk_un (by omega)) (fun i hi => ⟨pk_un (by omega), pk_un (by omega)⟩)
theorem Inv_rip {n : Int32} (hE : EncG e) (h : InvX e X N K B) (hq : ripQ e X N n r X') : InvX e X' N K B := by
  rcases hq with ⟨-, -, rfl⟩ | ⟨k, hk, -, ⟨-, -, rfl⟩ | ⟨-, -, rfl⟩⟩
  · exact h
  · exact h
  · exact Inv_act hE (Inv_lose hE h hk) _
theorem Inv_lay {n : Int32} (hE : EncG e) (h : InvX e X N K B) (hq : layQ e X N n r X') : InvX e X' N K B := by
  rcases hq with ⟨-, -, rfl⟩ | ⟨k, hk, -, ⟨-, -, rfl⟩ | ⟨-, z, l1, l2, -, -, rfl⟩⟩
  · exact h
  · exact h
  · exact Inv_act hE (Inv_take hE h hk _) _
end INV
