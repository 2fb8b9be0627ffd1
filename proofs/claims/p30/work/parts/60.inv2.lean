/-! places blocked and freed, nets: the invariants -/
theorem netRow_n {X : Nat → Int32} {k j : Nat} {p0 p1 p2 s u : Int32} (h : j < 169 + 9 * k ∨ 169 + 9 * k + 9 ≤ j) : netRow X k p0 p1 p2 s u j = X j := by
  unfold netRow
  repeat rw [pk_un (by omega)]
theorem Inv_blk {e : Enc} {X : Nat → Int32} {N K B j b : Nat} (hE : EncG e) (h : InvX e X N K B) (hj : j < 81) (a3 : X (7 + j) = (if b = 1 then e.1 else nI 20)) (a4 : X (7 + (j + 81)) = (if b = 1 then e.1 else nI 20)) : InvX e (upd (upd X (7 + j) (if b = 1 then nI 20 else e.1)) (7 + (j + 81)) (if b = 1 then nI 20 else e.1)) N K B := by
  have hN := h.1.2.1
  generalize hw : (if b = 1 then nI 20 else e.1) = w
  generalize hv : (if b = 1 then e.1 else nI 20) = v at a3 a4
  have hw2 : w = nI 20 ∨ w = e.1 := by
    rw [← hw]; split
    · exact Or.inl rfl
    · exact Or.inr rfl
  have hv2 : v = nI 20 ∨ v = e.1 := by
    rw [← hv]; split
    · exact Or.inr rfl
    · exact Or.inl rfl
  have hy : ∀ a, a < 162 → upd (upd X (7 + j) w) (7 + (j + 81)) w (7 + a) = if a = j ∨ a = j + 81 then w else X (7 + a) := fun a ha => by
    by_cases e1 : a = j + 81
    · subst e1; rw [pk_us, if_pos (Or.inr rfl)]
    · rw [pk_un (by omega)]
      by_cases e2 : a = j
      · subst e2; rw [pk_us, if_pos (Or.inl rfl)]
      · rw [pk_un (by omega), if_neg (by omega)]
  have hx : ∀ a, a < 162 → (a = j ∨ a = j + 81) → X (7 + a) = v := fun a ha q => by
    rcases q with q | q
    · rw [q]; exact a3
    · rw [q]; exact a4
  have ho : ∀ q, (q < 7 ∨ 169 ≤ q) → upd (upd X (7 + j) w) (7 + (j + 81)) w q = X q := fun q hq => by rw [pk_un (by omega), pk_un (by omega)]
  have np : ∀ k, k < N → ¬ w = e.2.2 k ∧ ¬ v = e.2.2 k := fun k hk => by
    have hk6 := hE.1 k (by omega)
    constructor
    · intro q
      rcases hw2 with z | z
      · exact hk6.2.2.2.1 (q.symm.trans z)
      · exact hk6.2.1 (q.symm.trans z)
    · intro q
      rcases hv2 with z | z
      · exact hk6.2.2.2.1 (q.symm.trans z)
      · exact hk6.2.1 (q.symm.trans z)
  have hp : ∀ k, k < N → ∀ a, a < 162 → (upd (upd X (7 + j) w) (7 + (j + 81)) w (7 + a) = e.2.2 k ↔ X (7 + a) = e.2.2 k) := fun k hk a ha => by
    rw [hy a ha]
    by_cases q : a = j ∨ a = j + 81
    · rw [if_pos q, hx a ha q]
      exact ⟨fun z => absurd z (np k hk).1, fun z => absurd z (np k hk).2⟩
    · rw [if_neg q]
  obtain ⟨hG, g1, g2, g3, ⟨pu, g4, g5⟩, hB⟩ := h
  refine ⟨⟨(ho 5 (by omega)).trans hG.1, hN, (ho 6 (by omega)).trans hG.2.2.1, hG.2.2.2.1, ?_, ?_, fun k hk => ?_, fun i hi => ?_⟩, fun a ha => ?_, fun a ha => ?_, fun k hk a ha q => ?_, ⟨pu, fun k hk => (ho _ (by omega)).trans (g4 k hk), g5⟩, hB⟩
  · rw [ho 0 (by omega)]; exact hG.2.2.2.2.1
  · rw [ho 1 (by omega)]; exact hG.2.2.2.2.2.1
  · obtain ⟨⟨p0, b1, b2, b3, b4⟩, ⟨p1, c1, c2, c3, c4⟩, d1, e1, f1, i1, k1⟩ := hG.net hk
    refine ⟨⟨p0, b1, (ho _ (by omega)).trans b2, (hp k hk p0 (by omega)).mpr b3, (hp k hk (p0 + 81) (by omega)).mpr b4⟩, ⟨p1, c1, (ho _ (by omega)).trans c2, (hp k hk p1 (by omega)).mpr c3, (hp k hk (p1 + 81) (by omega)).mpr c4⟩, ?_, ?_, ?_, ?_, fun a ha => ?_⟩
    · rw [ho _ (by omega)]
      rcases d1 with d1 | ⟨p2, d1, d2, d3, d4⟩
      · exact Or.inl d1
      · exact Or.inr ⟨p2, d1, d2, (hp k hk p2 (by omega)).mpr d3, (hp k hk (p2 + 81) (by omega)).mpr d4⟩
    · rw [ho _ (by omega)]; exact e1
    · rw [ho _ (by omega)]; exact f1
    · rw [ho _ (by omega)]; exact i1
    · rw [hp k hk a (by omega), hp k hk (a + 81) (by omega)]; exact k1 a ha
  · rw [ho _ (by omega), ho _ (by omega)]; exact hG.2.2.2.2.2.2.2 i hi
  · rw [hy a ha]
    split
    · rcases hw2 with z | z
      · exact Or.inr (Or.inl z)
      · exact Or.inl (Or.inl z)
    · exact g1 a ha
  · rw [hy a (by omega), hy (a + 81) (by omega)]
    by_cases q : a = j
    · rw [if_pos (Or.inl q), if_pos (Or.inr (by omega))]
    · rw [if_neg (by omega), if_neg (by omega)]; exact g2 a ha
  · rw [hp k hk a (by omega)] at q
    have := g3 k hk a ha q
    rw [ho _ (by omega), ho _ (by omega), ho _ (by omega)]
    exact this
/-- a net that came -/
def NetP (e : Enc) (X : Nat → Int32) (N j0 j1 : Nat) (o2 : Option Nat) (s u : Int32) (X' : Nat → Int32) : Prop :=
  X' 5 = nI (N + 1) ∧ (∀ j, (j < 7 ∧ j ≠ 5) ∨ (169 ≤ j ∧ j < 169 + 9 * N) ∨ 169 + 9 * N + 9 ≤ j → X' j = X j) ∧
  (X' (169 + 9 * N) = nI j0 ∧ X' (169 + 9 * N + 1) = nI j1 ∧ X' (169 + 9 * N + 2) = ngh o2 ∧ X' (169 + 9 * N + 3) = s ∧ X' (169 + 9 * N + 4) = u ∧ X' (169 + 9 * N + 5) = nI 0 ∧ X' (169 + 9 * N + 6) = nI 0 ∧ X' (169 + 9 * N + 7) = nI 0 ∧ X' (169 + 9 * N + 8) = nI 0) ∧
  (∀ a, a < 81 → (a = j0 ∨ a = j1 ∨ o2 = some a) → X' (7 + a) = e.2.2 N ∧ X' (7 + (a + 81)) = e.2.2 N) ∧
  (∀ a, a < 81 → ¬ (a = j0 ∨ a = j1 ∨ o2 = some a) → X' (7 + a) = X (7 + a) ∧ X' (7 + (a + 81)) = X (7 + (a + 81)))
theorem pinE_hi {e : Enc} {X : Nat → Int32} {k j q : Nat} (hj : j < 81) (h : q < 7 ∨ 169 ≤ q) : pinE e k j X q = X q := by
  unfold pinE
  rw [pk_un (by omega), pk_un (by omega)]
theorem pinE_y {e : Enc} {X : Nat → Int32} {k j : Nat} (hj : j < 81) : pinE e k j X (7 + j) = e.2.2 k ∧ pinE e k j X (7 + (j + 81)) = e.2.2 k := by
  unfold pinE
  exact ⟨by rw [pk_un (by omega), pk_us], pk_us⟩
theorem pinE_o {e : Enc} {X : Nat → Int32} {k j a : Nat} (hj : j < 81) (ha : a < 81) (h : a ≠ j) : pinE e k j X (7 + a) = X (7 + a) ∧ pinE e k j X (7 + (a + 81)) = X (7 + (a + 81)) := by
  unfold pinE
  exact ⟨by rw [pk_un (by omega), pk_un (by omega)], by rw [pk_un (by omega), pk_un (by omega)]⟩
theorem netRow_v (X : Nat → Int32) (k : Nat) (p0 p1 p2 s u : Int32) : netRow X k p0 p1 p2 s u (169 + 9 * k) = p0 ∧ netRow X k p0 p1 p2 s u (169 + 9 * k + 1) = p1 ∧ netRow X k p0 p1 p2 s u (169 + 9 * k + 2) = p2 ∧ netRow X k p0 p1 p2 s u (169 + 9 * k + 3) = s ∧ netRow X k p0 p1 p2 s u (169 + 9 * k + 4) = u ∧ netRow X k p0 p1 p2 s u (169 + 9 * k + 5) = nI 0 ∧ netRow X k p0 p1 p2 s u (169 + 9 * k + 6) = nI 0 ∧ netRow X k p0 p1 p2 s u (169 + 9 * k + 7) = nI 0 ∧ netRow X k p0 p1 p2 s u (169 + 9 * k + 8) = nI 0 := by
  unfold netRow
  refine ⟨?_, ?_, ?_, ?_, ?_, ?_, ?_, ?_, ?_⟩
  all_goals (repeat first | rw [pk_us] | rw [pk_un (by omega)])
theorem NetP_0 {e : Enc} {X : Nat → Int32} {N j0 j1 : Nat} {s u : Int32} (hN : N < 6) (h0 : j0 < 81) (h1 : j1 < 81) : NetP e X N j0 j1 none s u (netRow (pinE e N j1 (pinE e N j0 (upd X 5 (nI (N + 1))))) N (nI j0) (nI j1) (-1) s u) := by
  obtain ⟨v0, v1, v2, v3, v4, v5, v6, v7, v8⟩ := netRow_v (pinE e N j1 (pinE e N j0 (upd X 5 (nI (N + 1))))) N (nI j0) (nI j1) (-1) s u
  refine ⟨?_, fun j hj => ?_, ⟨v0, v1, v2, v3, v4, v5, v6, v7, v8⟩, fun a ha hT => ?_, fun a ha hT => ?_⟩
  · rw [netRow_n (by omega), pinE_hi h1 (by omega), pinE_hi h0 (by omega), pk_us]
  · rw [netRow_n (by omega), pinE_hi h1 (by omega), pinE_hi h0 (by omega), pk_un (by omega)]
  · rw [netRow_n (by omega), netRow_n (by omega)]
    by_cases e1 : a = j1
    · subst e1; exact pinE_y h1
    · rw [(pinE_o h1 ha e1).1, (pinE_o h1 ha e1).2]
      rcases hT with rfl | hT | hT
      · exact pinE_y h0
      · exact absurd hT e1
      · cases hT
  · rw [netRow_n (by omega), netRow_n (by omega)]
    have e1 : a ≠ j1 := fun q => hT (Or.inr (Or.inl q))
    have e0 : a ≠ j0 := fun q => hT (Or.inl q)
    rw [(pinE_o h1 ha e1).1, (pinE_o h1 ha e1).2, (pinE_o h0 ha e0).1, (pinE_o h0 ha e0).2, pk_un (by omega), pk_un (by omega)]
    exact ⟨rfl, rfl⟩
theorem NetP_2 {e : Enc} {X : Nat → Int32} {N j0 j1 j2 : Nat} {s u : Int32} (hN : N < 6) (h0 : j0 < 81) (h1 : j1 < 81) (h2 : j2 < 81) : NetP e X N j0 j1 (some j2) s u (netRow (pinE e N j2 (pinE e N j1 (pinE e N j0 (upd X 5 (nI (N + 1)))))) N (nI j0) (nI j1) (nI j2) s u) := by
  obtain ⟨v0, v1, v2, v3, v4, v5, v6, v7, v8⟩ := netRow_v (pinE e N j2 (pinE e N j1 (pinE e N j0 (upd X 5 (nI (N + 1)))))) N (nI j0) (nI j1) (nI j2) s u
  refine ⟨?_, fun j hj => ?_, ⟨v0, v1, v2, v3, v4, v5, v6, v7, v8⟩, fun a ha hT => ?_, fun a ha hT => ?_⟩
  · rw [netRow_n (by omega), pinE_hi h2 (by omega), pinE_hi h1 (by omega), pinE_hi h0 (by omega), pk_us]
  · rw [netRow_n (by omega), pinE_hi h2 (by omega), pinE_hi h1 (by omega), pinE_hi h0 (by omega), pk_un (by omega)]
  · rw [netRow_n (by omega), netRow_n (by omega)]
    by_cases e2 : a = j2
    · subst e2; exact pinE_y h2
    · rw [(pinE_o h2 ha e2).1, (pinE_o h2 ha e2).2]
      by_cases e1 : a = j1
      · subst e1; exact pinE_y h1
      · rw [(pinE_o h1 ha e1).1, (pinE_o h1 ha e1).2]
        rcases hT with rfl | hT | hT
        · exact pinE_y h0
        · exact absurd hT e1
        · cases hT; exact absurd rfl e2
  · rw [netRow_n (by omega), netRow_n (by omega)]
    have e2 : a ≠ j2 := fun q => hT (Or.inr (Or.inr (by rw [q])))
    have e1 : a ≠ j1 := fun q => hT (Or.inr (Or.inl q))
    have e0 : a ≠ j0 := fun q => hT (Or.inl q)
    rw [(pinE_o h2 ha e2).1, (pinE_o h2 ha e2).2, (pinE_o h1 ha e1).1, (pinE_o h1 ha e1).2, (pinE_o h0 ha e0).1, (pinE_o h0 ha e0).2, pk_un (by omega), pk_un (by omega)]
    exact ⟨rfl, rfl⟩
theorem Inv_net {e : Enc} {X X' : Nat → Int32} {N K B j0 j1 : Nat} {o2 : Option Nat} {s u : Int32} (hE : EncG e) (h : InvX e X N K B) (hB : B + 9999 < 2 ^ 31) (hN : N < 6) (h0 : j0 < 81) (h1 : j1 < 81) (h2 : ∀ j, o2 = some j → j < 81) (hs : ∃ q, q ≤ 9 ∧ s = nI q) (hu : ∃ q, q ≤ 9999 ∧ u = nI q) (hf : ∀ a, a < 81 → (a = j0 ∨ a = j1 ∨ o2 = some a) → X (7 + a) = e.1 ∧ X (7 + (a + 81)) = e.1) (hP : NetP e X N j0 j1 o2 s u X') : InvX e X' (N + 1) K (B + 9999) := by
  obtain ⟨n5, no, ⟨v0, v1, v2, v3, v4, v5, v6, v7, v8⟩, hT, hF⟩ := hP
  obtain ⟨hG, g1, g2, g3, ⟨pu, g4, g5⟩, hB0⟩ := h
  obtain ⟨us, u1, u2⟩ := hu
  have hEN := hE.1 N hN
  have hlo : ∀ a, a < 162 → ∃ b, b < 81 ∧ (a = b ∨ a = b + 81) := fun a ha => ⟨a % 81, by omega, by omega⟩
  have hp : ∀ k, k < N → ∀ a, a < 162 → (X' (7 + a) = e.2.2 k ↔ X (7 + a) = e.2.2 k) := fun k hk a ha => by
    obtain ⟨b, hb, hab⟩ := hlo a ha
    have hk6 := hE.1 k (by omega)
    by_cases q : b = j0 ∨ b = j1 ∨ o2 = some b
    · have t := hT b hb q
      have f := hf b hb q
      have e1 : X' (7 + a) = e.2.2 N := by rcases hab with z | z <;> rw [z]; exact t.1; exact t.2
      have e2 : X (7 + a) = e.1 := by rcases hab with z | z <;> rw [z]; exact f.1; exact f.2
      rw [e1, e2]
      exact ⟨fun z => absurd ((hEN.2.2.2.2 k (by omega)).2.2 z) (by omega), fun z => absurd z.symm hk6.2.1⟩
    · have f := hF b hb q
      rcases hab with z | z <;> rw [z]
      · rw [f.1]
      · rw [f.2]
  have hnew : ∀ a, a < 162 → X' (7 + a) = e.2.2 N ∨ X' (7 + a) = X (7 + a) := fun a ha => by
    obtain ⟨b, hb, hab⟩ := hlo a ha
    by_cases q : b = j0 ∨ b = j1 ∨ o2 = some b
    · have t := hT b hb q
      rcases hab with z | z <;> rw [z]
      · exact Or.inl t.1
      · exact Or.inl t.2
    · have f := hF b hb q
      rcases hab with z | z <;> rw [z]
      · exact Or.inr f.1
      · exact Or.inr f.2
  have hXN : ∀ a, a < 162 → ¬ X (7 + a) = e.2.2 N := fun a ha q => by
    rcases g1 a ha with (z | ⟨k, hk, z⟩) | z | ⟨k, hk, z⟩
    · exact hEN.2.1 (q.symm.trans z)
    · exact ((hE.1 k (by omega)).2.2.2.2 N hN).1 (z.symm.trans q)
    · exact hEN.2.2.2.1 (q.symm.trans z)
    · exact absurd ((hEN.2.2.2.2 k (by omega)).2.2 (q.symm.trans z)) (by omega)
  have hTi : ∀ a, a < 81 → (X' (7 + a) = e.2.2 N ↔ (a = j0 ∨ a = j1 ∨ o2 = some a)) := fun a ha => by
    by_cases q : a = j0 ∨ a = j1 ∨ o2 = some a
    · exact ⟨fun _ => q, fun _ => (hT a ha q).1⟩
    · exact ⟨fun z => by rw [(hF a ha q).1] at z; exact absurd z (hXN a (by omega)), fun z => absurd z q⟩
  have hTi2 : ∀ a, a < 81 → (X' (7 + (a + 81)) = e.2.2 N ↔ (a = j0 ∨ a = j1 ∨ o2 = some a)) := fun a ha => by
    by_cases q : a = j0 ∨ a = j1 ∨ o2 = some a
    · exact ⟨fun _ => q, fun _ => (hT a ha q).2⟩
    · exact ⟨fun z => by rw [(hF a ha q).2] at z; exact absurd z (hXN (a + 81) (by omega)), fun z => absurd z q⟩
  refine ⟨⟨n5, by omega, (no 6 (by omega)).trans hG.2.2.1, hG.2.2.2.1, ?_, ?_, fun k hk => ?_, fun i hi => ?_⟩, fun a ha => ?_, fun a ha => ?_, fun k hk a ha q => ?_, ⟨fun k => if k = N then us else pu k, fun k hk => ?_, ?_⟩, hB⟩
  · rw [no 0 (by omega)]; exact hG.2.2.2.2.1
  · rw [no 1 (by omega)]; exact hG.2.2.2.2.2.1
  · by_cases ek : k = N
    · subst ek
      refine ⟨⟨j0, h0, v0, hT j0 h0 (Or.inl rfl)⟩, ⟨j1, h1, v1, hT j1 h1 (Or.inr (Or.inl rfl))⟩, ?_, ?_, ⟨us, by omega, by rw [v4, u2]⟩, Or.inl v5, fun a ha => by rw [hTi a ha, hTi2 a ha]⟩
      · cases ho : o2 with
        | none => rw [v2, ho]; exact Or.inl rfl
        | some j2 => exact Or.inr ⟨j2, h2 j2 ho, by rw [v2, ho]; rfl, hT j2 (h2 j2 ho) (Or.inr (Or.inr ho))⟩
      · obtain ⟨q, q1, q2⟩ := hs
        exact ⟨q, q1, by rw [v3, q2]⟩
    · have hkN : k < N := by omega
      obtain ⟨⟨p0, b1, b2, b3, b4⟩, ⟨p1, c1, c2, c3, c4⟩, d1, e1, f1, i1, k1⟩ := hG.net hkN
      refine ⟨⟨p0, b1, (no _ (by omega)).trans b2, (hp k hkN p0 (by omega)).mpr b3, (hp k hkN (p0 + 81) (by omega)).mpr b4⟩, ⟨p1, c1, (no _ (by omega)).trans c2, (hp k hkN p1 (by omega)).mpr c3, (hp k hkN (p1 + 81) (by omega)).mpr c4⟩, ?_, ?_, ?_, ?_, fun a ha => ?_⟩
      · rw [no _ (by omega)]
        rcases d1 with d1 | ⟨p2, d1, d2, d3, d4⟩
        · exact Or.inl d1
        · exact Or.inr ⟨p2, d1, d2, (hp k hkN p2 (by omega)).mpr d3, (hp k hkN (p2 + 81) (by omega)).mpr d4⟩
      · rw [no _ (by omega)]; exact e1
      · rw [no _ (by omega)]; exact f1
      · rw [no _ (by omega)]; exact i1
      · rw [hp k hkN a (by omega), hp k hkN (a + 81) (by omega)]; exact k1 a ha
  · rw [no _ (by omega), no _ (by omega)]
    obtain ⟨⟨k, k1, k2⟩, ⟨q, q1, q2⟩⟩ := hG.2.2.2.2.2.2.2 i hi
    exact ⟨⟨k, by omega, k2⟩, ⟨q, by omega, q2⟩⟩
  · rcases hnew a ha with z | z
    · exact Or.inr (Or.inr ⟨N, by omega, z⟩)
    · rw [z]
      rcases g1 a ha with (y | ⟨k, hk, y⟩) | y | ⟨k, hk, y⟩
      · exact Or.inl (Or.inl y)
      · exact Or.inl (Or.inr ⟨k, by omega, y⟩)
      · exact Or.inr (Or.inl y)
      · exact Or.inr (Or.inr ⟨k, by omega, y⟩)
  · by_cases q : a = j0 ∨ a = j1 ∨ o2 = some a
    · rw [(hT a ha q).1, (hT a ha q).2]
    · rw [(hF a ha q).1, (hF a ha q).2]; exact g2 a ha
  · by_cases ek : k = N
    · subst ek
      rw [v0, v1, v2]
      rcases (hTi a ha).mp q with z | z | z
      · exact Or.inl (by rw [z])
      · exact Or.inr (Or.inl (by rw [z]))
      · exact Or.inr (Or.inr (by rw [z]; rfl))
    · have hkN : k < N := by omega
      rw [hp k hkN a (by omega)] at q
      rw [no _ (by omega), no _ (by omega), no _ (by omega)]
      exact g3 k hkN a ha q
  · by_cases ek : k = N
    · subst ek; rw [v4, u2]; exact congrArg nI (if_pos rfl).symm
    · rw [no _ (by omega)]; exact (g4 k (by omega)).trans (congrArg nI (if_neg ek).symm)
  · show sumN (fun k => if k = N then us else pu k) N + (if N = N then us else pu N) ≤ B + 9999
    rw [if_pos rfl, sumN_cg (g := pu) (fun k hk => if_neg (by omega))]
    omega
