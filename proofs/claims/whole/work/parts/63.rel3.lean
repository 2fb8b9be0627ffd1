/-! acts on both sides: what holds behind them -/
section ACT3
variable {X S X' S' : Nat → Int32} {N K B : Nat} {r r' : Int32}
theorem ZC_pass {a : Int32} (h : InvC X N K B) (hq : passQ X a r X') : InvC X' N K B := by
  refine ⟨Inv_pass eC_g h.1 hq, ?_⟩
  rcases hq with ⟨-, -, rfl⟩ | ⟨-, -, ⟨-, -, rfl⟩ | ⟨-, -, rfl⟩⟩
  · exact h.2
  · exact h.2
  · exact ZbX_cg (fun b hb => pk_un (by omega)) h.2
theorem ZC_appl {n : Int32} (h : InvC X N K B) (hq : applQ X K n r X') : InvC X' N K B := by
  have hK := h.1.1.2.2.2.1
  refine ⟨Inv_appl eC_g h.1 hq, ?_⟩
  rcases hq with ⟨-, -, rfl⟩ | ⟨i, hi, -, ⟨-, -, rfl⟩ | ⟨-, -, rfl, -⟩⟩
  · exact h.2
  · exact h.2
  · exact ZbX_cg (fun b hb => by rw [pk_un (by omega), pk_un (by omega)]) h.2
theorem ZC_rip {n : Int32} (h : InvC X N K B) (hq : ripQ eC X N n r X') : InvC X' N K B := by
  have hN := h.1.1.2.1
  refine ⟨Inv_rip eC_g h.1 hq, ?_⟩
  rcases hq with ⟨-, -, rfl⟩ | ⟨k, hk, -, ⟨-, -, rfl⟩ | ⟨-, -, rfl⟩⟩
  · exact h.2
  · exact h.2
  · exact ZbX_cg (fun b hb => by rw [pk_un (by omega), loseE_n (by omega) (by omega)]) h.2
theorem ZC_hear (h : InvC X N K B) (hq : hearQ bC eC X N K r X') : InvC X' N K B := by
  have hN := h.1.1.2.1
  have hK := h.1.1.2.2.2.1
  refine ⟨Inv_hear eC_g h.1 hq, ?_⟩
  rcases hq with ⟨-, -, rfl⟩ | ⟨i, hh, d, -, hi, -, -, hhN, hd, -, hq⟩
  · exact h.2
  · have hy : ∀ b, b < 162 → ∀ p, hearY X i hh d p (400 + b) = X (400 + b) := fun b hb p => hearY_o (by omega) (by omega) (fun q hq => by omega)
    rcases hq with ⟨-, rfl⟩ | ⟨-, ⟨-, rfl⟩ | ⟨-, rfl⟩⟩
    · exact ZbX_cg (fun b hb => by rw [pk_un (by omega), hy b hb]) h.2
    · exact ZbX_cg (fun b hb => by rw [pk_un (by omega), loseE_n (by omega) (by omega), hy b hb]) h.2
    · exact ZbX_cg (fun b hb => by rw [pk_un (by omega), backG_n (by omega) (by omega), loseE_n (by omega) (by omega), hy b hb]) h.2
theorem ZC_dig {n : Int32} (h : InvC X N K B) (hq : digQ finC eC X N K n r X') : ∃ K', InvC X' N K' B := by
  have hN := h.1.1.2.1
  rcases hq with ⟨-, -, rfl⟩ | ⟨k, hk, -, ⟨-, -, rfl⟩ | ⟨-, z, l1, l2, -, ⟨-, -, rfl⟩ | ⟨hp, ⟨-, -, rfl⟩ | ⟨hb, -, rfl⟩⟩⟩⟩
  · exact ⟨K, h⟩
  · exact ⟨K, h⟩
  · exact ⟨K, h⟩
  · exact ⟨K, h⟩
  · obtain ⟨g1, g2⟩ := finC_F hN hk h.1.1.2.2.1 hb h.2
    exact ⟨_, Inv_dgF eC_g h.1 hk hp hb g1, g2⟩
theorem ZM_dig {n : Int32} (h : InvX eM S N K B) (hq : digQ finM eM S N K n r S') : ∃ K', InvX eM S' N K' B := by
  have hN := h.1.2.1
  rcases hq with ⟨-, -, rfl⟩ | ⟨k, hk, -, ⟨-, -, rfl⟩ | ⟨-, z, l1, l2, -, ⟨-, -, rfl⟩ | ⟨hp, ⟨-, -, rfl⟩ | ⟨hb, -, rfl⟩⟩⟩⟩
  · exact ⟨K, h⟩
  · exact ⟨K, h⟩
  · exact ⟨K, h⟩
  · exact ⟨K, h⟩
  · exact ⟨_, Inv_dgF eM_g h hk hp hb (finM_F hN hk h.1.2.2.1)⟩
theorem P_pass {a : Int32} (h : PairR X S N K B) (q1 : passQ X a r X') (q2 : passQ S a r' S') : r = r' ∧ ∃ N' K', PairR X' S' N' K' B := ⟨(PR_pass h q1 q2).1, N, K, OutR_p (PR_pass h q1 q2).2 (ZC_pass h.1 q1) (Inv_pass eM_g h.2.1 q2)⟩
theorem P_rip {n : Int32} (h : PairR X S N K B) (q1 : ripQ eC X N n r X') (q2 : ripQ eM S N n r' S') : r = r' ∧ ∃ N' K', PairR X' S' N' K' B := ⟨(PR_rip h q1 q2).1, N, K, OutR_p (PR_rip h q1 q2).2 (ZC_rip h.1 q1) (Inv_rip eM_g h.2.1 q2)⟩
theorem P_appl {n : Int32} (h : PairR X S N K B) (q1 : applQ X K n r X') (q2 : applQ S K n r' S') : r = r' ∧ ∃ N' K', PairR X' S' N' K' B := ⟨(PR_appl h q1 q2).1, N, K, OutR_p (PR_appl h q1 q2).2 (ZC_appl h.1 q1) (Inv_appl eM_g h.2.1 q2)⟩
theorem P_lay {n : Int32} (h : PairR X S N K B) (q1 : layQ eC X N n r X') (q2 : layQ eM S N n r' S') : r = r' ∧ PairR X' S' N K B := ⟨(PR_lay h q1 q2).1, OutR_p (PR_lay h q1 q2).2 (Inv_layC h.1 q1) (Inv_lay eM_g h.2.1 q2)⟩
theorem P_hear (h : PairR X S N K B) (q1 : hearQ bC eC X N K r X') (q2 : hearQ bM eM S N K r' S') : r = r' ∧ ∃ N' K', PairR X' S' N' K' B := ⟨(PR_hear h q1 q2).1, N, K, OutR_p (PR_hear h q1 q2).2 (ZC_hear h.1 q1) (Inv_hear eM_g h.2.1 q2)⟩
theorem P_dig {n : Int32} (h : PairR X S N K B) (q1 : digQ finC eC X N K n r X') (q2 : digQ finM eM S N K n r' S') : r = r' ∧ ∃ N' K', PairR X' S' N' K' B := by
  obtain ⟨e, o⟩ := PR_dig h q1 q2
  obtain ⟨K1, i1⟩ := ZC_dig h.1 q1
  obtain ⟨K2, i2⟩ := ZM_dig h.2.1 q2
  exact ⟨e, N, K1, OutR_p o i1 i2⟩
theorem P_set {w v : Int32} (h : PairR X S N K B) (q1 : setQ X w v r X') (q2 : setQ S w v r' S') : r = r' ∧ ∃ N' K', PairR X' S' N' K' B := by
  have z : ZbX X' K := by
    rcases q1 with ⟨-, -, rfl⟩ | ⟨j, hj, -, -, -, -, rfl⟩
    · exact h.1.2
    · exact ZbX_cg (fun b hb => pk_un (by omega)) h.1.2
  exact ⟨(PR_set h q1 q2).1, N, K, OutR_p (PR_set h q1 q2).2 ⟨Inv_set eC_g h.1.1 q1, z⟩ (Inv_set eM_g h.2.1 q2)⟩
theorem PairR.mono (h : PairR X S N K B) {B' : Nat} (hB : B ≤ B') (hB2 : B' < 2 ^ 31) : PairR X S N K B' := ⟨⟨h.1.1.mono hB hB2, h.1.2⟩, h.2.1.mono hB hB2, h.2.2⟩
theorem P_give {n a : Int32} (h : PairR X S N K B) (hB : B + 9999 < 2 ^ 31) (q1 : giveQ X N n a r X') (q2 : giveQ S N n a r' S') : r = r' ∧ ∃ N' K', PairR X' S' N' K' (B + 9999) := by
  have hN := h.1.1.1.2.1
  have z : ZbX X' K := by
    rcases q1 with ⟨-, -, rfl⟩ | ⟨k, hk, -, -, -, ⟨-, -, rfl⟩ | ⟨-, -, rfl⟩⟩
    · exact h.1.2
    · exact h.1.2
    · exact ZbX_cg (fun b hb => pk_un (by omega)) h.1.2
  exact ⟨(PR_give h q1 q2).1, N, K, OutR_p (PR_give h q1 q2).2 ⟨Inv_give eC_g h.1.1 hB q1, z⟩ (Inv_give eM_g h.2.1 hB q2)⟩
theorem P_blk {p t : Int32} (h : PairR X S N K B) (q1 : blkQ eC X p t r X') (q2 : blkQ eM S p t r' S') : r = r' ∧ ∃ N' K', PairR X' S' N' K' B := by
  obtain ⟨⟨e, o⟩, i1, z1, i2⟩ := PR_blk h q1 q2
  exact ⟨e, N, K, OutR_p o ⟨i1, z1⟩ i2⟩
theorem FPe_R (h : PairR X S N K B) (p : Int32) : FPe eM S p ↔ FPe eC X p := ⟨fun ⟨j, h1, h2, h3, h4⟩ => ⟨j, h1, h2, (o_f h.1.1 h.2.2.2 (by omega)).mp h3, (o_f h.1.1 h.2.2.2 (by omega)).mp h4⟩, fun ⟨j, h1, h2, h3, h4⟩ => ⟨j, h1, h2, (o_f h.1.1 h.2.2.2 (by omega)).mpr h3, (o_f h.1.1 h.2.2.2 (by omega)).mpr h4⟩⟩
theorem netQ_P {e : Enc} {Y Y' : Nat → Int32} {p0 p1 p2 t u : Int32} (q : netQ e Y N p0 p1 p2 t u r Y') : (¬ netGood p0 p1 p2 t u ∧ r = -1000001 ∧ Y' = Y) ∨ (netGood p0 p1 p2 t u ∧ ¬ (FPe e Y p0 ∧ FPe e Y p1 ∧ (p2 = -1 ∨ FPe e Y p2)) ∧ r = -1000002 ∧ Y' = Y) ∨ (netGood p0 p1 p2 t u ∧ (FPe e Y p0 ∧ FPe e Y p1 ∧ (p2 = -1 ∨ FPe e Y p2)) ∧ 6 ≤ N ∧ r = -1000003 ∧ Y' = Y) ∨ (netGood p0 p1 p2 t u ∧ (FPe e Y p0 ∧ FPe e Y p1 ∧ (p2 = -1 ∨ FPe e Y p2)) ∧ N < 6 ∧ r = nI N ∧ ∃ j0 j1 o2, j0 < 81 ∧ j1 < 81 ∧ (∀ j, o2 = some j → j < 81) ∧ p0 = nI j0 ∧ p1 = nI j1 ∧ p2 = ngh o2 ∧ NetP e Y N j0 j1 o2 t u Y') := by
  rcases q with q | ⟨g, q | ⟨f, q | ⟨hN, hr, j0, j1, h0, h1, rfl, rfl, ⟨rfl, rfl⟩ | ⟨j2, h2, rfl, rfl⟩⟩⟩⟩
  · exact Or.inl q
  · exact Or.inr (Or.inl ⟨g, q⟩)
  · exact Or.inr (Or.inr (Or.inl ⟨g, f, q⟩))
  · exact Or.inr (Or.inr (Or.inr ⟨g, f, hN, hr, j0, j1, none, h0, h1, fun j e => (by cases e), rfl, rfl, rfl, NetP_0 hN h0 h1⟩))
  · exact Or.inr (Or.inr (Or.inr ⟨g, f, hN, hr, j0, j1, some j2, h0, h1, fun j e => (by cases e; exact h2), rfl, rfl, rfl, NetP_2 hN h0 h1 h2⟩))
theorem FPe_f {e : Enc} {Y : Nat → Int32} {j : Nat} (hj : j < 81) (h : FPe e Y (nI j)) : Y (7 + j) = e.1 ∧ Y (7 + (j + 81)) = e.1 := by
  obtain ⟨q, h1, h2, h3, h4⟩ := h
  obtain rfl := (nI_eq (by omega) (by omega)).mp h2
  exact ⟨h3, h4⟩
theorem free_T {e : Enc} {Y : Nat → Int32} {j0 j1 : Nat} {o2 : Option Nat} (h0 : j0 < 81) (h1 : j1 < 81) (h2 : ∀ j, o2 = some j → j < 81) (f : FPe e Y (nI j0) ∧ FPe e Y (nI j1) ∧ (ngh o2 = -1 ∨ FPe e Y (ngh o2))) : ∀ a, a < 81 → (a = j0 ∨ a = j1 ∨ o2 = some a) → Y (7 + a) = e.1 ∧ Y (7 + (a + 81)) = e.1 := fun a ha hT => by
  rcases hT with rfl | rfl | hT
  · exact FPe_f h0 f.1
  · exact FPe_f h1 f.2.1
  · have := f.2.2
    rw [hT] at this
    rcases this with z | z
    · exact absurd z.symm (m1_ne (by omega))
    · exact FPe_f ha z
theorem ngh_inj {o o' : Option Nat} (h : ∀ j, o = some j → j < 81) (h' : ∀ j, o' = some j → j < 81) (e : ngh o = ngh o') : o = o' := by
  cases o with
  | none =>
    cases o' with
    | none => rfl
    | some j => exact absurd e (m1_ne (by have := h' j rfl; omega))
  | some i =>
    cases o' with
    | none => exact absurd e.symm (m1_ne (by have := h i rfl; omega))
    | some j => rw [(nI_eq (by have := h i rfl; omega) (by have := h' j rfl; omega)).mp e]
theorem P_net {p0 p1 p2 t u : Int32} (h : PairR X S N K B) (hB : B + 9999 < 2 ^ 31) (q1 : netQ eC X N p0 p1 p2 t u r X') (q2 : netQ eM S N p0 p1 p2 t u r' S') : r = r' ∧ ∃ N' K', PairR X' S' N' K' (B + 9999) := by
  have hff : (FPe eM S p0 ∧ FPe eM S p1 ∧ (p2 = -1 ∨ FPe eM S p2)) ↔ (FPe eC X p0 ∧ FPe eC X p1 ∧ (p2 = -1 ∨ FPe eC X p2)) := by rw [FPe_R h, FPe_R h, FPe_R h]
  have hrf : ∃ N' K', PairR X S N' K' (B + 9999) := ⟨N, K, h.mono (by omega) hB⟩
  have q2 := netQ_P q2
  rw [hff] at q2
  rcases netQ_P q1 with ⟨a1, rfl, rfl⟩ | ⟨a1, a2, rfl, rfl⟩ | ⟨a1, a2, a3, rfl, rfl⟩ | ⟨a1, a2, a3, rfl, j0, j1, o2, h0, h1, h2, e0, e1, e2, hP⟩ <;> rcases q2 with ⟨b1, rfl, rfl⟩ | ⟨b1, b2, rfl, rfl⟩ | ⟨b1, b2, b3, rfl, rfl⟩ | ⟨b1, b2, b3, rfl, i0, i1, o3, g0, g1, g2, f0, f1, f2, hQ⟩
  · exact ⟨rfl, hrf⟩
  · exact absurd b1 a1
  · exact absurd b1 a1
  · exact absurd b1 a1
  · exact absurd a1 b1
  · exact ⟨rfl, hrf⟩
  · exact absurd b2 a2
  · exact absurd b2 a2
  · exact absurd a1 b1
  · exact absurd a2 b2
  · exact ⟨rfl, hrf⟩
  · exact absurd b3 (by omega)
  · exact absurd a1 b1
  · exact absurd a2 b2
  · exact absurd a3 (by omega)
  · obtain rfl := (nI_eq (by omega) (by omega)).mp (e0.symm.trans f0)
    obtain rfl := (nI_eq (by omega) (by omega)).mp (e1.symm.trans f1)
    obtain rfl := ngh_inj h2 g2 (e2.symm.trans f2)
    subst e0
    subst e1
    subst e2
    obtain ⟨-, -, -, -, -, -, s1, s2, u1, u2⟩ := a1
    have hs : ∃ q, q ≤ 9 ∧ t = nI q := by
      obtain ⟨q, hq, rfl⟩ := nI_of s1
      exact ⟨q, (nI_leI hq (by decide)).mp s2, rfl⟩
    have hu : ∃ q, q ≤ 9999 ∧ u = nI q := by
      obtain ⟨q, hq, rfl⟩ := nI_of u1
      exact ⟨q, (nI_leI hq (by decide)).mp u2, rfl⟩
    have fX := free_T h0 h1 h2 a2
    have fS := free_T h0 h1 h2 (hff.mpr a2)
    have IX := Inv_net eC_g h.1.1 hB a3 h0 h1 h2 hs hu fX hP
    have IS := Inv_net eM_g h.2.1 hB a3 h0 h1 h2 hs hu fS hQ
    obtain ⟨x5, xo, ⟨v0, v1, v2, v3, v4, v5, v6, v7, v8⟩, xT, xF⟩ := hP
    obtain ⟨y5, yo, ⟨w0, w1, w2, w3, w4, w5, w6, w7, w8⟩, yT, yF⟩ := hQ
    have hR := h.2.2.2
    have hK := h.1.1.1.2.2.2.1
    refine ⟨rfl, N + 1, K, ⟨IX, ZbX_cg (fun a ha => xo _ (by omega)) h.1.2⟩, IS, fun k k1 k2 q q1 q2 => (yo _ (by omega)).trans (h.2.2.1 k (by omega) k2 q q1 q2), fun j hj => ?_, fun a ha => ?_, fun k hk q hq => ?_, fun i hi q hq => ?_, fun i hi a ha => ?_⟩
    · by_cases e5 : j = 5
      · subst e5; rw [y5, x5]
      · rw [yo j (by omega), xo j (by omega)]; exact hR.1 j hj
    · obtain ⟨b, hb, hab⟩ : ∃ b, b < 81 ∧ (a = b ∨ a = b + 81) := ⟨a % 81, by omega, by omega⟩
      by_cases T : b = j0 ∨ b = j1 ∨ o2 = some b
      · rcases hab with rfl | rfl
        · rw [(yT a hb T).1, (xT a hb T).1, mapO_p a3]
        · rw [(yT b hb T).2, (xT b hb T).2, mapO_p a3]
      · rcases hab with rfl | rfl
        · rw [(yF a hb T).1, (xF a hb T).1]; exact hR.2.1 a ha
        · rw [(yF b hb T).2, (xF b hb T).2]; exact hR.2.1 (b + 81) ha
    · by_cases ek : k = N
      · subst ek
        rcases (show q = 0 ∨ q = 1 ∨ q = 2 ∨ q = 3 ∨ q = 4 ∨ q = 5 ∨ q = 6 ∨ q = 7 ∨ q = 8 by omega) with rfl | rfl | rfl | rfl | rfl | rfl | rfl | rfl | rfl
        · exact w0.trans v0.symm
        · exact w1.trans v1.symm
        · exact w2.trans v2.symm
        · exact w3.trans v3.symm
        · exact w4.trans v4.symm
        · exact w5.trans v5.symm
        · exact w6.trans v6.symm
        · exact w7.trans v7.symm
        · exact w8.trans v8.symm
      · rw [yo _ (by omega), xo _ (by omega)]; exact hR.2.2.1 k (by omega) q hq
    · rw [yo _ (by omega), xo _ (by omega)]; exact hR.2.2.2.1 i hi q hq
    · rw [bM_cg (yo _ (by omega)), bC_cg (xo _ (by omega))]; exact hR.2.2.2.2 i hi a ha
theorem rsn_det {b : Prop} {a : Int32} (h1 : rsn b a r) (h2 : rsn b a r') : r = r' := by
  rcases h1 with ⟨a1, rfl⟩ | ⟨a1, a2, rfl⟩ | ⟨a1, a2, rfl⟩ <;> rcases h2 with ⟨b1, rfl⟩ | ⟨b1, b2, rfl⟩ | ⟨b1, b2, rfl⟩
  · rfl
  · exact absurd b1 a1
  · exact absurd b1 a1
  · exact absurd a1 b1
  · rfl
  · exact absurd a2 b2
  · exact absurd a1 b1
  · exact absurd b2 a2
  · rfl
theorem P_ord {L v : Nat} (h : PairR X S N K B) (q1 : ordQ bC finC eC X N K L v r X') (q2 : ordQ bM finM eM S N K L v r' S') : r = r' ∧ ∃ K', PairR X' S' N K' B := by
  obtain ⟨K1, i1⟩ := Inv_ordC h.1 q1
  obtain ⟨K2, i2⟩ := Inv_ordM h.2.1 q2
  obtain ⟨a, q1⟩ := q1
  obtain ⟨b, q2⟩ := q2
  have key : a = b → rsn True a r → rsn True b r' → r = r' := fun e x y => by subst e; exact rsn_det x y
  have fin : OutR X' S' N → ∃ K', PairR X' S' N K' B := fun o => ⟨K1, OutR_p o i1 i2⟩
  rcases q1 with ⟨l1, p1, s1⟩ | ⟨l1, p1, s1⟩ | ⟨l1, p1, s1⟩ | ⟨l1, p1, s1⟩ | ⟨l1, p1, s1⟩ | ⟨l1, p1, s1⟩ <;> rcases q2 with ⟨l2, p2, s2⟩ | ⟨l2, p2, s2⟩ | ⟨l2, p2, s2⟩ | ⟨l2, p2, s2⟩ | ⟨l2, p2, s2⟩ | ⟨l2, p2, s2⟩ <;> first
    | (exfalso; omega)
    | (obtain ⟨rfl, o⟩ := PR_hear h p1 p2; exact ⟨rsn_det s1 s2, fin o⟩)
    | (obtain ⟨rfl, o⟩ := PR_pass h p1 p2; exact ⟨rsn_det s1 s2, fin o⟩)
    | (obtain ⟨rfl, o⟩ := PR_appl h p1 p2; exact ⟨rsn_det s1 s2, fin o⟩)
    | (obtain ⟨rfl, o⟩ := PR_lay h p1 p2; exact ⟨rsn_det s1 s2, fin o⟩)
    | (obtain ⟨rfl, o⟩ := PR_dig h p1 p2; exact ⟨rsn_det s1 s2, fin o⟩)
    | (obtain ⟨rfl, o⟩ := PR_rip h p1 p2; exact ⟨rsn_det s1 s2, fin o⟩)
end ACT3
/-! runs of orders on both sides -/
section RUN3
variable {X S : Nat → Int32} {N K0 B : Nat} {tx : Nat → Nat} {ln : Nat}
theorem RunS_rel (h : PairR X S N K0 B) : ∀ {i p p' K K' : Nat} {Y Z : Nat → Int32}, RunS bC finC eC tx ln X N K0 i p Y K → RunS bM finM eM tx ln S N K0 i p' Z K' → p = p' ∧ K = K' ∧ PairR Y Z N K B
  | 0, p, p', K, K', Y, Z, h1, h2 => by
    obtain ⟨rfl, rfl, rfl⟩ := h1
    obtain ⟨rfl, rfl, rfl⟩ := h2
    exact ⟨rfl, rfl, h⟩
  | i + 1, p, p', K, K', Y, Z, h1, h2 => by
    obtain ⟨p1, Y1, K1, m1, a1, a2, a3, rfl, a5, a6, a7⟩ := h1
    obtain ⟨p2, Z1, K2, m2, b1, b2, b3, rfl, b5, b6, b7⟩ := h2
    obtain ⟨rfl, rfl, hp⟩ := RunS_rel h a1 b1
    rw [a3] at b3
    have e : m1 = m2 := by have := Option.some.inj b3; omega
    subst e
    obtain ⟨-, K3, hp3⟩ := P_ord hp a5 b5
    have e1 : K = K3 := (nI_eq (by omega) (by have := hp3.1.1.1.2.2.2.1; omega)).mp (a6.symm.trans hp3.1.1.1.2.2.1)
    have e2 : K' = K3 := (nI_eq (by omega) (by have := hp3.1.1.1.2.2.2.1; omega)).mp (b6.symm.trans hp3.2.1.1.2.2.1)
    subst e1
    subst e2
    exact ⟨rfl, rfl, hp3⟩
theorem RunS_pre {bt : (Nat → Int32) → Nat → Nat → Bool} {fin : (Nat → Int32) → Nat → Nat → Nat → List Nat → Nat → Int32} {e : Enc} {X0 : Nat → Int32} : ∀ {i i' p' : Nat} {Y : Nat → Int32} {K' : Nat}, RunS bt fin e tx ln X0 N K0 i' p' Y K' → i < i' → ∃ p Z K m Z2, RunS bt fin e tx ln X0 N K0 i p Z K ∧ p < ln ∧ endO tx ln p = some (p + 1 + m) ∧ ordQ bt fin e Z N K (tx p) (numL tx (p + 1) m) (nI 0) Z2
  | i, 0, p', Y, K', _, hi => absurd hi (Nat.not_lt_zero i)
  | i, i' + 1, p', Y, K', h, hi => by
    obtain ⟨p, Z, K, m, h1, h2, h3, rfl, h4, -⟩ := h
    by_cases e : i = i'
    · subst e; exact ⟨p, Z, K, m, Y, h1, h2, h3, h4⟩
    · exact RunS_pre h1 (by omega)
/-- an end is no place to go on from -/
def RunX (bt : (Nat → Int32) → Nat → Nat → Bool) (fin : (Nat → Int32) → Nat → Nat → Nat → List Nat → Nat → Int32) (e : Enc) (tx : Nat → Nat) (ln N p K : Nat) (Y : Nat → Int32) (rr : Int32) (Y' : Nat → Int32) : Prop := (ln ≤ p ∧ rr = nI 0 ∧ Y' = Y) ∨ (p < ln ∧ endO tx ln p = none ∧ rr = nI 1 ∧ Y' = Y) ∨ (p < ln ∧ ∃ m, endO tx ln p = some (p + 1 + m) ∧ ordQ bt fin e Y N K (tx p) (numL tx (p + 1) m) rr Y' ∧ ¬ rr = 0)
theorem RunX_rel {p K : Nat} {Y Z Y' Z' : Nat → Int32} {rr rr' : Int32} (h : PairR Y Z N K B) (h1 : RunX bC finC eC tx ln N p K Y rr Y') (h2 : RunX bM finM eM tx ln N p K Z rr' Z') : rr = rr' ∧ ∃ K', PairR Y' Z' N K' B := by
  rcases h1 with ⟨a1, rfl, rfl⟩ | ⟨a1, a2, rfl, rfl⟩ | ⟨a1, m, a2, a3, a4⟩ <;> rcases h2 with ⟨b1, rfl, rfl⟩ | ⟨b1, b2, rfl, rfl⟩ | ⟨b1, m', b2, b3, b4⟩
  · exact ⟨rfl, K, h⟩
  · omega
  · omega
  · omega
  · exact ⟨rfl, K, h⟩
  · rw [a2] at b2; cases b2
  · omega
  · rw [a2] at b2; cases b2
  · rw [a2] at b2
    have e : m = m' := by have := Option.some.inj b2; omega
    subst e
    exact P_ord h a3 b3
theorem RunE_rel {i i' p p' : Nat} {rr rr' : Int32} {Y' Z' : Nat → Int32} (h : PairR X S N K0 B) (h1 : RunE bC finC eC tx ln X N K0 i p rr Y') (h2 : RunE bM finM eM tx ln S N K0 i' p' rr' Z') : i = i' ∧ p = p' ∧ rr = rr' ∧ ∃ K', PairR Y' Z' N K' B := by
  obtain ⟨Y, K, s1, x1⟩ := h1
  obtain ⟨Z, K', s2, x2⟩ := h2
  rcases Nat.lt_trichotomy i i' with hlt | rfl | hlt
  · exfalso
    obtain ⟨q, Z1, K1, m, Z2, b1, b2, b3, b4⟩ := RunS_pre s2 hlt
    obtain ⟨rfl, rfl, hp⟩ := RunS_rel h s1 b1
    rcases x1 with ⟨a1, -, -⟩ | ⟨-, a2, -, -⟩ | ⟨-, m', a2, a3, a4⟩
    · omega
    · rw [a2] at b3; cases b3
    · rw [a2] at b3
      have e : m' = m := by have := Option.some.inj b3; omega
      subst e
      obtain ⟨e, -⟩ := P_ord hp a3 b4
      exact a4 (by rw [e]; rfl)
  · obtain ⟨rfl, rfl, hp⟩ := RunS_rel h s1 s2
    exact ⟨rfl, rfl, RunX_rel hp x1 x2⟩
  · exfalso
    obtain ⟨q, Y1, K1, m, Y2, b1, b2, b3, b4⟩ := RunS_pre s1 hlt
    obtain ⟨rfl, rfl, hp⟩ := RunS_rel h b1 s2
    rcases x2 with ⟨a1, -, -⟩ | ⟨-, a2, -, -⟩ | ⟨-, m', a2, a3, a4⟩
    · omega
    · rw [a2] at b3; cases b3
    · rw [a2] at b3
      have e : m' = m := by have := Option.some.inj b3; omega
      subst e
      obtain ⟨e, -⟩ := P_ord hp b4 a3
      exact a4 (by rw [← e]; rfl)
theorem Flt_rel {w r r' : Int32} (h : PairR X S N K0 B) (h1 : FltQ bC finC eC tx ln X N K0 w r) (h2 : FltQ bM finM eM tx ln S N K0 w r') : r = r' := by
  rcases h1 with ⟨a1, rfl⟩ | ⟨b, hb, rfl, i, p, rr, Y', e1, a2⟩ <;> rcases h2 with ⟨c1, rfl⟩ | ⟨b', hb', eb, i', p', rr', Z', e2, c2⟩
  · rfl
  · exact absurd ⟨b', hb', eb⟩ a1
  · exact absurd ⟨b, hb, rfl⟩ c1
  · obtain rfl := (nI_eq (by omega) (by omega)).mp eb
    obtain ⟨-, rfl, rfl, -⟩ := RunE_rel h e1 e2
    rcases a2 with ⟨a2, rfl⟩ | ⟨a2, a3, rfl⟩ | ⟨a2, a3, rfl⟩ <;> rcases c2 with ⟨c2, rfl⟩ | ⟨c2, c3, rfl⟩ | ⟨c2, c3, rfl⟩ <;> first | rfl | exact absurd a2 c2 | exact absurd c2 a2 | omega
theorem Ply_rel {r r' : Int32} {Y' Z' : Nat → Int32} (h : PairR X S N K0 B) (h1 : PlyQ bC finC eC tx ln X N K0 r Y') (h2 : PlyQ bM finM eM tx ln S N K0 r' Z') : r = r' ∧ ∃ N' K', PairR Y' Z' N' K' B := by
  obtain ⟨i, p, rr, e1, a⟩ := h1
  obtain ⟨i', p', rr', e2, c⟩ := h2
  obtain ⟨rfl, rfl, rfl, K', hp⟩ := RunE_rel h e1 e2
  refine ⟨?_, N, K', hp⟩
  rcases a with ⟨a, rfl⟩ | ⟨a, rfl⟩ <;> rcases c with ⟨c, rfl⟩ | ⟨c, rfl⟩
  · rfl
  · exact absurd a c
  · exact absurd c a
  · rfl
end RUN3
