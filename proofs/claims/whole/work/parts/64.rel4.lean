/-! answers of both sides: routes, the best order, what is told -/
section REL4
variable {X S : Nat → Int32} {N K B : Nat} {r r' : Int32}
theorem PairR_lv {Y : Nat → Int32} (h : PairR X S N K B) (hl : LvX X Y N K) : PairR Y S N K B := ⟨InvC_lv h.1 hl, h.2.1, h.2.2.1, Rel_lv h.2.2.2 hl⟩
theorem PairR_S {T : Nat → Int32} (h : PairR X S N K B) (hT : ∀ j, j < 379 → T j = S j) : PairR X T N K B := ⟨h.1, InvX_cg eM_g h.2.1 hT, fun k h1 h2 t h3 h4 => (hT _ (by omega)).trans (h.2.2.1 k h1 h2 t h3 h4), Rel_S h.1.1.1.2.1 h.1.1.1.2.2.2.1 h.2.2.2 hT⟩
theorem rtQ_rel {n d : Int32} {f f' : Nat → List Nat → Int32} (h : PairR X S N K B) (hf : ∀ z L, (∀ a, a ∈ L → a < 162) → f z L = f' z L) (h1 : rtQ eC X N n d f r) (h2 : rtQ eM S N n d f' r') : r = r' := by
  have hN := h.1.1.1.2.1
  have hR := h.2.2.2
  rcases h1 with ⟨a1, rfl⟩ | ⟨k, b, hk, hb, rfl, rfl, a2⟩ <;> rcases h2 with ⟨c1, rfl⟩ | ⟨k', b', hk', hb', ek, eb, c2⟩
  · rfl
  · exact absurd ⟨⟨k', hk', ek⟩, ⟨b', hb', eb⟩⟩ a1
  · exact absurd ⟨⟨k, hk, rfl⟩, ⟨b, hb, rfl⟩⟩ c1
  · obtain rfl := (nI_eq (by omega) (by omega)).mp ek
    obtain rfl := (nI_eq (by omega) (by omega)).mp eb
    rw [hR.2.2.1 k hk 5 (by omega), r_rt h.1.1 hR hk] at c2
    rcases a2 with ⟨a2, rfl⟩ | ⟨a2, ⟨a3, rfl⟩ | ⟨z, l1, l2, a3, rfl⟩⟩ <;> rcases c2 with ⟨c2, rfl⟩ | ⟨c2, ⟨c3, rfl⟩ | ⟨z', m1, m2, c3, rfl⟩⟩ <;> first
      | rfl
      | exact absurd c2 a2
      | exact absurd a2 c2
      | (rw [a3] at c3; cases c3; done)
      | (rw [a3] at c3; cases c3; exact hf z _ (fun a ha => ((rtX_ok h.1.1.1 hk a3).2.2.2.2 a ha).1))
theorem wa_rel {k j : Nat} (h : PairR X S N K B) (hk : k < N) : fnd (waP S (nI (1 + k)) j) 162 = fnd (fun a => decide (X (7 + a) = nI k ∧ cnt (fun b => decide (X (7 + b) = nI k)) a = j)) 162 := by
  have hN := h.1.1.1.2.1
  refine fnd_cg (fun a ha => ?_)
  unfold waP
  have e : cnt (fun b => decide (S (7 + b) = nI (1 + k))) a = cnt (fun b => decide (X (7 + b) = nI k)) a := cnt_congr (fun b hb => decide_eq_decide.mpr (o_w (k := k) h.1.1 h.2.2.2 (by omega) (by omega)))
  rw [e]
  exact decide_eq_decide.mpr (and_congr (o_w (k := k) h.1.1 h.2.2.2 ha (by omega)) Iff.rfl)
theorem cl_rel {j : Nat} (h : PairR X S N K B) (hj : j < 162) : (if X (7 + j) = -1 then -1000004 else X (7 + j)) = (if S (7 + j) = nI 0 then -1000004 else if S (7 + j) = nI 20 then nI 20 else S (7 + j) - nI 1) := by
  have hf : S (7 + j) = nI 0 ↔ X (7 + j) = -1 := o_f h.1.1 h.2.2.2 hj
  have h2 := o_20 h.1.1 h.2.2.2 hj
  by_cases e1 : X (7 + j) = -1
  · rw [if_pos e1, if_pos (hf.mpr e1)]
  · rw [if_neg e1, if_neg (fun z => e1 (hf.mp z))]
    by_cases e2 : X (7 + j) = nI 20
    · rw [if_pos (h2.mpr e2), e2]
    · rw [if_neg (fun z => e2 (h2.mp z)), h.2.2.2.2.1 j hj]
      unfold mapO
      rw [if_neg e2, Int32.add_sub_cancel]
theorem LayT_rel {f : Nat → Nat} (h : PairR X S N K B) : ∀ {i c c' : Nat} {Y Z : Nat → Int32}, LayT eC N f X i c Y → LayT eM N f S i c' Z → c = c' ∧ PairR Y Z N K B
  | 0, c, c', Y, Z, h1, h2 => by
    obtain ⟨rfl, rfl⟩ := h1
    obtain ⟨rfl, rfl⟩ := h2
    exact ⟨rfl, h⟩
  | i + 1, c, c', Y, Z, h1, h2 => by
    obtain ⟨c1, Y1, r1, a1, a2, rfl⟩ := h1
    obtain ⟨c2, Z1, r2, b1, b2, rfl⟩ := h2
    obtain ⟨rfl, hp⟩ := LayT_rel h a1 b1
    obtain ⟨rfl, hp2⟩ := P_lay hp a2 b2
    exact ⟨rfl, hp2⟩
theorem LayT_cg {e : Enc} {f g : Nat → Nat} : ∀ {i c : Nat} {Y : Nat → Int32}, (∀ q, q < i → f q = g q) → LayT e N f X i c Y → LayT e N g X i c Y
  | 0, c, Y, _, h => h
  | i + 1, c, Y, hq, h => by
    obtain ⟨c1, Y1, r1, a1, a2, a3⟩ := h
    exact ⟨c1, Y1, r1, LayT_cg (fun q h => hq q (by omega)) a1, by rw [← hq i (by omega)]; exact a2, a3⟩
theorem r_wl (h : PairR X S N K B) : ∀ n, n ≤ N → wlN S n = wlN X n
  | 0, _ => rfl
  | n + 1, hn => by
    show (if S (169 + 9 * n + 5) = 0 ∧ (wlN S n).length < 3 then wlN S n ++ [n] else wlN S n) = (if X (169 + 9 * n + 5) = 0 ∧ (wlN X n).length < 3 then wlN X n ++ [n] else wlN X n)
    rw [r_wl h n (by omega), h.2.2.2.2.2.1 n (by omega) 5 (by omega)]
/-- a row of the class's orders that is one of the model's -/
theorem JR_y {L : List Nat} {q o c' : Nat} {v : Int32} (h : PairR X S N K B) (hq : ∀ i, i < L.length → ordC (3 * q + i) = pmM L.length o i) (hl : ∀ i, i < L.length → pmM L.length o i < L.length) (h1 : JRQ X N K L q v) (h2 : JMQ S N L o c') : v = nI c' := by
  obtain ⟨Y', X2, g1, g2⟩ := h2
  rcases h1 with ⟨⟨i, hi, h1⟩, -⟩ | ⟨-, c, Y, X1, hv, ht, rfl⟩
  · rw [hq i hi] at h1
    have := hl i hi
    omega
  · have hp := PairR_S (PairR_lv h hv) g1
    obtain ⟨rfl, -⟩ := LayT_rel hp ht (LayT_cg (fun i hi => by rw [hq i hi]) g2)
    rfl
theorem JR_n {L : List Nat} {q : Nat} {v : Int32} (i : Nat) (hi : i < L.length) (hq : L.length ≤ ordC (3 * q + i)) (h1 : JRQ X N K L q v) : v = -1 := by
  rcases h1 with ⟨-, rfl⟩ | ⟨h1, -⟩
  · rfl
  · have := h1 i hi; omega
theorem nI_m1 {g : Nat} (hg : g ≤ 3) : -1 ≤ nI g ∧ ¬ nI g ≤ -1 := by
  rcases (show g = 0 ∨ g = 1 ∨ g = 2 ∨ g = 3 by omega) with rfl | rfl | rfl | rfl <;> exact ⟨by decide, by decide⟩
theorem bst_3 {f : Nat → Int32} {g : Nat → Nat} : ∀ m, 0 < m → (∀ q, q < m → f q = nI (g q)) → (∀ q, q < m → g q ≤ 3) → bst f m = (nI (bstM g m).1, (bstM g m).2)
  | 0, h, _, _ => absurd h (Nat.lt_irrefl 0)
  | m + 1, _, hf, hg => by
    have hs : bst f (m + 1) = if f m ≤ (bst f m).1 then bst f m else (f m, m) := rfl
    have hsM : bstM g (m + 1) = if g m ≤ (bstM g m).1 then bstM g m else (g m, m) := rfl
    by_cases e : m = 0
    · subst e
      rw [hs, hsM, hf 0 (by omega)]
      show (if nI (g 0) ≤ -1 then ((-1 : Int32), 0) else (nI (g 0), 0)) = (nI (if g 0 ≤ 0 then ((0 : Nat), 0) else (g 0, 0)).1, (if g 0 ≤ 0 then ((0 : Nat), 0) else (g 0, 0)).2)
      rw [if_neg (nI_m1 (hg 0 (by omega))).2]
      by_cases z : g 0 ≤ 0
      · rw [if_pos z, show g 0 = 0 by omega]
      · rw [if_neg z]
    · have ih := bst_3 m (by omega) (fun q hq => hf q (by omega)) (fun q hq => hg q (by omega))
      have hb := bstM_3 (f := g) (n := m) (fun q hq => hg q (by omega))
      have hgm := hg m (by omega)
      rw [hs, hsM, ih, hf m (by omega)]
      by_cases z : g m ≤ (bstM g m).1
      · rw [if_pos z, if_pos (nI_le z (by omega))]
      · rw [if_neg z, if_neg (fun y => z ((nI_leI (by omega) (by omega)).mp y))]
theorem bst_rel {L : List Nat} {f : Nat → Int32} {g : Nat → Nat} (h : PairR X S N K B) (hL : L.length ≤ 3) (hf : ∀ q, q < 6 → JRQ X N K L q (f q)) (hg : ∀ o, o < omx L.length → JMQ S N L o (g o)) : bst f 6 = (nI (bstM g (omx L.length)).1, rowM L.length (bstM g (omx L.length)).2) := by
  have hg3 : ∀ o, o < omx L.length → g o ≤ 3 := fun o ho => JMQ_3 hL (hg o ho)
  have hst : ∀ m, bst f (m + 1) = if f m ≤ (bst f m).1 then bst f m else (f m, m) := fun _ => rfl
  rcases (show L.length = 0 ∨ L.length = 1 ∨ L.length = 2 ∨ L.length = 3 by omega) with hn | hn | hn | hn
  · have ho : omx L.length = 1 := by rw [hn]; rfl
    rw [ho] at hg hg3 ⊢
    have hf0 : ∀ q, q < 6 → f q = nI 0 := fun q hq => by
      rcases hf q hq with ⟨⟨i, hi, -⟩, -⟩ | ⟨-, c, Y, X1, -, ht, e⟩
      · omega
      · rw [hn] at ht; rw [e, ht.1]
    have hg0 : g 0 = 0 := by
      obtain ⟨Y, X1, -, ht⟩ := hg 0 (by omega)
      rw [hn] at ht; exact ht.1
    have e1 : bst f 1 = (nI 0, 0) := by rw [hst, hf0 0 (by omega)]; rfl
    have e2 : bst f 2 = (nI 0, 0) := by rw [hst, e1, hf0 1 (by omega)]; rfl
    have e3 : bst f 3 = (nI 0, 0) := by rw [hst, e2, hf0 2 (by omega)]; rfl
    have e4 : bst f 4 = (nI 0, 0) := by rw [hst, e3, hf0 3 (by omega)]; rfl
    have e5 : bst f 5 = (nI 0, 0) := by rw [hst, e4, hf0 4 (by omega)]; rfl
    have e6 : bst f 6 = (nI 0, 0) := by rw [hst, e5, hf0 5 (by omega)]; rfl
    have eM : bstM g 1 = (0, 0) := by
      show (if g 0 ≤ 0 then ((0 : Nat), 0) else (g 0, 0)) = _
      rw [if_pos (by omega)]
    rw [e6, eM, hn]
    rfl
  · have ho : omx L.length = 1 := by rw [hn]; rfl
    rw [ho] at hg hg3 ⊢
    have g0 := hg3 0 (by omega)
    have f0 : f 0 = nI (g 0) := JR_y h (fun i hi => by rw [hn] at hi ⊢; rw [show i = 0 by omega]; rfl) (fun i hi => by rw [hn] at hi ⊢; rw [show i = 0 by omega]; decide) (hf 0 (by omega)) (hg 0 (by omega))
    have f1 : f 1 = nI (g 0) := JR_y h (fun i hi => by rw [hn] at hi ⊢; rw [show i = 0 by omega]; rfl) (fun i hi => by rw [hn] at hi ⊢; rw [show i = 0 by omega]; decide) (hf 1 (by omega)) (hg 0 (by omega))
    have fn : ∀ q, q < 6 → 2 ≤ q → f q = -1 := fun q hq h2 => by
      refine JR_n 0 (by omega) ?_ (hf q hq)
      rw [hn]
      rcases (show q = 2 ∨ q = 3 ∨ q = 4 ∨ q = 5 by omega) with rfl | rfl | rfl | rfl <;> decide
    have e1 : bst f 1 = (nI (g 0), 0) := by rw [hst, f0]; exact if_neg (nI_m1 g0).2
    have e2 : bst f 2 = (nI (g 0), 0) := by rw [hst, e1, f1]; exact if_pos (Int32.le_refl _)
    have e3 : bst f 3 = (nI (g 0), 0) := by rw [hst, e2, fn 2 (by omega) (by omega)]; exact if_pos (nI_m1 g0).1
    have e4 : bst f 4 = (nI (g 0), 0) := by rw [hst, e3, fn 3 (by omega) (by omega)]; exact if_pos (nI_m1 g0).1
    have e5 : bst f 5 = (nI (g 0), 0) := by rw [hst, e4, fn 4 (by omega) (by omega)]; exact if_pos (nI_m1 g0).1
    have e6 : bst f 6 = (nI (g 0), 0) := by rw [hst, e5, fn 5 (by omega) (by omega)]; exact if_pos (nI_m1 g0).1
    have eM : bstM g 1 = (g 0, 0) := by
      show (if g 0 ≤ 0 then ((0 : Nat), 0) else (g 0, 0)) = _
      by_cases z : g 0 ≤ 0
      · rw [if_pos z, show g 0 = 0 by omega]
      · rw [if_neg z]
    rw [e6, eM, hn]
    rfl
  · have ho : omx L.length = 2 := by rw [hn]; rfl
    rw [ho] at hg hg3 ⊢
    have g0 := hg3 0 (by omega)
    have g1 := hg3 1 (by omega)
    have i01 : ∀ i, i < 2 → i = 0 ∨ i = 1 := fun i hi => by omega
    have f0 : f 0 = nI (g 0) := JR_y h (fun i hi => by rw [hn] at hi ⊢; rcases i01 i hi with rfl | rfl <;> rfl) (fun i hi => by rw [hn] at hi ⊢; rcases i01 i hi with rfl | rfl <;> decide) (hf 0 (by omega)) (hg 0 (by omega))
    have f2 : f 2 = nI (g 1) := JR_y h (fun i hi => by rw [hn] at hi ⊢; rcases i01 i hi with rfl | rfl <;> rfl) (fun i hi => by rw [hn] at hi ⊢; rcases i01 i hi with rfl | rfl <;> decide) (hf 2 (by omega)) (hg 1 (by omega))
    have f1 : f 1 = -1 := JR_n 1 (by omega) (by rw [hn]; decide) (hf 1 (by omega))
    have f3 : f 3 = -1 := JR_n 1 (by omega) (by rw [hn]; decide) (hf 3 (by omega))
    have f4 : f 4 = -1 := JR_n 0 (by omega) (by rw [hn]; decide) (hf 4 (by omega))
    have f5 : f 5 = -1 := JR_n 0 (by omega) (by rw [hn]; decide) (hf 5 (by omega))
    have e1 : bst f 1 = (nI (g 0), 0) := by rw [hst, f0]; exact if_neg (nI_m1 g0).2
    have e2 : bst f 2 = (nI (g 0), 0) := by rw [hst, e1, f1]; exact if_pos (nI_m1 g0).1
    have eM1 : bstM g 1 = (g 0, 0) := by
      show (if g 0 ≤ 0 then ((0 : Nat), 0) else (g 0, 0)) = _
      by_cases z : g 0 ≤ 0
      · rw [if_pos z, show g 0 = 0 by omega]
      · rw [if_neg z]
    have eM : bstM g 2 = if g 1 ≤ g 0 then (g 0, 0) else (g 1, 1) := by
      show (if g 1 ≤ (bstM g 1).1 then bstM g 1 else (g 1, 1)) = _
      rw [eM1]
    have e3 : bst f 3 = if g 1 ≤ g 0 then (nI (g 0), 0) else (nI (g 1), 2) := by
      rw [hst, e2, f2]
      by_cases z : g 1 ≤ g 0
      · rw [if_pos z]; exact if_pos (nI_le z (by omega))
      · rw [if_neg z]; exact if_neg (fun y => z ((nI_leI (by omega) (by omega)).mp y))
    rw [eM, hn]
    by_cases z : g 1 ≤ g 0
    · rw [if_pos z] at e3 ⊢
      have e4 : bst f 4 = (nI (g 0), 0) := by rw [hst, e3, f3]; exact if_pos (nI_m1 g0).1
      have e5 : bst f 5 = (nI (g 0), 0) := by rw [hst, e4, f4]; exact if_pos (nI_m1 g0).1
      rw [hst, e5, f5]
      exact if_pos (nI_m1 g0).1
    · rw [if_neg z] at e3 ⊢
      have e4 : bst f 4 = (nI (g 1), 2) := by rw [hst, e3, f3]; exact if_pos (nI_m1 g1).1
      have e5 : bst f 5 = (nI (g 1), 2) := by rw [hst, e4, f4]; exact if_pos (nI_m1 g1).1
      rw [hst, e5, f5]
      exact if_pos (nI_m1 g1).1
  · have ho : omx L.length = 6 := by rw [hn]; rfl
    rw [ho] at hg hg3 ⊢
    have hfq : ∀ q, q < 6 → f q = nI (g q) := fun q hq => JR_y h (fun i hi => by rw [hn]; rfl) (fun i hi => pmM_lt (Or.inl ⟨hn, hq⟩) hi) (hf q hq) (hg q hq)
    rw [bst_3 6 (by omega) hfq hg3, hn]
    rfl
theorem BO_rel {a : Int32} (h : PairR X S N K B) (h1 : BOQ X N K a r) (h2 : BOM S N (wlN S N) a r') : r = r' := by
  rw [r_wl h N (Nat.le_refl N)] at h2
  have hL3 := wlN_3 (X := X) (n := N)
  generalize hL : wlN X N = L at h2 hL3
  unfold BOQ at h1
  rw [hL] at h1
  rcases h1 with ⟨a1, rfl⟩ | ⟨a1, f, hf, a2⟩ <;> rcases h2 with ⟨b1, rfl⟩ | ⟨b1, b2⟩
  · rfl
  · exact absurd a1 b1
  · exact absurd b1 a1
  · obtain ⟨b6, hb6⟩ : ∃ b6, b6 = bst f 6 := ⟨_, rfl⟩
    rw [← hb6] at a2
    rcases b2 with ⟨b2, rfl⟩ | ⟨b2, g, hg, b3⟩
    · rcases a2 with ⟨rfl, -⟩ | ⟨a2, ⟨a3, rfl⟩ | ⟨j, hj, rfl, -⟩⟩
      · exfalso
        apply b2
        rcases (show L.length = 0 ∨ L.length = 1 ∨ L.length = 2 ∨ L.length = 3 by omega) with e | e | e | e <;> rw [e] <;> decide
      · rfl
      · exact absurd (nI_lt hj (by omega)) b2
    · have hb := bst_rel h hL3 hf hg
      rw [← hb6] at hb
      clear hb6
      generalize hbm : bstM g (omx L.length) = bm at hb b3
      rcases a2 with ⟨rfl, rfl⟩ | ⟨a2, ⟨a3, rfl⟩ | ⟨j, hj, rfl, a4⟩⟩
      · rcases b3 with ⟨-, rfl⟩ | ⟨j, hj, e, -⟩
        · rw [hb]
        · exact absurd e (m1_ne (by omega))
      · exact absurd b2 (Int32.not_lt.mpr a3)
      · rcases b3 with ⟨b3, -⟩ | ⟨j', hj', e, rfl⟩
        · exact absurd b3 (nI_pos (by omega))
        · obtain rfl := (nI_eq (by omega) (by omega)).mp e
          rw [hb] at a4
          have hor : OdR L.length bm.2 := OdR_of (by omega) hL3 (by
            have := bstM_lt g (omx L.length)
            rw [hbm] at this
            have hz : 0 < omx L.length := by unfold omx; split <;> (try split) <;> omega
            omega)
          exact a4 (pmM_lt hor hj)
end REL4
