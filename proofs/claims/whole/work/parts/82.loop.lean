/-! the law's loop -/
theorem nI_sub6 {L : Nat} (h : L < 2 ^ 30) : (nI L - nI 6).toInt = (L : Int) - 6 := by
  rw [Int32.toInt_sub, nI_toInt (by omega), nI_toInt (by decide)]
  exact Int.bmod_eq_of_le_mul_two (by omega) (by omega)
section LLOOP
variable {x : iC} {g : Geo} {b L : Nat} {xs : Nat → Int32}
theorem y_lwret (h : Lk x g b L xs) {pc : Nat} {lv : List (Nat × Value)} {ws : va_W} {N S : Nat} (hr : x.2.1.2.2.2.1.sig.returnType = ret) (hlk : x.2.1.2.2.2.1.locks = false) (hQ : x.2.2.2.2.2 = lw_Z x.2.1.2.2.1 #[Value.ref b] x.1.2.2.2.2) (ha : x.2.1.2.1 = #[Value.ref b]) (hN : N ≤ 600000) (hS : S ≤ 7302250) (hd : decode cL_law pc = .ok (.ireturn, 1)) : Y x pc lv [.int 1] ws N S := by
  obtain ⟨⟨p, l', e, R, s⟩, ⟨m, args, below, meth, c⟩, D', nL', A, Q⟩ := x
  obtain ⟨⟨hx, -, -, -, h50⟩, -, hAe0, -⟩ := h
  have hx1 : p.tables.exec = Jvm.exec := hx.1
  have hb1 : c.code = cL_law := hx.2.1
  have hr1 : meth.sig.returnType = ret := hr
  have hlk1 : meth.locks = false := hlk
  have h5 : R = room_1 := h50
  have hAe : A = fun q : Nat => s.heap.size ≤ q := hAe0
  have hQ1 : Q = lw_Z below #[Value.ref b] s := hQ
  have ha1 : args = #[Value.ref b] := ha
  clear hx h50 hAe0 hQ ha hr hlk
  subst h5 hQ1 ha1
  intro H locs ls g1 g2 g3 g4
  refine va_forget (fun q hq => ?_) (W.widen hN hS (lw_ret hx1 hb1 hr1 hlk1 hd))
  have h9 : A q.base := g4.2.2 q hq
  rw [hAe] at h9
  exact h9
theorem law_head (h : Lk x g b L xs) (hL : L ≤ 3072) {i : Nat} (hi : i < 4000) {ws : va_W} (hend : ∀ lv ws, Y x 864 lv [.int 1] ws 168 8061) (k : i + 6 ≤ L → Y x 27 [(3, .int (nI i)), (2, .ref (g.1 158)), (1, .ref (g.1 144)), (0, .ref b)] [] ws 168 8061) : Y x 18 [(3, .int (nI i)), (2, .ref (g.1 158)), (1, .ref (g.1 144)), (0, .ref b)] [] ws 168 8061 := by
  refine y_iload_n h.1 0 dL_law_18 rfl rfl ?_
  refine y_aload_n h.1 3 dL_law_19 rfl rfl ?_
  refine y_slen h dL_law_20 ?_
  refine y_bipush h.1 (nI 6) dL_law_21 (by decide) ?_
  refine y_isub h.1 dL_law_23 ?_
  refine y_icmp_gt h.1 863 dL_law_24 (by decide) (fun _ => ?_) (fun c => ?_)
  · refine y_iconst h.1 1 dL_law_863 (by decide) ?_
    exact hend _ _
  · refine k ?_
    rw [Int32.lt_iff_toInt_lt, nI_sub6 (by omega), nI_toInt (by omega)] at c
    omega
set_option maxHeartbeats 4000000 in
theorem law_case {l : Launch} (hx : x.1.2.1 = l) (h : Lk x g b L xs) (hL : L ≤ 3072) {i : Nat} {M : Nat → Nat → Int32} {P : Nat → Nat} {B : Nat} (hi : i + 6 ≤ L) (hB : B + 9999 < 2 ^ 30) (hW0 : Wst M P B) (kk : ∀ M' P', Wst M' P' (B + 9999) → Y x 857 [(3, .int (nI i)), (2, .ref (g.1 158)), (1, .ref (g.1 144)), (0, .ref b)] [] (wW g.1 (enc g M' P')) 168 8061) : Y x 27 [(3, .int (nI i)), (2, .ref (g.1 158)), (1, .ref (g.1 144)), (0, .ref b)] [] (wW g.1 (enc g M P)) 168 8061 := by
  obtain ⟨N, K, s, at_, tx, ln, hW⟩ := hW0
  refine y_aload_n h.1 3 dL_law_27 rfl rfl ?_
  refine y_iload_n h.1 0 dL_law_28 rfl rfl ?_
  refine y_sld h (by omega) (by omega) dL_law_29 ?_
  refine y_bipush h.1 (nI 31) dL_law_30 (by decide) ?_
  refine y_iand h.1 dL_law_32 ?_
  generalize xs i &&& nI 31 = w
  by_cases hsw : w.toInt < 0 ∨ ((26 : Nat) : Int) < w.toInt
  · exact y_tout h 857 dL_law_33 hsw (by decide) (kk M P (W_keep hW (by omega) hB (fun _ _ _ _ _ => rfl) rfl (fun _ _ => rfl) (fun _ _ => rfl) (fun _ _ => rfl)))
  · obtain ⟨j, hj, rfl⟩ := sw_of (n := 26) hsw (by decide)
    rcases (show j = 0 ∨ j = 1 ∨ j = 2 ∨ j = 3 ∨ j = 4 ∨ j = 5 ∨ j = 6 ∨ j = 7 ∨ j = 8 ∨ j = 9 ∨ j = 10 ∨ j = 11 ∨ j = 12 ∨ j = 13 ∨ j = 14 ∨ j = 15 ∨ j = 16 ∨ j = 17 ∨ j = 18 ∨ j = 19 ∨ j = 20 ∨ j = 21 ∨ j = 22 ∨ j = 23 ∨ j = 24 ∨ j = 25 ∨ j = 26 by omega) with rfl | rfl | rfl | rfl | rfl | rfl | rfl | rfl | rfl | rfl | rfl | rfl | rfl | rfl | rfl | rfl | rfl | rfl | rfl | rfl | rfl | rfl | rfl | rfl | rfl | rfl | rfl
    · exact y_tin h 123 156 dL_law_33 (by decide) (by decide) rfl (by decide) (lc_set hx h (by omega) (by omega) hB hW kk)
    · exact y_tin h 156 189 dL_law_33 (by decide) (by decide) rfl (by decide) (lc_block hx h (by omega) (by omega) hB hW kk)
    · exact y_tin h 189 222 dL_law_33 (by decide) (by decide) rfl (by decide) (lc_net hx h (by omega) (by omega) hB hW kk)
    · exact y_tin h 252 285 dL_law_33 (by decide) (by decide) rfl (by decide) (lc_give hx h (by omega) (by omega) hB hW kk)
    · exact y_tin h 285 318 dL_law_33 (by decide) (by decide) rfl (by decide) (lc_netOf hx h (by omega) (by omega) hB hW kk)
    · exact y_tin h 318 351 dL_law_33 (by decide) (by decide) rfl (by decide) (lc_cellOf hx h (by omega) (by omega) hB hW kk)
    · exact y_tin h 341 374 dL_law_33 (by decide) (by decide) rfl (by decide) (lc_wireAt hx h (by omega) (by omega) hB hW kk)
    · exact y_tin h 374 407 dL_law_33 (by decide) (by decide) rfl (by decide) (lc_lay hx h (by omega) (by omega) hB hW kk)
    · exact y_tin h 397 430 dL_law_33 (by decide) (by decide) rfl (by decide) (lc_dig hx h (by omega) (by omega) hB hW kk)
    · exact y_tin h 420 453 dL_law_33 (by decide) (by decide) rfl (by decide) (lc_rip hx h (by omega) (by omega) hB hW kk)
    · exact y_tin h 443 476 dL_law_33 (by decide) (by decide) rfl (by decide) (lc_appeal hx h (by omega) (by omega) hB hW kk)
    · exact y_tin h 466 499 dL_law_33 (by decide) (by decide) rfl (by decide) (lc_hear hx h (by omega) (by omega) hB hW kk)
    · exact y_tin h 479 512 dL_law_33 (by decide) (by decide) rfl (by decide) (lc_pass hx h (by omega) (by omega) hB hW kk)
    · exact y_tin h 502 535 dL_law_33 (by decide) (by decide) rfl (by decide) (lc_cost hx h (by omega) (by omega) hB hW kk)
    · exact y_tin h 535 568 dL_law_33 (by decide) (by decide) rfl (by decide) (lc_price hx h (by omega) (by omega) hB hW kk)
    · exact y_tin h 558 591 dL_law_33 (by decide) (by decide) rfl (by decide) (lc_victims hx h (by omega) (by omega) hB hW kk)
    · exact y_tin h 581 614 dL_law_33 (by decide) (by decide) rfl (by decide) (lc_routeAt hx h (by omega) (by omega) hB hW kk)
    · exact y_tin h 624 657 dL_law_33 (by decide) (by decide) rfl (by decide) (lc_bestOrder hx h (by omega) (by omega) hB hW kk)
    · exact y_tin h 647 680 dL_law_33 (by decide) (by decide) rfl (by decide) (lc_claimOf hx h (by omega) (by omega) hB hW kk)
    · exact y_tin h 680 713 dL_law_33 (by decide) (by decide) rfl (by decide) (lc_docketAt hx h (by omega) (by omega) hB hW kk)
    · exact y_tin h 703 736 dL_law_33 (by decide) (by decide) rfl (by decide) (lc_wronged hx h (by omega) (by omega) hB hW kk)
    · exact y_tin h 716 749 dL_law_33 (by decide) (by decide) rfl (by decide) (lc_count hx h (by omega) (by omega) hB hW kk)
    · exact y_tin h 739 772 dL_law_33 (by decide) (by decide) rfl (by decide) (lc_undo hx h (by omega) (by omega) hB hW kk)
    · exact y_tin h 752 785 dL_law_33 (by decide) (by decide) rfl (by decide) (lc_type hx h (by omega) (by omega) hB hW kk)
    · exact y_tin h 775 808 dL_law_33 (by decide) (by decide) rfl (by decide) (lc_clearText hx h (by omega) (by omega) hB hW kk)
    · exact y_tin h 788 821 dL_law_33 (by decide) (by decide) rfl (by decide) (lc_fault hx h (by omega) (by omega) hB hW kk)
    · exact y_tin h 811 844 dL_law_33 (by decide) (by decide) rfl (by decide) (lc_play hx h (by omega) (by omega) hB hW kk)
theorem law_loop {l : Launch} (hx : x.1.2.1 = l) (h : Lk x g b L xs) (hL : L ≤ 3072) (hend : ∀ lv ws, Y x 864 lv [.int 1] ws 168 8061) : ∀ (n i B : Nat) (M : Nat → Nat → Int32) (P : Nat → Nat), L < i + 6 * n + 6 → B + 9999 * n < 2 ^ 30 → i < 4000 → Wst M P B → Y x 18 [(3, .int (nI i)), (2, .ref (g.1 158)), (1, .ref (g.1 144)), (0, .ref b)] [] (wW g.1 (enc g M P)) 168 8061 := by
  intro n
  induction n with
  | zero =>
    intro i B M P hn hB hi hW
    exact law_head h hL hi hend (fun hc => absurd hc (by omega))
  | succ n ih =>
    intro i B M P hn hB hi hW
    rw [Nat.mul_succ] at hB
    have hB1 : B + 9999 < 2 ^ 30 := Nat.lt_of_le_of_lt (Nat.add_le_add_left (Nat.le_add_left 9999 (9999 * n)) B) hB
    have hB2 : B + 9999 + 9999 * n < 2 ^ 30 := by rw [Nat.add_assoc, Nat.add_comm 9999]; exact hB
    refine law_head h hL hi hend (fun hc => law_case hx h hL hc hB1 hW (fun M' P' hW' => ?_))
    refine y_iinc_n h.1 0 (n := 6) [(3, .int (nI (i + 6))), (2, .ref (g.1 158)), (1, .ref (g.1 144)), (0, .ref b)] dL_law_857 rfl (by decide) rfl ?_
    refine y_goto h.1 18 dL_law_860 (by decide) ?_
    exact ih (i + 6) (B + 9999) M' P' (by omega) hB2 (by omega) hW'
end LLOOP
