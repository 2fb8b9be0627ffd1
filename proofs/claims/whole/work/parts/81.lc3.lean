set_option maxRecDepth 100000 in
set_option maxHeartbeats 4000000 in
theorem lc_price {x : iC} {g : Geo} {b L i : Nat} {xs : Nat → Int32} {l : Launch} {M : Nat → Nat → Int32} {P : Nat → Nat} {B N K s at_ ln : Nat} {tx : Nat → Nat} (hx : x.1.2.1 = l) (h : Lk x g b L xs) (hL : L < 2 ^ 31) (hi : i + 5 < L) (hB : B + 9999 < 2 ^ 30) (hW : WI M P B N K s at_ tx ln) (kk : ∀ M' P', Wst M' P' (B + 9999) → Y x 857 [(3, .int (nI i)), (2, .ref (g.1 158)), (1, .ref (g.1 144)), (0, .ref b)] [] (wW g.1 (enc g M' P')) 168 8061) : Y x 568 [(3, .int (nI i)), (2, .ref (g.1 158)), (1, .ref (g.1 144)), (0, .ref b)] [] (wW g.1 (enc g M P)) 168 8061 := by
  obtain ⟨hP, hNb, hp, ⟨hs, hs4, hm, hat, hat4⟩, hH, hT, hU⟩ := id hW
  have hI := hp.1.1
  refine y_aload_n h.1 2 dL_law_568 rfl rfl ?_
  refine y_aload_n h.1 3 dL_law_569 rfl rfl ?_
  refine y_iload_n h.1 0 dL_law_570 rfl rfl ?_
  refine y_iconst h.1 (nI 1) dL_law_571 (by decide) ?_
  refine y_iadd_n h.1 dL_law_572 ?_
  refine y_sld h (by omega) hL dL_law_573 ?_
  refine y_callV h (As := [.int (xs (i + 1))]) 1 hx (c_X5_price hP hI hNb) gL_X5_price rfl ⟨rfl, rfl⟩ (by decide +kernel) rfl (by decide) (by decide) E_144 rfl rfl (Nat.le_of_ble_eq_true rfl) (Nat.le_of_ble_eq_true rfl) (Nat.le_of_ble_eq_true rfl) dL_law_574 (fun r M1 P1 hc => ?_)
  have hk : ∀ k, 157 < k → M1 k = M k := fun k hk => hc.2.1 k (Or.inr (Or.inr hk))
  have hI1 : InvX eM (M1 159) N K B := by rw [hk 159 (by decide)]; exact hp.1.2.1
  have hZ1 : Zn (M1 159) N := by rw [hk 159 (by decide)]; exact hp.1.2.2.1
  have hm1 : M1 158 5 = nI s := by rw [hk 158 (by decide)]; exact hm
  have hat1 : M1 158 6 = nI at_ := by rw [hk 158 (by decide)]; exact hat
  have hU1 : TxN M1 tx ln := TxN_cg (by rw [hk 158 (by decide)]) (hk 163 (by decide)) hU
  refine y_aload_n h.1 1 dL_law_577 rfl rfl ?_
  refine y_aload_n h.1 3 dL_law_578 rfl rfl ?_
  refine y_iload_n h.1 0 dL_law_579 rfl rfl ?_
  refine y_iconst h.1 (nI 1) dL_law_580 (by decide) ?_
  refine y_iadd_n h.1 dL_law_581 ?_
  refine y_sld h (by omega) hL dL_law_582 ?_
  refine y_callV h (As := [.int (xs (i + 1))]) 1 hx (c_X6_price hI1) gL_X6_price rfl ⟨rfl, rfl⟩ (by decide +kernel) rfl (by decide) (by decide) E_158 rfl rfl (Nat.le_of_ble_eq_true rfl) (Nat.le_of_ble_eq_true rfl) (Nat.le_of_ble_eq_true rfl) dL_law_583 (fun r' M2 P2 hm2 => ?_)
  obtain ⟨e, hw⟩ := S_price hW hB hc hm2
  exact y_icmp_eq h.1 857 dL_law_586 (by decide) (fun _ => kk M2 P2 hw) (fun c => absurd e c)

set_option maxRecDepth 100000 in
set_option maxHeartbeats 4000000 in
theorem lc_victims {x : iC} {g : Geo} {b L i : Nat} {xs : Nat → Int32} {l : Launch} {M : Nat → Nat → Int32} {P : Nat → Nat} {B N K s at_ ln : Nat} {tx : Nat → Nat} (hx : x.1.2.1 = l) (h : Lk x g b L xs) (hL : L < 2 ^ 31) (hi : i + 5 < L) (hB : B + 9999 < 2 ^ 30) (hW : WI M P B N K s at_ tx ln) (kk : ∀ M' P', Wst M' P' (B + 9999) → Y x 857 [(3, .int (nI i)), (2, .ref (g.1 158)), (1, .ref (g.1 144)), (0, .ref b)] [] (wW g.1 (enc g M' P')) 168 8061) : Y x 591 [(3, .int (nI i)), (2, .ref (g.1 158)), (1, .ref (g.1 144)), (0, .ref b)] [] (wW g.1 (enc g M P)) 168 8061 := by
  obtain ⟨hP, hNb, hp, ⟨hs, hs4, hm, hat, hat4⟩, hH, hT, hU⟩ := id hW
  have hI := hp.1.1
  refine y_aload_n h.1 2 dL_law_591 rfl rfl ?_
  refine y_aload_n h.1 3 dL_law_592 rfl rfl ?_
  refine y_iload_n h.1 0 dL_law_593 rfl rfl ?_
  refine y_iconst h.1 (nI 1) dL_law_594 (by decide) ?_
  refine y_iadd_n h.1 dL_law_595 ?_
  refine y_sld h (by omega) hL dL_law_596 ?_
  refine y_callV h (As := [.int (xs (i + 1))]) 1 hx (c_X5_victims hP hI hNb) gL_X5_victims rfl ⟨rfl, rfl⟩ (by decide +kernel) rfl (by decide) (by decide) E_144 rfl rfl (Nat.le_of_ble_eq_true rfl) (Nat.le_of_ble_eq_true rfl) (Nat.le_of_ble_eq_true rfl) dL_law_597 (fun r M1 P1 hc => ?_)
  have hk : ∀ k, 157 < k → M1 k = M k := fun k hk => hc.2.1 k (Or.inr (Or.inr hk))
  have hI1 : InvX eM (M1 159) N K B := by rw [hk 159 (by decide)]; exact hp.1.2.1
  have hZ1 : Zn (M1 159) N := by rw [hk 159 (by decide)]; exact hp.1.2.2.1
  have hm1 : M1 158 5 = nI s := by rw [hk 158 (by decide)]; exact hm
  have hat1 : M1 158 6 = nI at_ := by rw [hk 158 (by decide)]; exact hat
  have hU1 : TxN M1 tx ln := TxN_cg (by rw [hk 158 (by decide)]) (hk 163 (by decide)) hU
  refine y_aload_n h.1 1 dL_law_600 rfl rfl ?_
  refine y_aload_n h.1 3 dL_law_601 rfl rfl ?_
  refine y_iload_n h.1 0 dL_law_602 rfl rfl ?_
  refine y_iconst h.1 (nI 1) dL_law_603 (by decide) ?_
  refine y_iadd_n h.1 dL_law_604 ?_
  refine y_sld h (by omega) hL dL_law_605 ?_
  refine y_callV h (As := [.int (xs (i + 1))]) 1 hx (c_X6_victims hI1) gL_X6_victims rfl ⟨rfl, rfl⟩ (by decide +kernel) rfl (by decide) (by decide) E_158 rfl rfl (Nat.le_of_ble_eq_true rfl) (Nat.le_of_ble_eq_true rfl) (Nat.le_of_ble_eq_true rfl) dL_law_606 (fun r' M2 P2 hm2 => ?_)
  obtain ⟨e, hw⟩ := S_victims hW hB hc hm2
  exact y_icmp_eq h.1 857 dL_law_609 (by decide) (fun _ => kk M2 P2 hw) (fun c => absurd e c)

set_option maxRecDepth 100000 in
set_option maxHeartbeats 4000000 in
theorem lc_routeAt {x : iC} {g : Geo} {b L i : Nat} {xs : Nat → Int32} {l : Launch} {M : Nat → Nat → Int32} {P : Nat → Nat} {B N K s at_ ln : Nat} {tx : Nat → Nat} (hx : x.1.2.1 = l) (h : Lk x g b L xs) (hL : L < 2 ^ 31) (hi : i + 5 < L) (hB : B + 9999 < 2 ^ 30) (hW : WI M P B N K s at_ tx ln) (kk : ∀ M' P', Wst M' P' (B + 9999) → Y x 857 [(3, .int (nI i)), (2, .ref (g.1 158)), (1, .ref (g.1 144)), (0, .ref b)] [] (wW g.1 (enc g M' P')) 168 8061) : Y x 614 [(3, .int (nI i)), (2, .ref (g.1 158)), (1, .ref (g.1 144)), (0, .ref b)] [] (wW g.1 (enc g M P)) 168 8061 := by
  obtain ⟨hP, hNb, hp, ⟨hs, hs4, hm, hat, hat4⟩, hH, hT, hU⟩ := id hW
  have hI := hp.1.1
  refine y_aload_n h.1 2 dL_law_614 rfl rfl ?_
  refine y_aload_n h.1 3 dL_law_615 rfl rfl ?_
  refine y_iload_n h.1 0 dL_law_616 rfl rfl ?_
  refine y_iconst h.1 (nI 1) dL_law_617 (by decide) ?_
  refine y_iadd_n h.1 dL_law_618 ?_
  refine y_sld h (by omega) hL dL_law_619 ?_
  refine y_aload_n h.1 3 dL_law_620 rfl rfl ?_
  refine y_iload_n h.1 0 dL_law_621 rfl rfl ?_
  refine y_iconst h.1 (nI 2) dL_law_622 (by decide) ?_
  refine y_iadd_n h.1 dL_law_623 ?_
  refine y_sld h (by omega) hL dL_law_624 ?_
  refine y_aload_n h.1 3 dL_law_625 rfl rfl ?_
  refine y_iload_n h.1 0 dL_law_626 rfl rfl ?_
  refine y_iconst h.1 (nI 3) dL_law_627 (by decide) ?_
  refine y_iadd_n h.1 dL_law_628 ?_
  refine y_sld h (by omega) hL dL_law_629 ?_
  refine y_callV h (As := [.int (xs (i + 1)), .int (xs (i + 2)), .int (xs (i + 3))]) 3 hx (c_X5_routeAt hP hI hNb) gL_X5_routeAt rfl ⟨rfl, rfl⟩ (by decide +kernel) rfl (by decide) (by decide) E_144 rfl rfl (Nat.le_of_ble_eq_true rfl) (Nat.le_of_ble_eq_true rfl) (Nat.le_of_ble_eq_true rfl) dL_law_630 (fun r M1 P1 hc => ?_)
  have hk : ∀ k, 157 < k → M1 k = M k := fun k hk => hc.2.1 k (Or.inr (Or.inr hk))
  have hI1 : InvX eM (M1 159) N K B := by rw [hk 159 (by decide)]; exact hp.1.2.1
  have hZ1 : Zn (M1 159) N := by rw [hk 159 (by decide)]; exact hp.1.2.2.1
  have hm1 : M1 158 5 = nI s := by rw [hk 158 (by decide)]; exact hm
  have hat1 : M1 158 6 = nI at_ := by rw [hk 158 (by decide)]; exact hat
  have hU1 : TxN M1 tx ln := TxN_cg (by rw [hk 158 (by decide)]) (hk 163 (by decide)) hU
  refine y_aload_n h.1 1 dL_law_633 rfl rfl ?_
  refine y_aload_n h.1 3 dL_law_634 rfl rfl ?_
  refine y_iload_n h.1 0 dL_law_635 rfl rfl ?_
  refine y_iconst h.1 (nI 1) dL_law_636 (by decide) ?_
  refine y_iadd_n h.1 dL_law_637 ?_
  refine y_sld h (by omega) hL dL_law_638 ?_
  refine y_aload_n h.1 3 dL_law_639 rfl rfl ?_
  refine y_iload_n h.1 0 dL_law_640 rfl rfl ?_
  refine y_iconst h.1 (nI 2) dL_law_641 (by decide) ?_
  refine y_iadd_n h.1 dL_law_642 ?_
  refine y_sld h (by omega) hL dL_law_643 ?_
  refine y_aload_n h.1 3 dL_law_644 rfl rfl ?_
  refine y_iload_n h.1 0 dL_law_645 rfl rfl ?_
  refine y_iconst h.1 (nI 3) dL_law_646 (by decide) ?_
  refine y_iadd_n h.1 dL_law_647 ?_
  refine y_sld h (by omega) hL dL_law_648 ?_
  refine y_callV h (As := [.int (xs (i + 1)), .int (xs (i + 2)), .int (xs (i + 3))]) 3 hx (c_X6_routeAt hI1) gL_X6_routeAt rfl ⟨rfl, rfl⟩ (by decide +kernel) rfl (by decide) (by decide) E_158 rfl rfl (Nat.le_of_ble_eq_true rfl) (Nat.le_of_ble_eq_true rfl) (Nat.le_of_ble_eq_true rfl) dL_law_649 (fun r' M2 P2 hm2 => ?_)
  obtain ⟨e, hw⟩ := S_routeAt hW hB hc hm2
  exact y_icmp_eq h.1 857 dL_law_652 (by decide) (fun _ => kk M2 P2 hw) (fun c => absurd e c)

set_option maxRecDepth 100000 in
set_option maxHeartbeats 4000000 in
theorem lc_bestOrder {x : iC} {g : Geo} {b L i : Nat} {xs : Nat → Int32} {l : Launch} {M : Nat → Nat → Int32} {P : Nat → Nat} {B N K s at_ ln : Nat} {tx : Nat → Nat} (hx : x.1.2.1 = l) (h : Lk x g b L xs) (hL : L < 2 ^ 31) (hi : i + 5 < L) (hB : B + 9999 < 2 ^ 30) (hW : WI M P B N K s at_ tx ln) (kk : ∀ M' P', Wst M' P' (B + 9999) → Y x 857 [(3, .int (nI i)), (2, .ref (g.1 158)), (1, .ref (g.1 144)), (0, .ref b)] [] (wW g.1 (enc g M' P')) 168 8061) : Y x 657 [(3, .int (nI i)), (2, .ref (g.1 158)), (1, .ref (g.1 144)), (0, .ref b)] [] (wW g.1 (enc g M P)) 168 8061 := by
  obtain ⟨hP, hNb, hp, ⟨hs, hs4, hm, hat, hat4⟩, hH, hT, hU⟩ := id hW
  have hI := hp.1.1
  refine y_aload_n h.1 2 dL_law_657 rfl rfl ?_
  refine y_aload_n h.1 3 dL_law_658 rfl rfl ?_
  refine y_iload_n h.1 0 dL_law_659 rfl rfl ?_
  refine y_iconst h.1 (nI 1) dL_law_660 (by decide) ?_
  refine y_iadd_n h.1 dL_law_661 ?_
  refine y_sld h (by omega) hL dL_law_662 ?_
  refine y_callV h (As := [.int (xs (i + 1))]) 1 hx (c_X5_bestOrder hP hI hNb) gL_X5_bestOrder rfl ⟨rfl, rfl⟩ (by decide +kernel) rfl (by decide) (by decide) E_144 rfl rfl (Nat.le_of_ble_eq_true rfl) (Nat.le_of_ble_eq_true rfl) (Nat.le_of_ble_eq_true rfl) dL_law_663 (fun r M1 P1 hc => ?_)
  have hk : ∀ k, 157 < k → M1 k = M k := fun k hk => hc.2.1 k (by have := hP.1 1 (by decide); omega) (by omega) (by omega)
  have hI1 : InvX eM (M1 159) N K B := by rw [hk 159 (by decide)]; exact hp.1.2.1
  have hZ1 : Zn (M1 159) N := by rw [hk 159 (by decide)]; exact hp.1.2.2.1
  have hm1 : M1 158 5 = nI s := by rw [hk 158 (by decide)]; exact hm
  have hat1 : M1 158 6 = nI at_ := by rw [hk 158 (by decide)]; exact hat
  have hU1 : TxN M1 tx ln := TxN_cg (by rw [hk 158 (by decide)]) (hk 163 (by decide)) hU
  refine y_aload_n h.1 1 dL_law_666 rfl rfl ?_
  refine y_aload_n h.1 3 dL_law_667 rfl rfl ?_
  refine y_iload_n h.1 0 dL_law_668 rfl rfl ?_
  refine y_iconst h.1 (nI 1) dL_law_669 (by decide) ?_
  refine y_iadd_n h.1 dL_law_670 ?_
  refine y_sld h (by omega) hL dL_law_671 ?_
  refine y_callV h (As := [.int (xs (i + 1))]) 1 hx (c_X6_bestOrder hI1) gL_X6_bestOrder rfl ⟨rfl, rfl⟩ (by decide +kernel) rfl (by decide) (by decide) E_158 rfl rfl (Nat.le_of_ble_eq_true rfl) (Nat.le_of_ble_eq_true rfl) (Nat.le_of_ble_eq_true rfl) dL_law_672 (fun r' M2 P2 hm2 => ?_)
  obtain ⟨e, hw⟩ := S_bestOrder hW hB hc hm2
  exact y_icmp_eq h.1 857 dL_law_675 (by decide) (fun _ => kk M2 P2 hw) (fun c => absurd e c)

set_option maxRecDepth 100000 in
set_option maxHeartbeats 4000000 in
theorem lc_claimOf {x : iC} {g : Geo} {b L i : Nat} {xs : Nat → Int32} {l : Launch} {M : Nat → Nat → Int32} {P : Nat → Nat} {B N K s at_ ln : Nat} {tx : Nat → Nat} (hx : x.1.2.1 = l) (h : Lk x g b L xs) (hL : L < 2 ^ 31) (hi : i + 5 < L) (hB : B + 9999 < 2 ^ 30) (hW : WI M P B N K s at_ tx ln) (kk : ∀ M' P', Wst M' P' (B + 9999) → Y x 857 [(3, .int (nI i)), (2, .ref (g.1 158)), (1, .ref (g.1 144)), (0, .ref b)] [] (wW g.1 (enc g M' P')) 168 8061) : Y x 680 [(3, .int (nI i)), (2, .ref (g.1 158)), (1, .ref (g.1 144)), (0, .ref b)] [] (wW g.1 (enc g M P)) 168 8061 := by
  obtain ⟨hP, hNb, hp, ⟨hs, hs4, hm, hat, hat4⟩, hH, hT, hU⟩ := id hW
  have hI := hp.1.1
  refine y_aload_n h.1 2 dL_law_680 rfl rfl ?_
  refine y_aload_n h.1 3 dL_law_681 rfl rfl ?_
  refine y_iload_n h.1 0 dL_law_682 rfl rfl ?_
  refine y_iconst h.1 (nI 1) dL_law_683 (by decide) ?_
  refine y_iadd_n h.1 dL_law_684 ?_
  refine y_sld h (by omega) hL dL_law_685 ?_
  refine y_aload_n h.1 3 dL_law_686 rfl rfl ?_
  refine y_iload_n h.1 0 dL_law_687 rfl rfl ?_
  refine y_iconst h.1 (nI 2) dL_law_688 (by decide) ?_
  refine y_iadd_n h.1 dL_law_689 ?_
  refine y_sld h (by omega) hL dL_law_690 ?_
  refine y_callV h (As := [.int (xs (i + 1)), .int (xs (i + 2))]) 2 hx (c_X5_claimOf hP hI) gL_X5_claimOf rfl ⟨rfl, rfl⟩ (by decide +kernel) rfl (by decide) (by decide) E_144 rfl rfl (Nat.le_of_ble_eq_true rfl) (Nat.le_of_ble_eq_true rfl) (Nat.le_of_ble_eq_true rfl) dL_law_691 (fun r M1 P1 hc => ?_)
  have hk : ∀ k, 157 < k → M1 k = M k := fun k _ => by rw [hc.1.2]
  have hI1 : InvX eM (M1 159) N K B := by rw [hk 159 (by decide)]; exact hp.1.2.1
  have hZ1 : Zn (M1 159) N := by rw [hk 159 (by decide)]; exact hp.1.2.2.1
  have hm1 : M1 158 5 = nI s := by rw [hk 158 (by decide)]; exact hm
  have hat1 : M1 158 6 = nI at_ := by rw [hk 158 (by decide)]; exact hat
  have hU1 : TxN M1 tx ln := TxN_cg (by rw [hk 158 (by decide)]) (hk 163 (by decide)) hU
  refine y_aload_n h.1 1 dL_law_694 rfl rfl ?_
  refine y_aload_n h.1 3 dL_law_695 rfl rfl ?_
  refine y_iload_n h.1 0 dL_law_696 rfl rfl ?_
  refine y_iconst h.1 (nI 1) dL_law_697 (by decide) ?_
  refine y_iadd_n h.1 dL_law_698 ?_
  refine y_sld h (by omega) hL dL_law_699 ?_
  refine y_aload_n h.1 3 dL_law_700 rfl rfl ?_
  refine y_iload_n h.1 0 dL_law_701 rfl rfl ?_
  refine y_iconst h.1 (nI 2) dL_law_702 (by decide) ?_
  refine y_iadd_n h.1 dL_law_703 ?_
  refine y_sld h (by omega) hL dL_law_704 ?_
  refine y_callV h (As := [.int (xs (i + 1)), .int (xs (i + 2))]) 2 hx (c_X6_claimOf hI1) gL_X6_claimOf rfl ⟨rfl, rfl⟩ (by decide +kernel) rfl (by decide) (by decide) E_158 rfl rfl (Nat.le_of_ble_eq_true rfl) (Nat.le_of_ble_eq_true rfl) (Nat.le_of_ble_eq_true rfl) dL_law_705 (fun r' M2 P2 hm2 => ?_)
  obtain ⟨e, hw⟩ := S_claimOf hW hB hc hm2
  exact y_icmp_eq h.1 857 dL_law_708 (by decide) (fun _ => kk M2 P2 hw) (fun c => absurd e c)

set_option maxRecDepth 100000 in
set_option maxHeartbeats 4000000 in
theorem lc_docketAt {x : iC} {g : Geo} {b L i : Nat} {xs : Nat → Int32} {l : Launch} {M : Nat → Nat → Int32} {P : Nat → Nat} {B N K s at_ ln : Nat} {tx : Nat → Nat} (hx : x.1.2.1 = l) (h : Lk x g b L xs) (hL : L < 2 ^ 31) (hi : i + 5 < L) (hB : B + 9999 < 2 ^ 30) (hW : WI M P B N K s at_ tx ln) (kk : ∀ M' P', Wst M' P' (B + 9999) → Y x 857 [(3, .int (nI i)), (2, .ref (g.1 158)), (1, .ref (g.1 144)), (0, .ref b)] [] (wW g.1 (enc g M' P')) 168 8061) : Y x 713 [(3, .int (nI i)), (2, .ref (g.1 158)), (1, .ref (g.1 144)), (0, .ref b)] [] (wW g.1 (enc g M P)) 168 8061 := by
  obtain ⟨hP, hNb, hp, ⟨hs, hs4, hm, hat, hat4⟩, hH, hT, hU⟩ := id hW
  have hI := hp.1.1
  refine y_aload_n h.1 2 dL_law_713 rfl rfl ?_
  refine y_aload_n h.1 3 dL_law_714 rfl rfl ?_
  refine y_iload_n h.1 0 dL_law_715 rfl rfl ?_
  refine y_iconst h.1 (nI 1) dL_law_716 (by decide) ?_
  refine y_iadd_n h.1 dL_law_717 ?_
  refine y_sld h (by omega) hL dL_law_718 ?_
  refine y_callV h (As := [.int (xs (i + 1))]) 1 hx (c_X5_docketAt hP hI) gL_X5_docketAt rfl ⟨rfl, rfl⟩ (by decide +kernel) rfl (by decide) (by decide) E_144 rfl rfl (Nat.le_of_ble_eq_true rfl) (Nat.le_of_ble_eq_true rfl) (Nat.le_of_ble_eq_true rfl) dL_law_719 (fun r M1 P1 hc => ?_)
  have hk : ∀ k, 157 < k → M1 k = M k := fun k _ => by rw [hc.1.2]
  have hI1 : InvX eM (M1 159) N K B := by rw [hk 159 (by decide)]; exact hp.1.2.1
  have hZ1 : Zn (M1 159) N := by rw [hk 159 (by decide)]; exact hp.1.2.2.1
  have hm1 : M1 158 5 = nI s := by rw [hk 158 (by decide)]; exact hm
  have hat1 : M1 158 6 = nI at_ := by rw [hk 158 (by decide)]; exact hat
  have hU1 : TxN M1 tx ln := TxN_cg (by rw [hk 158 (by decide)]) (hk 163 (by decide)) hU
  refine y_aload_n h.1 1 dL_law_722 rfl rfl ?_
  refine y_aload_n h.1 3 dL_law_723 rfl rfl ?_
  refine y_iload_n h.1 0 dL_law_724 rfl rfl ?_
  refine y_iconst h.1 (nI 1) dL_law_725 (by decide) ?_
  refine y_iadd_n h.1 dL_law_726 ?_
  refine y_sld h (by omega) hL dL_law_727 ?_
  refine y_callV h (As := [.int (xs (i + 1))]) 1 hx (c_X6_docketAt hI1) gL_X6_docketAt rfl ⟨rfl, rfl⟩ (by decide +kernel) rfl (by decide) (by decide) E_158 rfl rfl (Nat.le_of_ble_eq_true rfl) (Nat.le_of_ble_eq_true rfl) (Nat.le_of_ble_eq_true rfl) dL_law_728 (fun r' M2 P2 hm2 => ?_)
  obtain ⟨e, hw⟩ := S_docketAt hW hB hc hm2
  exact y_icmp_eq h.1 857 dL_law_731 (by decide) (fun _ => kk M2 P2 hw) (fun c => absurd e c)

set_option maxRecDepth 100000 in
set_option maxHeartbeats 4000000 in
theorem lc_wronged {x : iC} {g : Geo} {b L i : Nat} {xs : Nat → Int32} {l : Launch} {M : Nat → Nat → Int32} {P : Nat → Nat} {B N K s at_ ln : Nat} {tx : Nat → Nat} (hx : x.1.2.1 = l) (h : Lk x g b L xs) (hL : L < 2 ^ 31) (hi : i + 5 < L) (hB : B + 9999 < 2 ^ 30) (hW : WI M P B N K s at_ tx ln) (kk : ∀ M' P', Wst M' P' (B + 9999) → Y x 857 [(3, .int (nI i)), (2, .ref (g.1 158)), (1, .ref (g.1 144)), (0, .ref b)] [] (wW g.1 (enc g M' P')) 168 8061) : Y x 736 [(3, .int (nI i)), (2, .ref (g.1 158)), (1, .ref (g.1 144)), (0, .ref b)] [] (wW g.1 (enc g M P)) 168 8061 := by
  obtain ⟨hP, hNb, hp, ⟨hs, hs4, hm, hat, hat4⟩, hH, hT, hU⟩ := id hW
  have hI := hp.1.1
  refine y_aload_n h.1 2 dL_law_736 rfl rfl ?_
  refine y_callV h (As := []) 0 hx (c_X5_wronged hP hI) gL_X5_wronged rfl ⟨rfl, rfl⟩ (by decide +kernel) rfl (by decide) (by decide) E_144 rfl rfl (Nat.le_of_ble_eq_true rfl) (Nat.le_of_ble_eq_true rfl) (Nat.le_of_ble_eq_true rfl) dL_law_737 (fun r M1 P1 hc => ?_)
  have hk : ∀ k, 157 < k → M1 k = M k := fun k _ => by rw [hc.1.2]
  have hI1 : InvX eM (M1 159) N K B := by rw [hk 159 (by decide)]; exact hp.1.2.1
  have hZ1 : Zn (M1 159) N := by rw [hk 159 (by decide)]; exact hp.1.2.2.1
  have hm1 : M1 158 5 = nI s := by rw [hk 158 (by decide)]; exact hm
  have hat1 : M1 158 6 = nI at_ := by rw [hk 158 (by decide)]; exact hat
  have hU1 : TxN M1 tx ln := TxN_cg (by rw [hk 158 (by decide)]) (hk 163 (by decide)) hU
  refine y_aload_n h.1 1 dL_law_740 rfl rfl ?_
  refine y_callV h (As := []) 0 hx (c_X6_wronged hI1) gL_X6_wronged rfl ⟨rfl, rfl⟩ (by decide +kernel) rfl (by decide) (by decide) E_158 rfl rfl (Nat.le_of_ble_eq_true rfl) (Nat.le_of_ble_eq_true rfl) (Nat.le_of_ble_eq_true rfl) dL_law_741 (fun r' M2 P2 hm2 => ?_)
  obtain ⟨e, hw⟩ := S_wronged hW hB hc hm2
  exact y_icmp_eq h.1 857 dL_law_744 (by decide) (fun _ => kk M2 P2 hw) (fun c => absurd e c)
