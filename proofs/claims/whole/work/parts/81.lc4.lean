set_option maxRecDepth 100000 in
set_option maxHeartbeats 4000000 in
theorem lc_count {x : iC} {g : Geo} {b L i : Nat} {xs : Nat → Int32} {l : Launch} {M : Nat → Nat → Int32} {P : Nat → Nat} {B N K s at_ ln : Nat} {tx : Nat → Nat} (hx : x.1.2.1 = l) (h : Lk x g b L xs) (hL : L < 2 ^ 31) (hi : i + 5 < L) (hB : B + 9999 < 2 ^ 30) (hW : WI M P B N K s at_ tx ln) (kk : ∀ M' P', Wst M' P' (B + 9999) → Y x 857 [(3, .int (nI i)), (2, .ref (g.1 158)), (1, .ref (g.1 144)), (0, .ref b)] [] (wW g.1 (enc g M' P')) 168 8061) : Y x 749 [(3, .int (nI i)), (2, .ref (g.1 158)), (1, .ref (g.1 144)), (0, .ref b)] [] (wW g.1 (enc g M P)) 168 8061 := by
  obtain ⟨hP, hNb, hp, ⟨hs, hs4, hm, hat, hat4⟩, hH, hT, hU⟩ := id hW
  have hI := hp.1.1
  refine y_aload_n h.1 2 dL_law_749 rfl rfl ?_
  refine y_aload_n h.1 3 dL_law_750 rfl rfl ?_
  refine y_iload_n h.1 0 dL_law_751 rfl rfl ?_
  refine y_iconst h.1 (nI 1) dL_law_752 (by decide) ?_
  refine y_iadd_n h.1 dL_law_753 ?_
  refine y_sld h (by omega) hL dL_law_754 ?_
  refine y_callV h (As := [.int (xs (i + 1))]) 1 hx (c_X5_count hP hI hs hs4 hT.1) gL_X5_count rfl ⟨rfl, rfl⟩ (by decide +kernel) rfl (by decide) (by decide) E_144 rfl rfl (Nat.le_of_ble_eq_true rfl) (Nat.le_of_ble_eq_true rfl) (Nat.le_of_ble_eq_true rfl) dL_law_755 (fun r M1 P1 hc => ?_)
  have hk : ∀ k, 157 < k → M1 k = M k := fun k _ => by rw [hc.1.2]
  have hI1 : InvX eM (M1 159) N K B := by rw [hk 159 (by decide)]; exact hp.1.2.1
  have hZ1 : Zn (M1 159) N := by rw [hk 159 (by decide)]; exact hp.1.2.2.1
  have hm1 : M1 158 5 = nI s := by rw [hk 158 (by decide)]; exact hm
  have hat1 : M1 158 6 = nI at_ := by rw [hk 158 (by decide)]; exact hat
  have hU1 : TxN M1 tx ln := TxN_cg (by rw [hk 158 (by decide)]) (hk 163 (by decide)) hU
  refine y_aload_n h.1 1 dL_law_758 rfl rfl ?_
  refine y_aload_n h.1 3 dL_law_759 rfl rfl ?_
  refine y_iload_n h.1 0 dL_law_760 rfl rfl ?_
  refine y_iconst h.1 (nI 1) dL_law_761 (by decide) ?_
  refine y_iadd_n h.1 dL_law_762 ?_
  refine y_sld h (by omega) hL dL_law_763 ?_
  refine y_callV h (As := [.int (xs (i + 1))]) 1 hx (c_X6_count hI1 hm1 hU1.1) gL_X6_count rfl ⟨rfl, rfl⟩ (by decide +kernel) rfl (by decide) (by decide) E_158 rfl rfl (Nat.le_of_ble_eq_true rfl) (Nat.le_of_ble_eq_true rfl) (Nat.le_of_ble_eq_true rfl) dL_law_764 (fun r' M2 P2 hm2 => ?_)
  obtain ⟨e, hw⟩ := S_count hW hB hc hm2
  exact y_icmp_eq h.1 857 dL_law_767 (by decide) (fun _ => kk M2 P2 hw) (fun c => absurd e c)

set_option maxRecDepth 100000 in
set_option maxHeartbeats 4000000 in
theorem lc_undo {x : iC} {g : Geo} {b L i : Nat} {xs : Nat → Int32} {l : Launch} {M : Nat → Nat → Int32} {P : Nat → Nat} {B N K s at_ ln : Nat} {tx : Nat → Nat} (hx : x.1.2.1 = l) (h : Lk x g b L xs) (hL : L < 2 ^ 31) (hi : i + 5 < L) (hB : B + 9999 < 2 ^ 30) (hW : WI M P B N K s at_ tx ln) (kk : ∀ M' P', Wst M' P' (B + 9999) → Y x 857 [(3, .int (nI i)), (2, .ref (g.1 158)), (1, .ref (g.1 144)), (0, .ref b)] [] (wW g.1 (enc g M' P')) 168 8061) : Y x 772 [(3, .int (nI i)), (2, .ref (g.1 158)), (1, .ref (g.1 144)), (0, .ref b)] [] (wW g.1 (enc g M P)) 168 8061 := by
  obtain ⟨hP, hNb, hp, ⟨hs, hs4, hm, hat, hat4⟩, hH, hT, hU⟩ := id hW
  have hI := hp.1.1
  refine y_aload_n h.1 2 dL_law_772 rfl rfl ?_
  refine y_callV h (As := []) 0 hx (c_X5_undo hP hs hs4) gL_X5_undo rfl ⟨rfl, rfl⟩ (by decide +kernel) rfl (by decide) (by decide) E_144 rfl rfl (Nat.le_of_ble_eq_true rfl) (Nat.le_of_ble_eq_true rfl) (Nat.le_of_ble_eq_true rfl) dL_law_773 (fun r M1 P1 hc => ?_)
  have hk : ∀ k, 157 < k → M1 k = M k := fun k hk => by
      rcases hc with ⟨-, -, -, e⟩ | ⟨-, -, -, e⟩
      · rw [e]
      · rw [e]; exact st2_n M _ _ (by omega)
  have hI1 : InvX eM (M1 159) N K B := by rw [hk 159 (by decide)]; exact hp.1.2.1
  have hZ1 : Zn (M1 159) N := by rw [hk 159 (by decide)]; exact hp.1.2.2.1
  have hm1 : M1 158 5 = nI s := by rw [hk 158 (by decide)]; exact hm
  have hat1 : M1 158 6 = nI at_ := by rw [hk 158 (by decide)]; exact hat
  have hU1 : TxN M1 tx ln := TxN_cg (by rw [hk 158 (by decide)]) (hk 163 (by decide)) hU
  refine y_aload_n h.1 1 dL_law_776 rfl rfl ?_
  refine y_callV h (As := []) 0 hx (c_X6_undo hm1 hs4 hat1 hat4) gL_X6_undo rfl ⟨rfl, rfl⟩ (by decide +kernel) rfl (by decide) (by decide) E_158 rfl rfl (Nat.le_of_ble_eq_true rfl) (Nat.le_of_ble_eq_true rfl) (Nat.le_of_ble_eq_true rfl) dL_law_777 (fun r' M2 P2 hm2 => ?_)
  obtain ⟨e, hw⟩ := S_undo hW hB hc hm2
  exact y_icmp_eq h.1 857 dL_law_780 (by decide) (fun _ => kk M2 P2 hw) (fun c => absurd e c)

set_option maxRecDepth 100000 in
set_option maxHeartbeats 4000000 in
theorem lc_type {x : iC} {g : Geo} {b L i : Nat} {xs : Nat → Int32} {l : Launch} {M : Nat → Nat → Int32} {P : Nat → Nat} {B N K s at_ ln : Nat} {tx : Nat → Nat} (hx : x.1.2.1 = l) (h : Lk x g b L xs) (hL : L < 2 ^ 31) (hi : i + 5 < L) (hB : B + 9999 < 2 ^ 30) (hW : WI M P B N K s at_ tx ln) (kk : ∀ M' P', Wst M' P' (B + 9999) → Y x 857 [(3, .int (nI i)), (2, .ref (g.1 158)), (1, .ref (g.1 144)), (0, .ref b)] [] (wW g.1 (enc g M' P')) 168 8061) : Y x 785 [(3, .int (nI i)), (2, .ref (g.1 158)), (1, .ref (g.1 144)), (0, .ref b)] [] (wW g.1 (enc g M P)) 168 8061 := by
  obtain ⟨hP, hNb, hp, ⟨hs, hs4, hm, hat, hat4⟩, hH, hT, hU⟩ := id hW
  have hI := hp.1.1
  refine y_aload_n h.1 2 dL_law_785 rfl rfl ?_
  refine y_aload_n h.1 3 dL_law_786 rfl rfl ?_
  refine y_iload_n h.1 0 dL_law_787 rfl rfl ?_
  refine y_iconst h.1 (nI 1) dL_law_788 (by decide) ?_
  refine y_iadd_n h.1 dL_law_789 ?_
  refine y_sld h (by omega) hL dL_law_790 ?_
  refine y_callV h (As := [.int (xs (i + 1))]) 1 hx (c_X5_type hT (tx := tx)) gL_X5_type rfl ⟨rfl, rfl⟩ (by decide +kernel) rfl (by decide) (by decide) E_144 rfl rfl (Nat.le_of_ble_eq_true rfl) (Nat.le_of_ble_eq_true rfl) (Nat.le_of_ble_eq_true rfl) dL_law_791 (fun r M1 P1 hc => ?_)
  have hk : ∀ k, 157 < k → M1 k = M k := fun k hk => by
      rcases hc.2 with ⟨-, -, e⟩ | ⟨-, ⟨-, -, e⟩ | ⟨-, -, e⟩⟩
      · rw [e]
      · rw [e]
      · rw [e, st2_n _ _ _ (show k ≠ 147 by omega)]; exact st2_n M _ _ (by omega)
  have hI1 : InvX eM (M1 159) N K B := by rw [hk 159 (by decide)]; exact hp.1.2.1
  have hZ1 : Zn (M1 159) N := by rw [hk 159 (by decide)]; exact hp.1.2.2.1
  have hm1 : M1 158 5 = nI s := by rw [hk 158 (by decide)]; exact hm
  have hat1 : M1 158 6 = nI at_ := by rw [hk 158 (by decide)]; exact hat
  have hU1 : TxN M1 tx ln := TxN_cg (by rw [hk 158 (by decide)]) (hk 163 (by decide)) hU
  refine y_aload_n h.1 1 dL_law_794 rfl rfl ?_
  refine y_aload_n h.1 3 dL_law_795 rfl rfl ?_
  refine y_iload_n h.1 0 dL_law_796 rfl rfl ?_
  refine y_iconst h.1 (nI 1) dL_law_797 (by decide) ?_
  refine y_iadd_n h.1 dL_law_798 ?_
  refine y_sld h (by omega) hL dL_law_799 ?_
  refine y_callV h (As := [.int (xs (i + 1))]) 1 hx (c_X6_type hU1.1 hU1.2.1 (tx := tx)) gL_X6_type rfl ⟨rfl, rfl⟩ (by decide +kernel) rfl (by decide) (by decide) E_158 rfl rfl (Nat.le_of_ble_eq_true rfl) (Nat.le_of_ble_eq_true rfl) (Nat.le_of_ble_eq_true rfl) dL_law_800 (fun r' M2 P2 hm2 => ?_)
  obtain ⟨e, hw⟩ := S_type hW hB hc hm2
  exact y_icmp_eq h.1 857 dL_law_803 (by decide) (fun _ => kk M2 P2 hw) (fun c => absurd e c)

set_option maxRecDepth 100000 in
set_option maxHeartbeats 4000000 in
theorem lc_clearText {x : iC} {g : Geo} {b L i : Nat} {xs : Nat → Int32} {l : Launch} {M : Nat → Nat → Int32} {P : Nat → Nat} {B N K s at_ ln : Nat} {tx : Nat → Nat} (hx : x.1.2.1 = l) (h : Lk x g b L xs) (hL : L < 2 ^ 31) (hi : i + 5 < L) (hB : B + 9999 < 2 ^ 30) (hW : WI M P B N K s at_ tx ln) (kk : ∀ M' P', Wst M' P' (B + 9999) → Y x 857 [(3, .int (nI i)), (2, .ref (g.1 158)), (1, .ref (g.1 144)), (0, .ref b)] [] (wW g.1 (enc g M' P')) 168 8061) : Y x 808 [(3, .int (nI i)), (2, .ref (g.1 158)), (1, .ref (g.1 144)), (0, .ref b)] [] (wW g.1 (enc g M P)) 168 8061 := by
  obtain ⟨hP, hNb, hp, ⟨hs, hs4, hm, hat, hat4⟩, hH, hT, hU⟩ := id hW
  have hI := hp.1.1
  refine y_aload_n h.1 2 dL_law_808 rfl rfl ?_
  refine y_callV h (As := []) 0 hx (c_X5_clearText hT.1) gL_X5_clearText rfl ⟨rfl, rfl⟩ (by decide +kernel) rfl (by decide) (by decide) E_144 rfl rfl (Nat.le_of_ble_eq_true rfl) (Nat.le_of_ble_eq_true rfl) (Nat.le_of_ble_eq_true rfl) dL_law_809 (fun r M1 P1 hc => ?_)
  have hk : ∀ k, 157 < k → M1 k = M k := fun k hk => by rw [hc.2.2]; exact st2_n M _ _ (by omega)
  have hI1 : InvX eM (M1 159) N K B := by rw [hk 159 (by decide)]; exact hp.1.2.1
  have hZ1 : Zn (M1 159) N := by rw [hk 159 (by decide)]; exact hp.1.2.2.1
  have hm1 : M1 158 5 = nI s := by rw [hk 158 (by decide)]; exact hm
  have hat1 : M1 158 6 = nI at_ := by rw [hk 158 (by decide)]; exact hat
  have hU1 : TxN M1 tx ln := TxN_cg (by rw [hk 158 (by decide)]) (hk 163 (by decide)) hU
  refine y_aload_n h.1 1 dL_law_812 rfl rfl ?_
  refine y_callV h (As := []) 0 hx (c_X6_clearText hU1.1) gL_X6_clearText rfl ⟨rfl, rfl⟩ (by decide +kernel) rfl (by decide) (by decide) E_158 rfl rfl (Nat.le_of_ble_eq_true rfl) (Nat.le_of_ble_eq_true rfl) (Nat.le_of_ble_eq_true rfl) dL_law_813 (fun r' M2 P2 hm2 => ?_)
  obtain ⟨e, hw⟩ := S_clearText hW hB hc hm2
  exact y_icmp_eq h.1 857 dL_law_816 (by decide) (fun _ => kk M2 P2 hw) (fun c => absurd e c)

set_option maxRecDepth 100000 in
set_option maxHeartbeats 4000000 in
theorem lc_fault {x : iC} {g : Geo} {b L i : Nat} {xs : Nat → Int32} {l : Launch} {M : Nat → Nat → Int32} {P : Nat → Nat} {B N K s at_ ln : Nat} {tx : Nat → Nat} (hx : x.1.2.1 = l) (h : Lk x g b L xs) (hL : L < 2 ^ 31) (hi : i + 5 < L) (hB : B + 9999 < 2 ^ 30) (hW : WI M P B N K s at_ tx ln) (kk : ∀ M' P', Wst M' P' (B + 9999) → Y x 857 [(3, .int (nI i)), (2, .ref (g.1 158)), (1, .ref (g.1 144)), (0, .ref b)] [] (wW g.1 (enc g M' P')) 168 8061) : Y x 821 [(3, .int (nI i)), (2, .ref (g.1 158)), (1, .ref (g.1 144)), (0, .ref b)] [] (wW g.1 (enc g M P)) 168 8061 := by
  obtain ⟨hP, hNb, hp, ⟨hs, hs4, hm, hat, hat4⟩, hH, hT, hU⟩ := id hW
  have hI := hp.1.1
  refine y_aload_n h.1 2 dL_law_821 rfl rfl ?_
  refine y_aload_n h.1 3 dL_law_822 rfl rfl ?_
  refine y_iload_n h.1 0 dL_law_823 rfl rfl ?_
  refine y_iconst h.1 (nI 1) dL_law_824 (by decide) ?_
  refine y_iadd_n h.1 dL_law_825 ?_
  refine y_sld h (by omega) hL dL_law_826 ?_
  refine y_callV h (As := [.int (xs (i + 1))]) 1 hx (c_X5_fault hP hI hNb hT) gL_X5_fault rfl ⟨rfl, rfl⟩ (by decide +kernel) rfl (by decide) (by decide) E_144 rfl rfl (Nat.le_of_ble_eq_true rfl) (Nat.le_of_ble_eq_true rfl) (Nat.le_of_ble_eq_true rfl) dL_law_827 (fun r M1 P1 hc => ?_)
  have hk : ∀ k, 157 < k → M1 k = M k := fun k hk => hc.2.1 k (by have := hP.1 1 (by decide); omega) (by omega) (by omega)
  have hI1 : InvX eM (M1 159) N K B := by rw [hk 159 (by decide)]; exact hp.1.2.1
  have hZ1 : Zn (M1 159) N := by rw [hk 159 (by decide)]; exact hp.1.2.2.1
  have hm1 : M1 158 5 = nI s := by rw [hk 158 (by decide)]; exact hm
  have hat1 : M1 158 6 = nI at_ := by rw [hk 158 (by decide)]; exact hat
  have hU1 : TxN M1 tx ln := TxN_cg (by rw [hk 158 (by decide)]) (hk 163 (by decide)) hU
  refine y_aload_n h.1 1 dL_law_830 rfl rfl ?_
  refine y_aload_n h.1 3 dL_law_831 rfl rfl ?_
  refine y_iload_n h.1 0 dL_law_832 rfl rfl ?_
  refine y_iconst h.1 (nI 1) dL_law_833 (by decide) ?_
  refine y_iadd_n h.1 dL_law_834 ?_
  refine y_sld h (by omega) hL dL_law_835 ?_
  refine y_callV h (As := [.int (xs (i + 1))]) 1 hx (c_X6_fault hI1 hU1) gL_X6_fault rfl ⟨rfl, rfl⟩ (by decide +kernel) rfl (by decide) (by decide) E_158 rfl rfl (Nat.le_of_ble_eq_true rfl) (Nat.le_of_ble_eq_true rfl) (Nat.le_of_ble_eq_true rfl) dL_law_836 (fun r' M2 P2 hm2 => ?_)
  obtain ⟨e, hw⟩ := S_fault hW hB hc hm2
  exact y_icmp_eq h.1 857 dL_law_839 (by decide) (fun _ => kk M2 P2 hw) (fun c => absurd e c)

set_option maxRecDepth 100000 in
set_option maxHeartbeats 4000000 in
theorem lc_play {x : iC} {g : Geo} {b L i : Nat} {xs : Nat → Int32} {l : Launch} {M : Nat → Nat → Int32} {P : Nat → Nat} {B N K s at_ ln : Nat} {tx : Nat → Nat} (hx : x.1.2.1 = l) (h : Lk x g b L xs) (hL : L < 2 ^ 31) (hi : i + 5 < L) (hB : B + 9999 < 2 ^ 30) (hW : WI M P B N K s at_ tx ln) (kk : ∀ M' P', Wst M' P' (B + 9999) → Y x 857 [(3, .int (nI i)), (2, .ref (g.1 158)), (1, .ref (g.1 144)), (0, .ref b)] [] (wW g.1 (enc g M' P')) 168 8061) : Y x 844 [(3, .int (nI i)), (2, .ref (g.1 158)), (1, .ref (g.1 144)), (0, .ref b)] [] (wW g.1 (enc g M P)) 168 8061 := by
  obtain ⟨hP, hNb, hp, ⟨hs, hs4, hm, hat, hat4⟩, hH, hT, hU⟩ := id hW
  have hI := hp.1.1
  refine y_aload_n h.1 2 dL_law_844 rfl rfl ?_
  refine y_callV h (As := []) 0 hx (c_X5_play hP hI hs hs4 hNb hT) gL_X5_play rfl ⟨rfl, rfl⟩ (by decide +kernel) rfl (by decide) (by decide) E_144 rfl rfl (Nat.le_of_ble_eq_true rfl) (Nat.le_of_ble_eq_true rfl) (Nat.le_of_ble_eq_true rfl) dL_law_845 (fun r M1 P1 hc => ?_)
  have hk : ∀ k, 157 < k → M1 k = M k := fun k hk => hc.1 k (by have := hP.1 1 (by decide); omega) (by omega) (by omega) (by omega)
  have hI1 : InvX eM (M1 159) N K B := by rw [hk 159 (by decide)]; exact hp.1.2.1
  have hZ1 : Zn (M1 159) N := by rw [hk 159 (by decide)]; exact hp.1.2.2.1
  have hm1 : M1 158 5 = nI s := by rw [hk 158 (by decide)]; exact hm
  have hat1 : M1 158 6 = nI at_ := by rw [hk 158 (by decide)]; exact hat
  have hU1 : TxN M1 tx ln := TxN_cg (by rw [hk 158 (by decide)]) (hk 163 (by decide)) hU
  refine y_aload_n h.1 1 dL_law_848 rfl rfl ?_
  refine y_callV h (As := []) 0 hx (c_X6_play hI1 hU1 hm1 hs4 hat1 hat4) gL_X6_play rfl ⟨rfl, rfl⟩ (by decide +kernel) rfl (by decide) (by decide) E_158 rfl rfl (Nat.le_of_ble_eq_true rfl) (Nat.le_of_ble_eq_true rfl) (Nat.le_of_ble_eq_true rfl) dL_law_849 (fun r' M2 P2 hm2 => ?_)
  obtain ⟨e, hw⟩ := S_play hW hB hc hm2
  exact y_icmp_eq h.1 857 dL_law_852 (by decide) (fun _ => kk M2 P2 hw) (fun c => absurd e c)
