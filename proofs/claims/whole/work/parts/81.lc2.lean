set_option maxRecDepth 100000 in
set_option maxHeartbeats 4000000 in
theorem lc_lay {x : iC} {g : Geo} {b L i : Nat} {xs : Nat → Int32} {l : Launch} {M : Nat → Nat → Int32} {P : Nat → Nat} {B N K s at_ ln : Nat} {tx : Nat → Nat} (hx : x.1.2.1 = l) (h : Lk x g b L xs) (hL : L < 2 ^ 31) (hi : i + 5 < L) (hB : B + 9999 < 2 ^ 30) (hW : WI M P B N K s at_ tx ln) (kk : ∀ M' P', Wst M' P' (B + 9999) → Y x 857 [(3, .int (nI i)), (2, .ref (g.1 158)), (1, .ref (g.1 144)), (0, .ref b)] [] (wW g.1 (enc g M' P')) 168 8061) : Y x 407 [(3, .int (nI i)), (2, .ref (g.1 158)), (1, .ref (g.1 144)), (0, .ref b)] [] (wW g.1 (enc g M P)) 168 8061 := by
  obtain ⟨hP, hNb, hp, ⟨hs, hs4, hm, hat, hat4⟩, hH, hT, hU⟩ := id hW
  have hI := hp.1.1
  refine y_aload_n h.1 2 dL_law_407 rfl rfl ?_
  refine y_aload_n h.1 3 dL_law_408 rfl rfl ?_
  refine y_iload_n h.1 0 dL_law_409 rfl rfl ?_
  refine y_iconst h.1 (nI 1) dL_law_410 (by decide) ?_
  refine y_iadd_n h.1 dL_law_411 ?_
  refine y_sld h (by omega) hL dL_law_412 ?_
  refine y_callV h (As := [.int (xs (i + 1))]) 1 hx (c_X5_lay hP hI hs hs4 hNb) gL_X5_lay rfl ⟨rfl, rfl⟩ (by decide +kernel) rfl (by decide) (by decide) E_144 rfl rfl (Nat.le_of_ble_eq_true rfl) (Nat.le_of_ble_eq_true rfl) (Nat.le_of_ble_eq_true rfl) dL_law_413 (fun r M1 P1 hc => ?_)
  have hk : ∀ k, 157 < k → M1 k = M k := fun k hk => hc.1 k (by have := hP.1 1 (by decide); omega) (by omega) (by omega) (by omega)
  have hI1 : InvX eM (M1 159) N K B := by rw [hk 159 (by decide)]; exact hp.1.2.1
  have hZ1 : Zn (M1 159) N := by rw [hk 159 (by decide)]; exact hp.1.2.2.1
  have hm1 : M1 158 5 = nI s := by rw [hk 158 (by decide)]; exact hm
  have hat1 : M1 158 6 = nI at_ := by rw [hk 158 (by decide)]; exact hat
  have hU1 : TxN M1 tx ln := TxN_cg (by rw [hk 158 (by decide)]) (hk 163 (by decide)) hU
  refine y_aload_n h.1 1 dL_law_416 rfl rfl ?_
  refine y_aload_n h.1 3 dL_law_417 rfl rfl ?_
  refine y_iload_n h.1 0 dL_law_418 rfl rfl ?_
  refine y_iconst h.1 (nI 1) dL_law_419 (by decide) ?_
  refine y_iadd_n h.1 dL_law_420 ?_
  refine y_sld h (by omega) hL dL_law_421 ?_
  refine y_callV h (As := [.int (xs (i + 1))]) 1 hx (c_X6_lay hI1 hm1 hs4 hat1 hat4) gL_X6_lay rfl ⟨rfl, rfl⟩ (by decide +kernel) rfl (by decide) (by decide) E_158 rfl rfl (Nat.le_of_ble_eq_true rfl) (Nat.le_of_ble_eq_true rfl) (Nat.le_of_ble_eq_true rfl) dL_law_422 (fun r' M2 P2 hm2 => ?_)
  obtain ⟨e, hw⟩ := S_lay hW hB hc hm2
  exact y_icmp_eq h.1 857 dL_law_425 (by decide) (fun _ => kk M2 P2 hw) (fun c => absurd e c)

set_option maxRecDepth 100000 in
set_option maxHeartbeats 4000000 in
theorem lc_dig {x : iC} {g : Geo} {b L i : Nat} {xs : Nat → Int32} {l : Launch} {M : Nat → Nat → Int32} {P : Nat → Nat} {B N K s at_ ln : Nat} {tx : Nat → Nat} (hx : x.1.2.1 = l) (h : Lk x g b L xs) (hL : L < 2 ^ 31) (hi : i + 5 < L) (hB : B + 9999 < 2 ^ 30) (hW : WI M P B N K s at_ tx ln) (kk : ∀ M' P', Wst M' P' (B + 9999) → Y x 857 [(3, .int (nI i)), (2, .ref (g.1 158)), (1, .ref (g.1 144)), (0, .ref b)] [] (wW g.1 (enc g M' P')) 168 8061) : Y x 430 [(3, .int (nI i)), (2, .ref (g.1 158)), (1, .ref (g.1 144)), (0, .ref b)] [] (wW g.1 (enc g M P)) 168 8061 := by
  obtain ⟨hP, hNb, hp, ⟨hs, hs4, hm, hat, hat4⟩, hH, hT, hU⟩ := id hW
  have hI := hp.1.1
  refine y_aload_n h.1 2 dL_law_430 rfl rfl ?_
  refine y_aload_n h.1 3 dL_law_431 rfl rfl ?_
  refine y_iload_n h.1 0 dL_law_432 rfl rfl ?_
  refine y_iconst h.1 (nI 1) dL_law_433 (by decide) ?_
  refine y_iadd_n h.1 dL_law_434 ?_
  refine y_sld h (by omega) hL dL_law_435 ?_
  refine y_callV h (As := [.int (xs (i + 1))]) 1 hx (c_X5_dig hP hI hs hs4 hNb) gL_X5_dig rfl ⟨rfl, rfl⟩ (by decide +kernel) rfl (by decide) (by decide) E_144 rfl rfl (Nat.le_of_ble_eq_true rfl) (Nat.le_of_ble_eq_true rfl) (Nat.le_of_ble_eq_true rfl) dL_law_436 (fun r M1 P1 hc => ?_)
  have hk : ∀ k, 157 < k → M1 k = M k := fun k hk => hc.1 k (by have := hP.1 1 (by decide); omega) (by omega) (by omega) (by omega)
  have hI1 : InvX eM (M1 159) N K B := by rw [hk 159 (by decide)]; exact hp.1.2.1
  have hZ1 : Zn (M1 159) N := by rw [hk 159 (by decide)]; exact hp.1.2.2.1
  have hm1 : M1 158 5 = nI s := by rw [hk 158 (by decide)]; exact hm
  have hat1 : M1 158 6 = nI at_ := by rw [hk 158 (by decide)]; exact hat
  have hU1 : TxN M1 tx ln := TxN_cg (by rw [hk 158 (by decide)]) (hk 163 (by decide)) hU
  refine y_aload_n h.1 1 dL_law_439 rfl rfl ?_
  refine y_aload_n h.1 3 dL_law_440 rfl rfl ?_
  refine y_iload_n h.1 0 dL_law_441 rfl rfl ?_
  refine y_iconst h.1 (nI 1) dL_law_442 (by decide) ?_
  refine y_iadd_n h.1 dL_law_443 ?_
  refine y_sld h (by omega) hL dL_law_444 ?_
  refine y_callV h (As := [.int (xs (i + 1))]) 1 hx (c_X6_dig hI1 hm1 hs4 hat1 hat4) gL_X6_dig rfl ⟨rfl, rfl⟩ (by decide +kernel) rfl (by decide) (by decide) E_158 rfl rfl (Nat.le_of_ble_eq_true rfl) (Nat.le_of_ble_eq_true rfl) (Nat.le_of_ble_eq_true rfl) dL_law_445 (fun r' M2 P2 hm2 => ?_)
  obtain ⟨e, hw⟩ := S_dig hW hB hc hm2
  exact y_icmp_eq h.1 857 dL_law_448 (by decide) (fun _ => kk M2 P2 hw) (fun c => absurd e c)

set_option maxRecDepth 100000 in
set_option maxHeartbeats 4000000 in
theorem lc_rip {x : iC} {g : Geo} {b L i : Nat} {xs : Nat → Int32} {l : Launch} {M : Nat → Nat → Int32} {P : Nat → Nat} {B N K s at_ ln : Nat} {tx : Nat → Nat} (hx : x.1.2.1 = l) (h : Lk x g b L xs) (hL : L < 2 ^ 31) (hi : i + 5 < L) (hB : B + 9999 < 2 ^ 30) (hW : WI M P B N K s at_ tx ln) (kk : ∀ M' P', Wst M' P' (B + 9999) → Y x 857 [(3, .int (nI i)), (2, .ref (g.1 158)), (1, .ref (g.1 144)), (0, .ref b)] [] (wW g.1 (enc g M' P')) 168 8061) : Y x 453 [(3, .int (nI i)), (2, .ref (g.1 158)), (1, .ref (g.1 144)), (0, .ref b)] [] (wW g.1 (enc g M P)) 168 8061 := by
  obtain ⟨hP, hNb, hp, ⟨hs, hs4, hm, hat, hat4⟩, hH, hT, hU⟩ := id hW
  have hI := hp.1.1
  refine y_aload_n h.1 2 dL_law_453 rfl rfl ?_
  refine y_aload_n h.1 3 dL_law_454 rfl rfl ?_
  refine y_iload_n h.1 0 dL_law_455 rfl rfl ?_
  refine y_iconst h.1 (nI 1) dL_law_456 (by decide) ?_
  refine y_iadd_n h.1 dL_law_457 ?_
  refine y_sld h (by omega) hL dL_law_458 ?_
  refine y_callV h (As := [.int (xs (i + 1))]) 1 hx (c_X5_rip hP hI hs hs4) gL_X5_rip rfl ⟨rfl, rfl⟩ (by decide +kernel) rfl (by decide) (by decide) E_144 rfl rfl (Nat.le_of_ble_eq_true rfl) (Nat.le_of_ble_eq_true rfl) (Nat.le_of_ble_eq_true rfl) dL_law_459 (fun r M1 P1 hc => ?_)
  have hk : ∀ k, 157 < k → M1 k = M k := fun k hk => hc.1 k (by have := hP.1 1 (by decide); omega) (by omega) (by omega) (by omega)
  have hI1 : InvX eM (M1 159) N K B := by rw [hk 159 (by decide)]; exact hp.1.2.1
  have hZ1 : Zn (M1 159) N := by rw [hk 159 (by decide)]; exact hp.1.2.2.1
  have hm1 : M1 158 5 = nI s := by rw [hk 158 (by decide)]; exact hm
  have hat1 : M1 158 6 = nI at_ := by rw [hk 158 (by decide)]; exact hat
  have hU1 : TxN M1 tx ln := TxN_cg (by rw [hk 158 (by decide)]) (hk 163 (by decide)) hU
  refine y_aload_n h.1 1 dL_law_462 rfl rfl ?_
  refine y_aload_n h.1 3 dL_law_463 rfl rfl ?_
  refine y_iload_n h.1 0 dL_law_464 rfl rfl ?_
  refine y_iconst h.1 (nI 1) dL_law_465 (by decide) ?_
  refine y_iadd_n h.1 dL_law_466 ?_
  refine y_sld h (by omega) hL dL_law_467 ?_
  refine y_callV h (As := [.int (xs (i + 1))]) 1 hx (c_X6_rip hI1 hm1 hs4 hat1 hat4) gL_X6_rip rfl ⟨rfl, rfl⟩ (by decide +kernel) rfl (by decide) (by decide) E_158 rfl rfl (Nat.le_of_ble_eq_true rfl) (Nat.le_of_ble_eq_true rfl) (Nat.le_of_ble_eq_true rfl) dL_law_468 (fun r' M2 P2 hm2 => ?_)
  obtain ⟨e, hw⟩ := S_rip hW hB hc hm2
  exact y_icmp_eq h.1 857 dL_law_471 (by decide) (fun _ => kk M2 P2 hw) (fun c => absurd e c)

set_option maxRecDepth 100000 in
set_option maxHeartbeats 4000000 in
theorem lc_appeal {x : iC} {g : Geo} {b L i : Nat} {xs : Nat → Int32} {l : Launch} {M : Nat → Nat → Int32} {P : Nat → Nat} {B N K s at_ ln : Nat} {tx : Nat → Nat} (hx : x.1.2.1 = l) (h : Lk x g b L xs) (hL : L < 2 ^ 31) (hi : i + 5 < L) (hB : B + 9999 < 2 ^ 30) (hW : WI M P B N K s at_ tx ln) (kk : ∀ M' P', Wst M' P' (B + 9999) → Y x 857 [(3, .int (nI i)), (2, .ref (g.1 158)), (1, .ref (g.1 144)), (0, .ref b)] [] (wW g.1 (enc g M' P')) 168 8061) : Y x 476 [(3, .int (nI i)), (2, .ref (g.1 158)), (1, .ref (g.1 144)), (0, .ref b)] [] (wW g.1 (enc g M P)) 168 8061 := by
  obtain ⟨hP, hNb, hp, ⟨hs, hs4, hm, hat, hat4⟩, hH, hT, hU⟩ := id hW
  have hI := hp.1.1
  refine y_aload_n h.1 2 dL_law_476 rfl rfl ?_
  refine y_aload_n h.1 3 dL_law_477 rfl rfl ?_
  refine y_iload_n h.1 0 dL_law_478 rfl rfl ?_
  refine y_iconst h.1 (nI 1) dL_law_479 (by decide) ?_
  refine y_iadd_n h.1 dL_law_480 ?_
  refine y_sld h (by omega) hL dL_law_481 ?_
  refine y_callV h (As := [.int (xs (i + 1))]) 1 hx (c_X5_appeal hP hI hs hs4) gL_X5_appeal rfl ⟨rfl, rfl⟩ (by decide +kernel) rfl (by decide) (by decide) E_144 rfl rfl (Nat.le_of_ble_eq_true rfl) (Nat.le_of_ble_eq_true rfl) (Nat.le_of_ble_eq_true rfl) dL_law_482 (fun r M1 P1 hc => ?_)
  have hk : ∀ k, 157 < k → M1 k = M k := fun k hk => hc.1 k (by have := hP.1 1 (by decide); omega) (by omega) (by omega) (by omega)
  have hI1 : InvX eM (M1 159) N K B := by rw [hk 159 (by decide)]; exact hp.1.2.1
  have hZ1 : Zn (M1 159) N := by rw [hk 159 (by decide)]; exact hp.1.2.2.1
  have hm1 : M1 158 5 = nI s := by rw [hk 158 (by decide)]; exact hm
  have hat1 : M1 158 6 = nI at_ := by rw [hk 158 (by decide)]; exact hat
  have hU1 : TxN M1 tx ln := TxN_cg (by rw [hk 158 (by decide)]) (hk 163 (by decide)) hU
  refine y_aload_n h.1 1 dL_law_485 rfl rfl ?_
  refine y_aload_n h.1 3 dL_law_486 rfl rfl ?_
  refine y_iload_n h.1 0 dL_law_487 rfl rfl ?_
  refine y_iconst h.1 (nI 1) dL_law_488 (by decide) ?_
  refine y_iadd_n h.1 dL_law_489 ?_
  refine y_sld h (by omega) hL dL_law_490 ?_
  refine y_callV h (As := [.int (xs (i + 1))]) 1 hx (c_X6_appeal hI1 hm1 hs4 hat1 hat4) gL_X6_appeal rfl ⟨rfl, rfl⟩ (by decide +kernel) rfl (by decide) (by decide) E_158 rfl rfl (Nat.le_of_ble_eq_true rfl) (Nat.le_of_ble_eq_true rfl) (Nat.le_of_ble_eq_true rfl) dL_law_491 (fun r' M2 P2 hm2 => ?_)
  obtain ⟨e, hw⟩ := S_appeal hW hB hc hm2
  exact y_icmp_eq h.1 857 dL_law_494 (by decide) (fun _ => kk M2 P2 hw) (fun c => absurd e c)

set_option maxRecDepth 100000 in
set_option maxHeartbeats 4000000 in
theorem lc_hear {x : iC} {g : Geo} {b L i : Nat} {xs : Nat → Int32} {l : Launch} {M : Nat → Nat → Int32} {P : Nat → Nat} {B N K s at_ ln : Nat} {tx : Nat → Nat} (hx : x.1.2.1 = l) (h : Lk x g b L xs) (hL : L < 2 ^ 31) (hi : i + 5 < L) (hB : B + 9999 < 2 ^ 30) (hW : WI M P B N K s at_ tx ln) (kk : ∀ M' P', Wst M' P' (B + 9999) → Y x 857 [(3, .int (nI i)), (2, .ref (g.1 158)), (1, .ref (g.1 144)), (0, .ref b)] [] (wW g.1 (enc g M' P')) 168 8061) : Y x 499 [(3, .int (nI i)), (2, .ref (g.1 158)), (1, .ref (g.1 144)), (0, .ref b)] [] (wW g.1 (enc g M P)) 168 8061 := by
  obtain ⟨hP, hNb, hp, ⟨hs, hs4, hm, hat, hat4⟩, hH, hT, hU⟩ := id hW
  have hI := hp.1.1
  refine y_aload_n h.1 2 dL_law_499 rfl rfl ?_
  refine y_callV h (As := []) 0 hx (c_X5_hear hP hI hs hs4) gL_X5_hear rfl ⟨rfl, rfl⟩ (by decide +kernel) rfl (by decide) (by decide) E_144 rfl rfl (Nat.le_of_ble_eq_true rfl) (Nat.le_of_ble_eq_true rfl) (Nat.le_of_ble_eq_true rfl) dL_law_500 (fun r M1 P1 hc => ?_)
  have hk : ∀ k, 157 < k → M1 k = M k := fun k hk => hc.1 k (by have := hP.1 1 (by decide); omega) (by omega) (by omega) (by omega)
  have hI1 : InvX eM (M1 159) N K B := by rw [hk 159 (by decide)]; exact hp.1.2.1
  have hZ1 : Zn (M1 159) N := by rw [hk 159 (by decide)]; exact hp.1.2.2.1
  have hm1 : M1 158 5 = nI s := by rw [hk 158 (by decide)]; exact hm
  have hat1 : M1 158 6 = nI at_ := by rw [hk 158 (by decide)]; exact hat
  have hU1 : TxN M1 tx ln := TxN_cg (by rw [hk 158 (by decide)]) (hk 163 (by decide)) hU
  refine y_aload_n h.1 1 dL_law_503 rfl rfl ?_
  refine y_callV h (As := []) 0 hx (c_X6_hear hI1 hm1 hs4 hat1 hat4) gL_X6_hear rfl ⟨rfl, rfl⟩ (by decide +kernel) rfl (by decide) (by decide) E_158 rfl rfl (Nat.le_of_ble_eq_true rfl) (Nat.le_of_ble_eq_true rfl) (Nat.le_of_ble_eq_true rfl) dL_law_504 (fun r' M2 P2 hm2 => ?_)
  obtain ⟨e, hw⟩ := S_hear hW hB hc hm2
  exact y_icmp_eq h.1 857 dL_law_507 (by decide) (fun _ => kk M2 P2 hw) (fun c => absurd e c)

set_option maxRecDepth 100000 in
set_option maxHeartbeats 4000000 in
theorem lc_pass {x : iC} {g : Geo} {b L i : Nat} {xs : Nat → Int32} {l : Launch} {M : Nat → Nat → Int32} {P : Nat → Nat} {B N K s at_ ln : Nat} {tx : Nat → Nat} (hx : x.1.2.1 = l) (h : Lk x g b L xs) (hL : L < 2 ^ 31) (hi : i + 5 < L) (hB : B + 9999 < 2 ^ 30) (hW : WI M P B N K s at_ tx ln) (kk : ∀ M' P', Wst M' P' (B + 9999) → Y x 857 [(3, .int (nI i)), (2, .ref (g.1 158)), (1, .ref (g.1 144)), (0, .ref b)] [] (wW g.1 (enc g M' P')) 168 8061) : Y x 512 [(3, .int (nI i)), (2, .ref (g.1 158)), (1, .ref (g.1 144)), (0, .ref b)] [] (wW g.1 (enc g M P)) 168 8061 := by
  obtain ⟨hP, hNb, hp, ⟨hs, hs4, hm, hat, hat4⟩, hH, hT, hU⟩ := id hW
  have hI := hp.1.1
  refine y_aload_n h.1 2 dL_law_512 rfl rfl ?_
  refine y_aload_n h.1 3 dL_law_513 rfl rfl ?_
  refine y_iload_n h.1 0 dL_law_514 rfl rfl ?_
  refine y_iconst h.1 (nI 1) dL_law_515 (by decide) ?_
  refine y_iadd_n h.1 dL_law_516 ?_
  refine y_sld h (by omega) hL dL_law_517 ?_
  refine y_callV h (As := [.int (xs (i + 1))]) 1 hx (c_X5_pass hP hI hs hs4) gL_X5_pass rfl ⟨rfl, rfl⟩ (by decide +kernel) rfl (by decide) (by decide) E_144 rfl rfl (Nat.le_of_ble_eq_true rfl) (Nat.le_of_ble_eq_true rfl) (Nat.le_of_ble_eq_true rfl) dL_law_518 (fun r M1 P1 hc => ?_)
  have hk : ∀ k, 157 < k → M1 k = M k := fun k hk => hc.1 k (by have := hP.1 1 (by decide); omega) (by omega) (by omega) (by omega)
  have hI1 : InvX eM (M1 159) N K B := by rw [hk 159 (by decide)]; exact hp.1.2.1
  have hZ1 : Zn (M1 159) N := by rw [hk 159 (by decide)]; exact hp.1.2.2.1
  have hm1 : M1 158 5 = nI s := by rw [hk 158 (by decide)]; exact hm
  have hat1 : M1 158 6 = nI at_ := by rw [hk 158 (by decide)]; exact hat
  have hU1 : TxN M1 tx ln := TxN_cg (by rw [hk 158 (by decide)]) (hk 163 (by decide)) hU
  refine y_aload_n h.1 1 dL_law_521 rfl rfl ?_
  refine y_aload_n h.1 3 dL_law_522 rfl rfl ?_
  refine y_iload_n h.1 0 dL_law_523 rfl rfl ?_
  refine y_iconst h.1 (nI 1) dL_law_524 (by decide) ?_
  refine y_iadd_n h.1 dL_law_525 ?_
  refine y_sld h (by omega) hL dL_law_526 ?_
  refine y_callV h (As := [.int (xs (i + 1))]) 1 hx (c_X6_pass hm1 hs4 hat1 hat4) gL_X6_pass rfl ⟨rfl, rfl⟩ (by decide +kernel) rfl (by decide) (by decide) E_158 rfl rfl (Nat.le_of_ble_eq_true rfl) (Nat.le_of_ble_eq_true rfl) (Nat.le_of_ble_eq_true rfl) dL_law_527 (fun r' M2 P2 hm2 => ?_)
  obtain ⟨e, hw⟩ := S_pass hW hB hc hm2
  exact y_icmp_eq h.1 857 dL_law_530 (by decide) (fun _ => kk M2 P2 hw) (fun c => absurd e c)

set_option maxRecDepth 100000 in
set_option maxHeartbeats 4000000 in
theorem lc_cost {x : iC} {g : Geo} {b L i : Nat} {xs : Nat → Int32} {l : Launch} {M : Nat → Nat → Int32} {P : Nat → Nat} {B N K s at_ ln : Nat} {tx : Nat → Nat} (hx : x.1.2.1 = l) (h : Lk x g b L xs) (hL : L < 2 ^ 31) (hi : i + 5 < L) (hB : B + 9999 < 2 ^ 30) (hW : WI M P B N K s at_ tx ln) (kk : ∀ M' P', Wst M' P' (B + 9999) → Y x 857 [(3, .int (nI i)), (2, .ref (g.1 158)), (1, .ref (g.1 144)), (0, .ref b)] [] (wW g.1 (enc g M' P')) 168 8061) : Y x 535 [(3, .int (nI i)), (2, .ref (g.1 158)), (1, .ref (g.1 144)), (0, .ref b)] [] (wW g.1 (enc g M P)) 168 8061 := by
  obtain ⟨hP, hNb, hp, ⟨hs, hs4, hm, hat, hat4⟩, hH, hT, hU⟩ := id hW
  have hI := hp.1.1
  refine y_aload_n h.1 2 dL_law_535 rfl rfl ?_
  refine y_aload_n h.1 3 dL_law_536 rfl rfl ?_
  refine y_iload_n h.1 0 dL_law_537 rfl rfl ?_
  refine y_iconst h.1 (nI 1) dL_law_538 (by decide) ?_
  refine y_iadd_n h.1 dL_law_539 ?_
  refine y_sld h (by omega) hL dL_law_540 ?_
  refine y_aload_n h.1 3 dL_law_541 rfl rfl ?_
  refine y_iload_n h.1 0 dL_law_542 rfl rfl ?_
  refine y_iconst h.1 (nI 2) dL_law_543 (by decide) ?_
  refine y_iadd_n h.1 dL_law_544 ?_
  refine y_sld h (by omega) hL dL_law_545 ?_
  refine y_callV h (As := [.int (xs (i + 1)), .int (xs (i + 2))]) 2 hx (c_X5_cost hP hI hNb) gL_X5_cost rfl ⟨rfl, rfl⟩ (by decide +kernel) rfl (by decide) (by decide) E_144 rfl rfl (Nat.le_of_ble_eq_true rfl) (Nat.le_of_ble_eq_true rfl) (Nat.le_of_ble_eq_true rfl) dL_law_546 (fun r M1 P1 hc => ?_)
  have hk : ∀ k, 157 < k → M1 k = M k := fun k hk => hc.2.1 k (Or.inr (Or.inr hk))
  have hI1 : InvX eM (M1 159) N K B := by rw [hk 159 (by decide)]; exact hp.1.2.1
  have hZ1 : Zn (M1 159) N := by rw [hk 159 (by decide)]; exact hp.1.2.2.1
  have hm1 : M1 158 5 = nI s := by rw [hk 158 (by decide)]; exact hm
  have hat1 : M1 158 6 = nI at_ := by rw [hk 158 (by decide)]; exact hat
  have hU1 : TxN M1 tx ln := TxN_cg (by rw [hk 158 (by decide)]) (hk 163 (by decide)) hU
  refine y_aload_n h.1 1 dL_law_549 rfl rfl ?_
  refine y_aload_n h.1 3 dL_law_550 rfl rfl ?_
  refine y_iload_n h.1 0 dL_law_551 rfl rfl ?_
  refine y_iconst h.1 (nI 1) dL_law_552 (by decide) ?_
  refine y_iadd_n h.1 dL_law_553 ?_
  refine y_sld h (by omega) hL dL_law_554 ?_
  refine y_aload_n h.1 3 dL_law_555 rfl rfl ?_
  refine y_iload_n h.1 0 dL_law_556 rfl rfl ?_
  refine y_iconst h.1 (nI 2) dL_law_557 (by decide) ?_
  refine y_iadd_n h.1 dL_law_558 ?_
  refine y_sld h (by omega) hL dL_law_559 ?_
  refine y_callV h (As := [.int (xs (i + 1)), .int (xs (i + 2))]) 2 hx (c_X6_cost hI1) gL_X6_cost rfl ⟨rfl, rfl⟩ (by decide +kernel) rfl (by decide) (by decide) E_158 rfl rfl (Nat.le_of_ble_eq_true rfl) (Nat.le_of_ble_eq_true rfl) (Nat.le_of_ble_eq_true rfl) dL_law_560 (fun r' M2 P2 hm2 => ?_)
  obtain ⟨e, hw⟩ := S_cost hW hB hc hm2
  exact y_icmp_eq h.1 857 dL_law_563 (by decide) (fun _ => kk M2 P2 hw) (fun c => absurd e c)
