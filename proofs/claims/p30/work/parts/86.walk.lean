theorem y_wd {x : iC} {pc : Nat} {lv : List (Nat × Value)} {st : List Value} {ws : va_W} {N S : Nat} (k : va_D x.2.2.2.2.1 ws → Y x pc lv st ws N S) : Y x pc lv st ws N S := fun H locs ls h1 h2 h3 h4 => k h3 H locs ls h1 h2 h3 h4
theorem y_T {x : iC} {g : Geo} {pc : Nat} {lv : List (Nat × Value)} {st : List Value} {M : Nat → Nat → Int32} {P : Nat → Nat} {n1 n2 : Nat} (hA : x.2.2.2.2.1 = fun q : Nat => x.1.2.2.2.2.heap.size ≤ q) (hD : x.2.2.1 = g.2.1) (k : T (x.1, x.2.1, g, x.2.2.2.1, x.2.2.2.2.2) (fun _ => True) n1 n2 pc lv st M P) : Y x pc lv st (wW g.1 (enc g M P)) n1 n2 := by
  obtain ⟨⟨p, l', e, R, s⟩, ⟨m, args, below, meth, c⟩, D', nL', A, Q⟩ := x
  have hA : A = fun q : Nat => s.heap.size ≤ q := hA
  have hD : D' = g.2.1 := hD
  subst hA hD
  intro H locs ls h1 h2 h3 h4
  exact k H locs ls h1 h2 trivial (va_S_mono (fun q hq => Or.inr hq) h4)
/-- the fresh state is in order -/
theorem WI_0 : WI M0 P0 0 0 0 100000 0 := by
  have hX : ∀ j, M0 0 j = chip0 j := fun _ => rfl
  have ho : ∀ a, a < 162 → chip0 (7 + a) = -1 := fun a ha => by
    unfold chip0
    rw [if_neg (by omega), if_neg (by omega), if_neg (by omega), if_neg (by omega), if_pos (by omega)]
  have hz : ∀ j, 169 ≤ j → chip0 j = 0 := fun j hj => by
    unfold chip0
    rw [if_neg (by omega), if_neg (by omega), if_neg (by omega), if_neg (by omega), if_neg (by omega)]
  have hIC : InvX eC (M0 0) 0 0 0 := by
    refine ⟨⟨rfl, by decide, rfl, by decide, ⟨3, rfl, by decide, by decide⟩, ⟨4, rfl, by decide⟩, fun k hk => absurd hk (Nat.not_lt_zero k), fun k hk => absurd hk (Nat.not_lt_zero k)⟩, fun a ha => Or.inl (Or.inl ?_), fun a ha => ?_, fun k hk => absurd hk (Nat.not_lt_zero k), ⟨fun _ => 0, fun k hk => absurd hk (Nat.not_lt_zero k), by decide⟩, by decide⟩
    · rw [hX, ho a ha]; rfl
    · rw [hX, hX, ho a (by omega), ho (a + 81) (by omega)]
  have hZb : ZbX (M0 0) 0 := fun i _ hi a ha => by
    unfold bC
    rw [hX, hz _ (by omega)]
    exact decide_eq_false (fun hq => by
      rcases (show i = 0 ∨ i = 1 ∨ i = 2 ∨ i = 3 ∨ i = 4 ∨ i = 5 ∨ i = 6 ∨ i = 7 ∨ i = 8 ∨ i = 9 ∨ i = 10 ∨ i = 11 by omega) with rfl | rfl | rfl | rfl | rfl | rfl | rfl | rfl | rfl | rfl | rfl | rfl <;> exact absurd hq (by decide))
  refine ⟨⟨fun i hi => hi, fun i j _ _ e => e⟩, fun c k hc hk => ?_, ⟨⟨hIC, hZb⟩, fun k hk => absurd hk (Nat.not_lt_zero k), ⟨0, rfl, by decide, by decide, fun i hi => absurd hi (Nat.not_lt_zero i)⟩, fun i hi => absurd hi (by omega), ⟨6, rfl, by decide⟩, ⟨6, rfl, by decide⟩⟩, ⟨rfl, by decide⟩, rfl, fun t ht => absurd ht (Nat.not_lt_zero t)⟩
  show nbT (3 * c + k) = _
  unfold nbT
  rw [show (3 * c + k) % 3 = k by omega, show (3 * c + k) / 3 = c by omega]
theorem wir_0 : wir chip0 eC.1 = 162 := by decide +kernel
set_option maxRecDepth 100000 in
set_option maxHeartbeats 16000000 in
theorem law_8 {x : Ctx} {g : Geo} {l : Launch} {b n1 n2 : Nat} (hx : x.1.2.1 = l) (h : Tk x g (fun _ => True) n1 n2 cL_law 16 wsL_law RL room_1) (kk : ∀ M', WI M' P0 0 0 0 100000 0 → T x (fun _ => True) n1 n2 103 [(0, .ref b), (1, .ref (g.1 144)), (2, .int (nI 1)), (3, .int (nI 0))] [] M' P0) : T x (fun _ => True) n1 n2 8 [(1, .ref (g.1 144)), (0, .ref b)] [] M0 P0 := by
  have hW := WI_0
  have hX : M0 (P0 0) = chip0 := rfl
  refine tt_aload_n h 0 dL_law_8 rfl rfl ?_
  refine tt_callV h (As := []) 0 hx (c_X5_undo hW.hP hW.hs hW.hs4) gL_law_X5_undo rfl ⟨rfl, rfl⟩ (by decide +kernel) rfl (by decide) (by decide) E_144 rfl rfl (Nat.le_of_ble_eq_true rfl) dL_law_9 (fun a9 M9_ P9_ hp => ?_)
  obtain ⟨-, rfl, rfl, rfl⟩ := hp.resolve_right (fun q => q.1 rfl)
  refine tt_ldc h ((-1000002)) (by decide +kernel) dL_law_12 ?_
  refine tt_icmp_ne h 99 dL_law_14 (by decide) (fun c => absurd c (by decide)) (fun _ => ?_)
  refine tt_aload_n h 0 dL_law_17 rfl rfl ?_
  refine tt_bipush h (nI 20) dL_law_18 (by decide) ?_
  refine tt_callV h (As := [.int (nI 20)]) 1 hx (c_X5_count hW.hP hW.hI hW.hs hW.hs4 hW.hln) gL_law_X5_count rfl ⟨rfl, rfl⟩ (by decide +kernel) rfl (by decide) (by decide) E_144 rfl rfl (Nat.le_of_ble_eq_true rfl) dL_law_20 (fun a20 M' P' hp => ?_)
  rw [hX] at hp
  obtain ⟨⟨rfl, rfl⟩, hQ⟩ := hp
  have hz : _ = nI 3 := (cnt_at (j := 20) (by omega) (by omega) (by omega) hQ).trans (rfl)
  clear hQ
  subst hz
  refine tt_iconst h (nI 3) dL_law_23 (by decide) ?_
  refine tt_icmp_ne h 99 dL_law_24 (by decide) (fun c => absurd c (by decide)) (fun _ => ?_)
  refine tt_aload_n h 0 dL_law_27 rfl rfl ?_
  refine tt_bipush h (nI 21) dL_law_28 (by decide) ?_
  refine tt_callV h (As := [.int (nI 21)]) 1 hx (c_X5_count hW.hP hW.hI hW.hs hW.hs4 hW.hln) gL_law_X5_count rfl ⟨rfl, rfl⟩ (by decide +kernel) rfl (by decide) (by decide) E_144 rfl rfl (Nat.le_of_ble_eq_true rfl) dL_law_30 (fun a30 M' P' hp => ?_)
  rw [hX] at hp
  obtain ⟨⟨rfl, rfl⟩, hQ⟩ := hp
  have hz : _ = nI 4 := (cnt_at (j := 21) (by omega) (by omega) (by omega) hQ).trans (rfl)
  clear hQ
  subst hz
  refine tt_iconst h (nI 4) dL_law_33 (by decide) ?_
  refine tt_icmp_ne h 99 dL_law_34 (by decide) (fun c => absurd c (by decide)) (fun _ => ?_)
  refine tt_aload_n h 0 dL_law_37 rfl rfl ?_
  refine tt_bipush h (nI 22) dL_law_38 (by decide) ?_
  refine tt_callV h (As := [.int (nI 22)]) 1 hx (c_X5_count hW.hP hW.hI hW.hs hW.hs4 hW.hln) gL_law_X5_count rfl ⟨rfl, rfl⟩ (by decide +kernel) rfl (by decide) (by decide) E_144 rfl rfl (Nat.le_of_ble_eq_true rfl) dL_law_40 (fun a40 M' P' hp => ?_)
  rw [hX] at hp
  obtain ⟨⟨rfl, rfl⟩, hQ⟩ := hp
  have hz : _ = nI 6 := (cnt_at (j := 22) (by omega) (by omega) (by omega) hQ).trans (rfl)
  clear hQ
  subst hz
  refine tt_bipush h (nI 6) dL_law_43 (by decide) ?_
  refine tt_icmp_ne h 99 dL_law_45 (by decide) (fun c => absurd c (by decide)) (fun _ => ?_)
  refine tt_aload_n h 0 dL_law_48 rfl rfl ?_
  refine tt_bipush h (nI 23) dL_law_49 (by decide) ?_
  refine tt_callV h (As := [.int (nI 23)]) 1 hx (c_X5_count hW.hP hW.hI hW.hs hW.hs4 hW.hln) gL_law_X5_count rfl ⟨rfl, rfl⟩ (by decide +kernel) rfl (by decide) (by decide) E_144 rfl rfl (Nat.le_of_ble_eq_true rfl) dL_law_51 (fun a51 M' P' hp => ?_)
  rw [hX] at hp
  obtain ⟨⟨rfl, rfl⟩, hQ⟩ := hp
  have hz : _ = nI 6 := (cnt_at (j := 23) (by omega) (by omega) (by omega) hQ).trans (rfl)
  clear hQ
  subst hz
  refine tt_bipush h (nI 6) dL_law_54 (by decide) ?_
  refine tt_icmp_ne h 99 dL_law_56 (by decide) (fun c => absurd c (by decide)) (fun _ => ?_)
  refine tt_aload_n h 0 dL_law_59 rfl rfl ?_
  refine tt_iconst h (nI 3) dL_law_60 (by decide) ?_
  refine tt_callV h (As := [.int (nI 3)]) 1 hx (c_X5_count hW.hP hW.hI hW.hs hW.hs4 hW.hln) gL_law_X5_count rfl ⟨rfl, rfl⟩ (by decide +kernel) rfl (by decide) (by decide) E_144 rfl rfl (Nat.le_of_ble_eq_true rfl) dL_law_61 (fun a61 M' P' hp => ?_)
  rw [hX] at hp
  obtain ⟨⟨rfl, rfl⟩, hQ⟩ := hp
  have hz : _ = nI 162 := (cnt_at (j := 3) (by omega) (by omega) (by omega) hQ).trans (congrArg nI wir_0)
  clear hQ
  subst hz
  refine tt_sipush h (nI 162) dL_law_64 (by decide) ?_
  refine tt_icmp_ne h 99 dL_law_67 (by decide) (fun c => absurd c (by decide)) (fun _ => ?_)
  refine tt_aload_n h 0 dL_law_70 rfl rfl ?_
  refine tt_iconst h (nI 0) dL_law_71 (by decide) ?_
  refine tt_callV h (As := [.int (nI 0)]) 1 hx (c_X5_fault hW.hP hW.hI hW.hNb hW.hT) gL_law_X5_fault rfl ⟨rfl, rfl⟩ (by decide +kernel) rfl (by decide) (by decide) E_144 rfl rfl (Nat.le_of_ble_eq_true rfl) dL_law_72 (fun a72 M72_ P72_ hp => ?_)
  obtain ⟨rfl, h1, h2, Y, hY, hQ⟩ := hp
  have hz := flt_0 hQ
  clear hQ hY
  subst hz
  have hp1 := hW.hP.1 1 (by decide)
  replace hW := WI_fr hW (M' := M72_) ⟨fun k a b c d e => h1 k a d (by omega), by rw [h1 144 (by omega) (by omega) (by omega)], h2⟩
  clear h1 h2 hp1 hX
  refine tt_ldc h ((-1000004)) (by decide +kernel) dL_law_75 ?_
  refine tt_icmp_ne h 99 dL_law_77 (by decide) (fun c => absurd c (by decide)) (fun _ => ?_)
  refine tt_aload_n h 0 dL_law_80 rfl rfl ?_
  refine tt_iconst h ((-1)) dL_law_81 (by decide) ?_
  refine tt_callV h (As := [.int (-1)]) 1 hx (c_X5_bestOrder hW.hP hW.hI hW.hNb) gL_law_X5_bestOrder rfl ⟨rfl, rfl⟩ (by decide +kernel) rfl (by decide) (by decide) E_144 rfl rfl (Nat.le_of_ble_eq_true rfl) dL_law_82 (fun a82 M82_ P82_ hp => ?_)
  obtain ⟨rfl, hF, hQ⟩ := hp
  have hz := (bo_m1 hQ).2 rfl
  clear hQ
  subst hz
  replace hW := WI_fr hW (FrS_B hW.hP hF)
  clear hF
  refine tt_if_ne h 99 dL_law_85 (by decide) (fun c => absurd c (by decide)) (fun _ => ?_)
  refine tt_aload_n h 0 dL_law_88 rfl rfl ?_
  refine tt_callS h (As := [.ref (g.1 144)]) 1 hx (c_L_refused hW) gL_law_L_refused rfl ⟨rfl, rfl⟩ (by decide +kernel) rfl (by decide) (Nat.le_of_ble_eq_true rfl) dL_law_89 (fun a89 M89_ P89_ hp => ?_)
  obtain ⟨rfl, hF, rfl⟩ := hp
  replace hW := WI_fr hW hF
  clear hF
  refine tt_if_eq h 99 dL_law_92 (by decide) (fun c => absurd c (by decide)) (fun _ => ?_)
  refine tt_iconst h (nI 1) dL_law_95 (by decide) ?_
  refine tt_goto h 100 dL_law_96 (by decide) ?_
  refine tt_istore_n h [(2, .int (nI 1)), (1, .ref (g.1 144)), (0, .ref b)] dL_law_100 rfl (by decide) rfl ?_
  refine tt_iconst h (nI 0) dL_law_101 (by decide) ?_
  refine tt_istore_n h [(3, .int (nI 0)), (2, .int (nI 1)), (1, .ref (g.1 144)), (0, .ref b)] dL_law_102 rfl (by decide) rfl ?_
  exact tt_lv (kk _ hW) [3, 2, 1, 0] rfl

set_option maxRecDepth 20000 in
set_option maxHeartbeats 4000000 in
theorem st_walk {x : iC} {D : va_G} {cA sa : Nat → Nat} {l : Launch} {b L : Nat} {xs : Nat → Int32} (hx : x.1.2.1 = l) (hY : Yk x D cA cL_law 16 wsL_law RL room_1) (hA : x.2.2.2.2.1 = fun q : Nat => x.1.2.2.2.2.heap.size ≤ q) (hL : L ≤ 260) (hX : va_X b L xs x.1.2.2.2.2 x.1.2.2.2.2.heap) (hbl : b < x.1.2.2.2.2.heap.size) (hS : ∀ g : Geo, g.2.2.2 = sa → (∀ q, gA g q → x.1.2.2.2.2.heap.size ≤ q) → gStat g x.1.2.2.2.2 x.1.2.2.2.2.heap) (hN : gNest x.1.2.2.2.2) (hr : x.2.1.2.2.2.1.sig.returnType = ret) (hlk : x.2.1.2.2.2.1.locks = false) (hQ : x.2.2.2.2.2 = lw_Z x.2.1.2.2.1 #[Value.ref b] x.1.2.2.2.2) (ha : x.2.1.2.1 = #[Value.ref b]) : Y x 0 [(0, .ref b)] [] [] 0 0 := by
  refine y_new hY 5 [.null, .null, .null, .null, .null, .null, .int 0] lrX5 tyX5_ok (lr_1 _ (List.mem_of_getElem? (i := 0) rfl)) (lr_1 _ (List.mem_of_getElem? (i := 1) rfl)) (lr_1 _ (List.mem_of_getElem? (i := 2) rfl)) rfl (by decide +kernel) (Nat.le_of_ble_eq_true rfl) (Nat.le_of_ble_eq_true rfl) dL_law_0 (fun q1 => ?_)
  refine y_dup hY dL_law_3 rfl ?_
  refine y_init hY (q := q1) (wr := []) hx (fun sz => c_X5_init) (List.Perm.refl _) gG_X5_init rfl ⟨rfl, rfl⟩ (lr_1 _ (List.mem_of_getElem? (i := 2) rfl)) (lr_1 _ (List.mem_of_getElem? (i := 7) rfl)) (lr_1 _ (List.mem_of_getElem? (i := 8) rfl)) rfl (by decide +kernel) (by decide) (Nat.le_of_ble_eq_true rfl) (Nat.le_of_ble_eq_true rfl) (Nat.le_of_ble_eq_true rfl) dL_law_4 (fun a5 h5 => ?_)
  refine y_astore_n hY [(1, .ref q1), (0, .ref b)] dL_law_7 rfl (by decide) rfl ?_
  subst h5
  refine y_fin (sa := sa) hY.2.2.1 (y_wd (fun hD => ?_))
  have hj : gInj (gF D cA sa a5) := fun i j hi hj e => hD.1 i j _ _ (wW_get hi) (wW_get hj) e
  have hz : ∀ k, k < 158 → x.1.2.2.2.2.heap.size ≤ (gF D cA sa a5).1 k := fun k hk => by
    have h9 : x.2.2.2.2.1 ((gF D cA sa a5).1 k) := hD.2 k _ (wW_get hk)
    rw [hA] at h9
    exact h9
  have hG : Gd (gF D cA sa a5) x.1.2.2.2.2 x.1.2.2.2.2.heap := ⟨hY.2.1.1.1, hS _ rfl (fun q hq => by
    obtain ⟨k, hk, rfl⟩ := hq
    exact hz k hk), hj, hN⟩
  have hh : ∀ j, j ≤ 26 → Tk (x.1, x.2.1, gF D cA sa a5, x.2.2.2.1, x.2.2.2.2.2) (gF D cA sa a5) (fun _ => True) (158 + j) (4672 + 6 * j) cL_law 16 wsL_law RL room_1 := fun j hj9 => ⟨⟨hY.1, hG, rfl, hY.2.2.2.1, hY.2.2.2.2⟩, Est_T _, Nat.le_trans (Nat.add_le_add_left hj9 158) (by decide), Nat.le_trans (Nat.add_le_add_left (Nat.mul_le_mul_left 6 hj9) 4672) (by decide)⟩
  have hc : LC (x.1, x.2.1, gF D cA sa a5, x.2.2.2.1, x.2.2.2.2.2) b L xs := ⟨hX, hbl, hz, hr, hlk, hQ, ha⟩
  refine y_T (g := gF D cA sa a5) hA hY.2.2.1 ?_
  exact law_8 hx (hh 0 (Nat.zero_le _)) (fun M' hW => l_loop hx hh hc hL 26 0 0 0 0 M' P0 rfl hW)

set_option maxRecDepth 20000 in
set_option maxHeartbeats 4000000 in
theorem whole_start {p : Program} {e : Env} {s : State} {m : MethodId} {below : List Frame} {meth : Method} {c : Code} (l : Launch) (hflags : l.flags = flags0) {b L : Nat} {xs : Nat → Int32} (hL : L ≤ 260) (C0 : lw_At p s m meth c b L xs) : W p l e room_1 s m #[Value.ref b] below meth c s.heap [] 0 0 (lw_Z below #[Value.ref b] s) (entryFrame m ([Value.ref b] : List Value).toArray 16) := by
  obtain ⟨hex, hb, hr, hml, hown, hts, hX, hbl, hlk, hgv⟩ := C0
  obtain ⟨D, hD⟩ := st_known hts
  obtain ⟨cA, hcA⟩ := st_arrays hts
  obtain ⟨t0, z0, u0⟩ := st_LEAST hts hgv
  obtain ⟨t1, z1, u1⟩ := st_MOST hts hgv
  obtain ⟨t2, z2, u2⟩ := st_ORDERS hts hgv
  have hE : iEn D cA s := ⟨⟨hD, hcA⟩, ⟨va_AO.of (hts _ (tb_1 _ (List.mem_of_getElem? (i := 113) rfl))), va_AO.of (hts _ (tb_1 _ (List.mem_of_getElem? (i := 161) rfl))), va_AO.of (hts _ (tb_1 _ (List.mem_of_getElem? (i := 106) rfl)))⟩, va_Nw.of rfl (hts _ (tb_1 _ (List.mem_of_getElem? (i := 115) rfl))), va_Nw.of rfl (hts _ (tb_1 _ (List.mem_of_getElem? (i := 163) rfl)))⟩
  have hN : gNest s := ⟨va_Nw.of rfl (hts _ (tb_2 _ (List.mem_of_getElem? (i := 36) rfl))), va_Nw.of rfl (hts _ (tb_2 _ (List.mem_of_getElem? (i := 38) rfl)))⟩
  have hl := lv_entry ([Value.ref b]) (n := 16) (Nat.le_of_ble_eq_true rfl)
  rw [lg_entry_eq]
  refine st_walk (x := ((p, l, e, room_1, s), (m, #[Value.ref b], below, meth, c), D, 16, (fun q : Nat => s.heap.size ≤ q), lw_Z below #[Value.ref b] s)) (sa := fun n => if n = 0 then t0 else if n = 1 then t1 else t2) rfl ⟨⟨hex, hb, hml, hown, fun w hw => hts w (wsL_law_in w hw)⟩, ⟨hE, fun q hq => hq⟩, rfl, rfl, rfl⟩ rfl hL hX hbl (fun g hg hA => ?_) hN hr hlk rfl rfl s.heap [] _ hl (va_P_iff.mpr (fun q hq => absurd hq List.not_mem_nil)) (va_D_iff.mpr ⟨List.nodup_nil, fun q hq => absurd hq List.not_mem_nil⟩) va_S.rf
  have e0 : g.2.2.2 0 = t0 := by rw [hg]; rfl
  have e1 : g.2.2.2 1 = t1 := by rw [hg]; rfl
  have e2 : g.2.2.2 2 = t2 := by rw [hg]; rfl
  unfold gStat
  rw [e0, e1, e2]
  exact ⟨⟨z0.narrow hA, u0.narrow hA⟩, ⟨z1.narrow hA, u1.narrow hA⟩, ⟨z2.narrow hA, u2.narrow hA⟩⟩
