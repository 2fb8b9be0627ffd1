theorem y_wd {x : iC} {pc : Nat} {lv : List (Nat × Value)} {st : List Value} {ws : va_W} {N S : Nat} (k : va_D x.2.2.2.2.1 ws → Y x pc lv st ws N S) : Y x pc lv st ws N S := fun H locs ls h1 h2 h3 h4 => k h3 H locs ls h1 h2 h3 h4
set_option maxRecDepth 20000 in
set_option maxHeartbeats 4000000 in
theorem st_walk {x : iC} {D : va_G} {cA sa : Nat → Nat} {l : Launch} {b L : Nat} {xs : Nat → Int32} (hx : x.1.2.1 = l) (hY : Yk x D cA cL_law 4 wsL_law RL room_1) (hA : x.2.2.2.2.1 = fun q : Nat => x.1.2.2.2.2.heap.size ≤ q) (hL : L ≤ 3072) (hX : va_X b L xs x.1.2.2.2.2 x.1.2.2.2.2.heap) (hbl : b < x.1.2.2.2.2.heap.size) (hS : ∀ g : Geo, g.2.2.2 = sa → (∀ q, gA g q → x.1.2.2.2.2.heap.size ≤ q) → gStat g x.1.2.2.2.2 x.1.2.2.2.2.heap) (hN : gNest x.1.2.2.2.2) (hr : x.2.1.2.2.2.1.sig.returnType = ret) (hlk : x.2.1.2.2.2.1.locks = false) (hQ : x.2.2.2.2.2 = lw_Z x.2.1.2.2.1 #[Value.ref b] x.1.2.2.2.2) (ha : x.2.1.2.1 = #[Value.ref b]) : Y x 0 [(0, .ref b)] [] [] 0 0 := by
  refine y_new hY 5 [.null, .null, .null, .null, .null, .null, .int 0] lrX5 tyX5_ok (lr_1 _ (List.mem_of_getElem? (i := 0) rfl)) (lr_1 _ (List.mem_of_getElem? (i := 1) rfl)) (lr_1 _ (List.mem_of_getElem? (i := 2) rfl)) rfl (by decide +kernel) (Nat.le_of_ble_eq_true rfl) (Nat.le_of_ble_eq_true rfl) dL_law_0 (fun q1 => ?_)
  refine y_dup hY dL_law_3 rfl ?_
  refine y_init hY (q := q1) (wr := []) hx (fun sz => c_X5_init) (List.Perm.refl _) gG_X5_init rfl ⟨rfl, rfl⟩ (lr_1 _ (List.mem_of_getElem? (i := 2) rfl)) (lr_1 _ (List.mem_of_getElem? (i := 6) rfl)) (lr_1 _ (List.mem_of_getElem? (i := 7) rfl)) rfl (by decide +kernel) (by decide) (Nat.le_of_ble_eq_true rfl) (Nat.le_of_ble_eq_true rfl) (Nat.le_of_ble_eq_true rfl) dL_law_4 (fun a5 h5 => ?_)
  refine y_astore_n hY [(1, .ref q1), (0, .ref b)] dL_law_7 rfl (by decide) rfl ?_
  refine y_new hY 6 [.null, .null, .null, .null, .null, .int 0, .int 0, .int 0, .null, .null, .null, .int 0, .int 0, .int 0, .null, .int 0, .int 0, .int 0, .int 0] lrX6 tyX6_ok (lr_1 _ (List.mem_of_getElem? (i := 3) rfl)) (lr_1 _ (List.mem_of_getElem? (i := 4) rfl)) (lr_1 _ (List.mem_of_getElem? (i := 5) rfl)) rfl (by decide +kernel) (Nat.le_of_ble_eq_true rfl) (Nat.le_of_ble_eq_true rfl) dL_law_8 (fun q2 => ?_)
  refine y_dup hY dL_law_11 rfl ?_
  refine y_init hY (q := q2) (wr := W5 D cA a5 ++ []) hx (fun sz => c_X6_init) List.perm_append_comm gG_X6_init rfl ⟨rfl, rfl⟩ (lr_1 _ (List.mem_of_getElem? (i := 5) rfl)) (lr_3 _ (List.mem_of_getElem? (i := 20) rfl)) (lr_3 _ (List.mem_of_getElem? (i := 21) rfl)) rfl (by decide +kernel) (by decide) (Nat.le_of_ble_eq_true rfl) (Nat.le_of_ble_eq_true rfl) (Nat.le_of_ble_eq_true rfl) dL_law_12 (fun a6 h6 => ?_)
  refine y_astore_n hY [(2, .ref q2), (1, .ref q1), (0, .ref b)] dL_law_15 rfl (by decide) rfl ?_
  refine y_iconst hY (nI 0) dL_law_16 (by decide) ?_
  refine y_istore_n hY [(3, .int (nI 0)), (2, .ref q2), (1, .ref q1), (0, .ref b)] dL_law_17 rfl (by decide) rfl ?_
  subst h5 h6
  refine y_fin (sa := sa) hY.2.2.1 (y_wd (fun hD => ?_))
  have hj : gInj (gF D cA sa a5 a6) := fun i j hi hj e => hD.1 i j _ _ (wW_get hi) (wW_get hj) e
  have hz : ∀ k, k < 168 → x.1.2.2.2.2.heap.size ≤ (gF D cA sa a5 a6).1 k := fun k hk => by
    have h9 : x.2.2.2.2.1 ((gF D cA sa a5 a6).1 k) := hD.2 k _ (wW_get hk)
    rw [hA] at h9
    exact h9
  have h : Lk x (gF D cA sa a5 a6) b L xs := ⟨hY, ⟨hS _ rfl (fun q hq => by
    obtain ⟨k, hk, rfl⟩ := hq
    exact hz k hk), hj, hN, hz⟩, hA, hX, hbl⟩
  exact law_loop hx h hL (fun lv ws => y_lwret h hr hlk hQ ha (by decide) (by decide) dL_law_864) 513 0 0 M0 P0 (by omega) (by decide) (by decide) Wst_0
set_option maxRecDepth 20000 in
set_option maxHeartbeats 4000000 in
theorem whole_start {p : Program} {e : Env} {s : State} {m : MethodId} {below : List Frame} {meth : Method} {c : Code} (l : Launch) (hflags : l.flags = flags0) {b L : Nat} {xs : Nat → Int32} (hL : L ≤ 3072) (C0 : lw_At p s m meth c b L xs) : W p l e room_1 s m #[Value.ref b] below meth c s.heap [] 0 0 (lw_Z below #[Value.ref b] s) (entryFrame m ([Value.ref b] : List Value).toArray 4) := by
  obtain ⟨hex, hb, hr, hml, hown, hts, hX, hbl, hlk, hgv⟩ := C0
  obtain ⟨D, hD⟩ := st_known hts
  obtain ⟨cA, hcA⟩ := st_arrays hts
  obtain ⟨t0, z0, u0⟩ := st_LEAST hts hgv
  obtain ⟨t1, z1, u1⟩ := st_MOST hts hgv
  obtain ⟨t2, z2, u2⟩ := st_ORDERS hts hgv
  have hE : iEn D cA s := ⟨⟨hD, hcA⟩, ⟨va_AO.of (hts _ (tb_1 _ (List.mem_of_getElem? (i := 115) rfl))), va_AO.of (hts _ (tb_1 _ (List.mem_of_getElem? (i := 163) rfl))), va_AO.of (hts _ (tb_1 _ (List.mem_of_getElem? (i := 108) rfl)))⟩, va_Nw.of rfl (hts _ (tb_1 _ (List.mem_of_getElem? (i := 117) rfl))), va_Nw.of rfl (hts _ (tb_1 _ (List.mem_of_getElem? (i := 165) rfl)))⟩
  have hN : gNest s := ⟨va_Nw.of rfl (hts _ (tb_2 _ (List.mem_of_getElem? (i := 38) rfl))), va_Nw.of rfl (hts _ (tb_2 _ (List.mem_of_getElem? (i := 40) rfl)))⟩
  have hl := lv_entry ([Value.ref b]) (n := 4) (Nat.le_of_ble_eq_true rfl)
  rw [lg_entry_eq]
  refine st_walk (x := ((p, l, e, room_1, s), (m, #[Value.ref b], below, meth, c), D, 4, (fun q : Nat => s.heap.size ≤ q), lw_Z below #[Value.ref b] s)) (sa := fun n => if n = 0 then t0 else if n = 1 then t1 else t2) rfl ⟨⟨hex, hb, hml, hown, fun w hw => hts w (wsL_law_in w hw)⟩, ⟨hE, fun q hq => hq⟩, rfl, rfl, rfl⟩ rfl hL hX hbl (fun g hg hA => ?_) hN hr hlk rfl rfl s.heap [] _ hl (va_P_iff.mpr (fun q hq => absurd hq List.not_mem_nil)) (va_D_iff.mpr ⟨List.nodup_nil, fun q hq => absurd hq List.not_mem_nil⟩) va_S.rf
  have e0 : g.2.2.2 0 = t0 := by rw [hg]; rfl
  have e1 : g.2.2.2 1 = t1 := by rw [hg]; rfl
  have e2 : g.2.2.2 2 = t2 := by rw [hg]; rfl
  unfold gStat
  rw [e0, e1, e2]
  exact ⟨⟨z0.narrow hA, u0.narrow hA⟩, ⟨z1.narrow hA, u1.narrow hA⟩, ⟨z2.narrow hA, u2.narrow hA⟩⟩
