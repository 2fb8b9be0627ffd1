
theorem startO_some {D : Nat → Nat} {p s : Nat} (h : startO D p = some s) : (s = p ∨ s = p + 81) ∧ D s < 1000000 := by
  unfold startO at h
  by_cases h1 : D p ≤ D (p + 81)
  · rw [if_pos h1] at h
    by_cases h2 : D p < 1000000
    · rw [if_pos h2] at h; cases h; exact ⟨Or.inl rfl, h2⟩
    · rw [if_neg h2] at h; cases h
  · rw [if_neg h1] at h
    by_cases h2 : D (p + 81) < 1000000
    · rw [if_pos h2] at h; cases h; exact ⟨Or.inr rfl, h2⟩
    · rw [if_neg h2] at h; cases h
theorem nxJ_some {vc : Nat} {tw : Nat → Option Nat} {J : Nat → Bool} {D : Nat → Nat} {c t : Nat} (h : nxJ vc tw J D c = some t) : J c = false ∧ nxtO vc tw D c = some t := by
  unfold nxJ at h
  by_cases e : J c = true
  · rw [if_pos e] at h; cases h
  · rw [if_neg e] at h; exact ⟨by simpa using e, h⟩
theorem pth_lt {vc : Nat} {tw : Nat → Option Nat} {J : Nat → Bool} {D : Nat → Nat} : ∀ (f c : Nat), c < 162 → ∀ a, a ∈ pthL vc tw J D f c → a < 162
  | 0, c, hc, a, ha => by rw [pthL] at ha; rw [List.mem_singleton.mp ha]; exact hc
  | f + 1, c, hc, a, ha => by
    rw [pthL] at ha
    cases h : nxJ vc tw J D c with
    | none => rw [h] at ha; rw [List.mem_singleton.mp ha]; exact hc
    | some t =>
      rw [h] at ha
      rcases List.mem_cons.mp ha with e | e
      · rw [e]; exact hc
      · obtain ⟨k, -, hn, -⟩ := nxtO_some (nxJ_some h).2
        exact pth_lt f t (nb_lt hc hn) a e
theorem pth_len {vc : Nat} {tw : Nat → Option Nat} {J : Nat → Bool} {D : Nat → Nat} : ∀ (f c : Nat), (pthL vc tw J D f c).length ≤ f + 1
  | 0, c => by rw [pthL]; exact Nat.le_refl _
  | f + 1, c => by
    rw [pthL]
    cases h : nxJ vc tw J D c with
    | none => exact Nat.succ_le_succ (Nat.zero_le _)
    | some t => exact Nat.succ_le_succ (pth_len f t)
theorem take_s {l : List Nat} {m : Nat} (h : m < l.length) : l.take (m + 1) = l.take m ++ [l.getD m 0] := by
  rw [List.take_add_one]
  simp [List.getD_eq_getElem?_getD, List.getElem?_eq_getElem h]
theorem joinL_app (X : Nat → Int32) (v : Int32) (J : Nat → Bool) (l : List Nat) (a : Nat) : joinL X v J (l ++ [a]) = joinB X v (joinL X v J l) a := by
  unfold joinL; rw [List.foldl_append]; rfl
theorem upd_c {f g : Nat → Int32} {a b : Nat} {v : Int32} (h : f b = g b) : upd f a v b = upd g a v b := by
  unfold upd; rw [h]
theorem tw0_app (tw : Nat → Option Nat) (l : List Nat) (a b : Nat) : tollI (tw0 tw (l ++ [a]) b) = upd (fun b => tollI (tw0 tw l b)) a (nI 0) b := by
  unfold tw0 upd
  by_cases e : b = a
  · subst e; rw [if_pos rfl, if_pos (List.mem_append_right _ (List.mem_singleton.mpr rfl))]; rfl
  · rw [if_neg e]
    by_cases e2 : b ∈ l
    · show _ = tollI (if b ∈ l then some 0 else tw b)
      rw [if_pos e2, if_pos (List.mem_append_left _ e2)]
    · show _ = tollI (if b ∈ l then some 0 else tw b)
      rw [if_neg e2, if_neg (fun h => (List.mem_append.mp h).elim e2 (fun h => e (List.mem_singleton.mp h)))]
theorem dcl_le {vc : Nat} (hv : 1 ≤ vc) (tw : Nat → Option Nat) (J : Nat → Bool) {a : Nat} (ha : a < 162) : dcl tw (dS vc tw J) a ≤ 1000000 := by
  unfold dcl
  split
  · exact Nat.le_refl _
  · exact (dS_sol hv tw J).1 a ha
theorem dcl_open {tw : Nat → Option Nat} {d : Nat → Nat} {a : Nat} (h : dcl tw d a < 1000000) : tw a ≠ none := fun e => by
  unfold dcl at h
  rw [if_pos e] at h
  exact Nat.lt_irrefl _ h
def FrR (M M' : Nat → Nat → Int32) : Prop := (∀ k, (k < 149 ∨ k = 150 ∨ 157 < k) → M' k = M k) ∧ M' 149 8 = M 149 8
theorem FrR_Q {M M' : Nat → Nat → Int32} (h : FrQ M M') : FrR M M' := ⟨fun k hk => h.1 k (by omega) (by omega) (by omega) (by omega), h.2 8 (by decide) (by decide)⟩
theorem FrR_A {M M' : Nat → Nat → Int32} (h : FrA M M') : FrR M M' := ⟨fun k hk => h.1 k (by omega) (by omega) (by omega), h.2 8 (by decide) (by decide) (by decide)⟩
theorem FrR_tr {M M1 M2 : Nat → Nat → Int32} (h : FrR M M1) (h2 : FrR M1 M2) : FrR M M2 := ⟨fun k hk => (h2.1 k hk).trans (h.1 k hk), h2.2.trans h.2⟩
theorem FrR_J {M M' : Nat → Nat → Int32} (h : ∀ k, k ≠ 151 → k ≠ 152 → M' k = M k) : FrR M M' := ⟨fun k hk => h k (by omega) (by omega), by rw [h 149 (by decide) (by decide)]⟩
theorem FrR_c (M : Nat → Nat → Int32) (j : Nat) (v : Int32) (hj : j ≠ 8) : FrR M (st2 M 149 j v) := ⟨fun k hk => st2_n M j v (by omega), by rw [st2_k, pk_un (fun e => hj e.symm)]⟩
theorem RtM_fr {M M' : Nat → Nat → Int32} {L : List Nat} {acc : Acc} (h : RtM M L acc) (h1 : M' 156 = M 156) (h2 : M' 157 = M 157) (h3 : ∀ j, 11 ≤ j → j ≠ 12 → M' 149 j = M 149 j) : RtM M' L acc := ⟨by rw [h3 11 (by decide) (by decide)]; exact h.1, fun i hi => by rw [h1]; exact h.2.1 i hi, by rw [h3 14 (by decide) (by decide)]; exact h.2.2.1, by rw [h3 13 (by decide) (by decide)]; exact h.2.2.2.1, fun k hk => by rw [h2]; exact h.2.2.2.2 k hk⟩

set_option maxRecDepth 20000 in
theorem ggX3_addPath_X3_measure : GoodIn wsX3_addPath wsX3_measure := goodIn_r _ [9, 10, 11, 2, 12, 13, 14, 15, 16, 17, 18, 19, 20, 8, 21, 22, 23, 24, 25, 26, 57, 58, 59, 60, 61, 62, 63, 64, 65, 66, 67, 68, 69, 70, 71] (by decide +kernel) (by decide +kernel)
set_option maxRecDepth 20000 in
theorem gX3_addPath_X3_measure : GoodIn wsX3_addPath (wsV RX3 90 RX3 yX3_measure wsX3_measure) := goodIn_app (goodIn_of _ (by decide +kernel)) ggX3_addPath_X3_measure
set_option maxRecDepth 20000 in
theorem ggX3_addPath_X3_nearerCell : GoodIn wsX3_addPath wsX3_nearerCell := goodIn_r _ [30, 2, 12, 57, 58, 59, 60, 61, 62, 63, 64, 65, 66, 67, 68, 69, 70, 71] (by decide +kernel) (by decide +kernel)
set_option maxRecDepth 20000 in
theorem gX3_addPath_X3_nearerCell : GoodIn wsX3_addPath (wsV RX3 93 RX3 yX3_nearerCell wsX3_nearerCell) := goodIn_app (goodIn_of _ (by decide +kernel)) ggX3_addPath_X3_nearerCell
set_option maxRecDepth 20000 in
theorem ggX3_addPath_X3_addCell : GoodIn wsX3_addPath wsX3_addCell := goodIn_r _ [34, 3, 4, 35, 36, 37, 16, 38, 39, 40, 41, 42, 43, 44, 57, 58, 59, 60, 61, 62, 63, 64, 65, 66, 67, 68, 69, 70, 71, 72, 73, 74, 75, 76, 77, 78, 79] (by decide +kernel) (by decide +kernel)
set_option maxRecDepth 20000 in
theorem gX3_addPath_X3_addCell : GoodIn wsX3_addPath (wsV RX3 97 RX3 yX3_addCell wsX3_addCell) := goodIn_app (goodIn_of _ (by decide +kernel)) ggX3_addPath_X3_addCell
set_option maxRecDepth 20000 in
theorem ggX3_addPath_X3_nextCell : GoodIn wsX3_addPath wsX3_nextCell := goodIn_r _ [48, 14, 17, 2, 12, 16, 22, 23, 24, 8, 25, 26, 57, 58, 59, 60, 61, 62, 63, 64, 65, 66, 67, 68, 69, 70, 71] (by decide +kernel) (by decide +kernel)
set_option maxRecDepth 20000 in
theorem gX3_addPath_X3_nextCell : GoodIn wsX3_addPath (wsV RX3 101 RX3 yX3_nextCell wsX3_nextCell) := goodIn_app (goodIn_of _ (by decide +kernel)) ggX3_addPath_X3_nextCell
set_option maxRecDepth 20000 in
theorem ggX3_addPath_X3_joinCell : GoodIn wsX3_addPath wsX3_joinCell := goodIn_r _ [52, 14, 16, 35, 53, 54, 55, 8, 56, 57, 58, 59, 60, 61, 62, 63, 64, 65, 66, 67, 68, 69, 70, 71, 72, 73, 74, 75, 76, 77, 78, 79] (by decide +kernel) (by decide +kernel)
set_option maxRecDepth 20000 in
theorem gX3_addPath_X3_joinCell : GoodIn wsX3_addPath (wsV RX3 104 RX3 yX3_joinCell wsX3_joinCell) := goodIn_app (goodIn_of _ (by decide +kernel)) ggX3_addPath_X3_joinCell
theorem dX3_addPath_0 : decode cX3_addPath 0 = .ok (.aload_n 0, 1) := by decide +kernel
theorem dX3_addPath_1 : decode cX3_addPath 1 = .ok (.invokevirtual 90, 3) := by decide +kernel
theorem dX3_addPath_4 : decode cX3_addPath 4 = .ok (.aload_n 0, 1) := by decide +kernel
theorem dX3_addPath_5 : decode cX3_addPath 5 = .ok (.iload_n 3, 1) := by decide +kernel
theorem dX3_addPath_6 : decode cX3_addPath 6 = .ok (.invokevirtual 93, 3) := by decide +kernel
theorem dX3_addPath_9 : decode cX3_addPath 9 = .ok (.istore 4, 2) := by decide +kernel
theorem dX3_addPath_11 : decode cX3_addPath 11 = .ok (.iload 4, 2) := by decide +kernel
theorem dX3_addPath_13 : decode cX3_addPath 13 = .ok (.iconst (-1), 1) := by decide +kernel
theorem dX3_addPath_14 : decode cX3_addPath 14 = .ok (.if_icmp .ne 5, 3) := by decide +kernel
theorem dX3_addPath_17 : decode cX3_addPath 17 = .ok (.iconst 0, 1) := by decide +kernel
theorem dX3_addPath_18 : decode cX3_addPath 18 = .ok (.ireturn, 1) := by decide +kernel
theorem dX3_addPath_19 : decode cX3_addPath 19 = .ok (.aload_n 0, 1) := by decide +kernel
theorem dX3_addPath_20 : decode cX3_addPath 20 = .ok (.dup, 1) := by decide +kernel
theorem dX3_addPath_21 : decode cX3_addPath 21 = .ok (.getfield 42, 3) := by decide +kernel
theorem dX3_addPath_24 : decode cX3_addPath 24 = .ok (.aload_n 0, 1) := by decide +kernel
theorem dX3_addPath_25 : decode cX3_addPath 25 = .ok (.getfield 22, 3) := by decide +kernel
theorem dX3_addPath_28 : decode cX3_addPath 28 = .ok (.iload 4, 2) := by decide +kernel
theorem dX3_addPath_30 : decode cX3_addPath 30 = .ok (.iaload, 1) := by decide +kernel
theorem dX3_addPath_31 : decode cX3_addPath 31 = .ok (.iadd, 1) := by decide +kernel
theorem dX3_addPath_32 : decode cX3_addPath 32 = .ok (.putfield 42, 3) := by decide +kernel
theorem dX3_addPath_35 : decode cX3_addPath 35 = .ok (.aload_n 0, 1) := by decide +kernel
theorem dX3_addPath_36 : decode cX3_addPath 36 = .ok (.getfield 37, 3) := by decide +kernel
theorem dX3_addPath_39 : decode cX3_addPath 39 = .ok (.istore 5, 2) := by decide +kernel
theorem dX3_addPath_41 : decode cX3_addPath 41 = .ok (.iconst 0, 1) := by decide +kernel
theorem dX3_addPath_42 : decode cX3_addPath 42 = .ok (.istore 6, 2) := by decide +kernel
theorem dX3_addPath_44 : decode cX3_addPath 44 = .ok (.iload 6, 2) := by decide +kernel
theorem dX3_addPath_46 : decode cX3_addPath 46 = .ok (.sipush 162, 3) := by decide +kernel
theorem dX3_addPath_49 : decode cX3_addPath 49 = .ok (.if_icmp .ge 30, 3) := by decide +kernel
theorem dX3_addPath_52 : decode cX3_addPath 52 = .ok (.iload 4, 2) := by decide +kernel
theorem dX3_addPath_54 : decode cX3_addPath 54 = .ok (.iconst (-1), 1) := by decide +kernel
theorem dX3_addPath_55 : decode cX3_addPath 55 = .ok (.if_icmp .eq 24, 3) := by decide +kernel
theorem dX3_addPath_58 : decode cX3_addPath 58 = .ok (.aload_n 0, 1) := by decide +kernel
theorem dX3_addPath_59 : decode cX3_addPath 59 = .ok (.aload_n 1, 1) := by decide +kernel
theorem dX3_addPath_60 : decode cX3_addPath 60 = .ok (.iload 4, 2) := by decide +kernel
theorem dX3_addPath_62 : decode cX3_addPath 62 = .ok (.invokevirtual 97, 3) := by decide +kernel
theorem dX3_addPath_65 : decode cX3_addPath 65 = .ok (.aload_n 0, 1) := by decide +kernel
theorem dX3_addPath_66 : decode cX3_addPath 66 = .ok (.iload 4, 2) := by decide +kernel
theorem dX3_addPath_68 : decode cX3_addPath 68 = .ok (.invokevirtual 101, 3) := by decide +kernel
theorem dX3_addPath_71 : decode cX3_addPath 71 = .ok (.istore 4, 2) := by decide +kernel
theorem dX3_addPath_73 : decode cX3_addPath 73 = .ok (.iinc 6 1, 3) := by decide +kernel
theorem dX3_addPath_76 : decode cX3_addPath 76 = .ok (.goto (-32), 3) := by decide +kernel
theorem dX3_addPath_79 : decode cX3_addPath 79 = .ok (.iload 5, 2) := by decide +kernel
theorem dX3_addPath_81 : decode cX3_addPath 81 = .ok (.istore 6, 2) := by decide +kernel
theorem dX3_addPath_83 : decode cX3_addPath 83 = .ok (.iload 6, 2) := by decide +kernel
theorem dX3_addPath_85 : decode cX3_addPath 85 = .ok (.aload_n 0, 1) := by decide +kernel
theorem dX3_addPath_86 : decode cX3_addPath 86 = .ok (.getfield 37, 3) := by decide +kernel
theorem dX3_addPath_89 : decode cX3_addPath 89 = .ok (.if_icmp .ge 22, 3) := by decide +kernel
theorem dX3_addPath_92 : decode cX3_addPath 92 = .ok (.aload_n 0, 1) := by decide +kernel
theorem dX3_addPath_93 : decode cX3_addPath 93 = .ok (.aload_n 1, 1) := by decide +kernel
theorem dX3_addPath_94 : decode cX3_addPath 94 = .ok (.iload_n 2, 1) := by decide +kernel
theorem dX3_addPath_95 : decode cX3_addPath 95 = .ok (.aload_n 0, 1) := by decide +kernel
theorem dX3_addPath_96 : decode cX3_addPath 96 = .ok (.getfield 31, 3) := by decide +kernel
theorem dX3_addPath_99 : decode cX3_addPath 99 = .ok (.iload 6, 2) := by decide +kernel
theorem dX3_addPath_101 : decode cX3_addPath 101 = .ok (.iaload, 1) := by decide +kernel
theorem dX3_addPath_102 : decode cX3_addPath 102 = .ok (.invokevirtual 104, 3) := by decide +kernel
theorem dX3_addPath_105 : decode cX3_addPath 105 = .ok (.iinc 6 1, 3) := by decide +kernel
theorem dX3_addPath_108 : decode cX3_addPath 108 = .ok (.goto (-25), 3) := by decide +kernel
theorem dX3_addPath_111 : decode cX3_addPath 111 = .ok (.iconst 1, 1) := by decide +kernel
theorem dX3_addPath_112 : decode cX3_addPath 112 = .ok (.ireturn, 1) := by decide +kernel
abbrev rmX3_addPath : Room := { frames := 2, cells := 0, slots := 0, locals := 47 }
set_option maxRecDepth 20000 in
theorem in_X3_addPath_X3 : ∀ w ∈ wsX30, w ∈ wsX3_addPath := by decide +kernel

set_option maxRecDepth 100000 in
set_option maxHeartbeats 8000000 in
theorem c_X3_addPath {l : Launch} {g : Geo} {M : Nat → Nat → Int32} {P : Nat → Nat} {c : Nat} (hc : c < 6) {N : Nat} (hN : M c 5 = nI N) (hN6 : N ≤ 6) {vc : Nat} {tw : Nat → Option Nat} {J : Nat → Bool} (hv : 1 ≤ vc ∧ vc ≤ 20) (hvc : M 149 8 = nI vc) (hNb : Nbr M) (hT : ∀ a, a < 162 → M 152 a = tollI (tw a)) (hw : ∀ a w, tw a = some w → w ≤ 59) (hJ : ∀ a, a < 162 → M 151 a = bI (J a)) (hJt : ∀ a, J a = true → tw a ≠ none) {L : List Nat} {acc : Acc} {z n p : Nat} (hR : RtM M L acc) (hz : M 149 12 = nI z) (hL : L.length ≤ 162) (hp : p < 81) : Met l yX3_addPath wsX3_addPath rmX3_addPath (cPre g [.ref (g.1 149), .ref (g.1 (24 * c)), .int (nI n), .int (nI p)] M P) (cQi g (fun r M' P' => P = P' ∧ FrR M M' ∧ ((startO (dcl tw (dS vc tw J)) p = none ∧ r = nI 0) ∨ ∃ s, startO (dcl tw (dS vc tw J)) p = some s ∧ r = nI 1 ∧ RtM M' (L ++ (pthL vc tw J (dcl tw (dS vc tw J)) 161 s)) (accL (M c) N tw acc (pthL vc tw J (dcl tw (dS vc tw J)) 161 s)) ∧ M' 149 12 = nI (z + (dcl tw (dS vc tw J)) s) ∧ (∀ b, b < 162 → M' 152 b = tollI (tw0 tw (pthL vc tw J (dcl tw (dS vc tw J)) 161 s) b)) ∧ (∀ b, b < 162 → M' 151 b = bI (joinL (M c) (nI (10 + n)) J (pthL vc tw J (dcl tw (dS vc tw J)) 161 s) b))))) 0 0 (gA g) := by
  refine met_z (cc := cX3_addPath) (maxL := 7) (by decide) rfl ⟨rfl, rfl⟩ (Nat.le_of_ble_eq_true rfl) (fun x hx h hret => ?_)
  replace h : Cxk x g cX3_addPath 7 wsX3_addPath RX3 rmX3_addPath := h
  show X x 0 [(0, .ref (g.1 149)), (1, .ref (g.1 (24 * c))), (2, .int (nI n)), (3, .int (nI p))] [] M P
  refine x_aload_n h 0 dX3_addPath_0 rfl rfl ?_
  refine x_callVv h (As := []) 0 hx (c_X3_measure (tw := tw) (J := J) hv hvc hNb hT hw hJ hJt) gX3_addPath_X3_measure rfl ⟨rfl, rfl⟩ (by decide +kernel) rfl (by decide) (by decide) E_149 rfl rfl (Nat.le_of_ble_eq_true rfl) dX3_addPath_1 (fun M1 P' hp => ?_)
  obtain ⟨rfl, hF1, hD1⟩ := hp
  refine x_aload_n h 0 dX3_addPath_4 rfl rfl ?_
  refine x_iload_n h 3 dX3_addPath_5 rfl rfl ?_
  refine x_callV h (As := [.int (nI p)]) 1 hx (c_X3_nearerCell (D := (dcl tw (dS vc tw J))) hD1 (fun b hb => dcl_le hv.1 tw J hb) hp) gX3_addPath_X3_nearerCell rfl ⟨rfl, rfl⟩ (by decide +kernel) rfl (by decide) (by decide) E_149 rfl rfl (Nat.le_of_ble_eq_true rfl) dX3_addPath_6 (fun rv M' P' hp => ?_)
  obtain ⟨⟨rfl, rfl⟩, rfl⟩ := hp
  refine x_istore h [(4, .int (ngh (startO (dcl tw (dS vc tw J)) p))), (0, .ref (g.1 149)), (1, .ref (g.1 (24 * c))), (2, .int (nI n)), (3, .int (nI p))] dX3_addPath_9 (by decide) rfl ?_
  refine x_iload h 0 dX3_addPath_11 rfl ?_
  refine x_iconst h ((-1)) dX3_addPath_13 (by decide) ?_
  refine x_icmp_ne h 19 dX3_addPath_14 (by decide) (fun c_14 => ?_) (fun c_14 => ?_)
  · -- 14 true
    obtain ⟨s, hs⟩ := ngh_nm1 c_14
    have hs2 := startO_some hs
    have hsl : s < 162 := by omega
    rw [hs]
    refine x_lv (lv' := [(4, .int (nI s)), (0, .ref (g.1 149)), (1, .ref (g.1 (24 * c))), (2, .int (nI n)), (3, .int (nI p))]) ?_ [0, 1, 2, 3, 4] rfl
    refine x_aload_n h 1 dX3_addPath_19 rfl rfl ?_
    refine x_dup h dX3_addPath_20 rfl ?_
    refine xg_X3_12 h in_X3_addPath_X3 (by decide +kernel) dX3_addPath_21 ?_
    refine x_top (nI z) (by rw [hF1.2 12 (by decide) (by decide)]; exact hz) ?_
    refine x_aload_n h 1 dX3_addPath_24 rfl rfl ?_
    refine xg_X3_3 h in_X3_addPath_X3 (by decide +kernel) dX3_addPath_25 ?_
    refine x_iload h 0 dX3_addPath_28 rfl ?_
    refine xl_153 h dX3_addPath_30 (by omega) ?_
    refine x_top (nI ((dcl tw (dS vc tw J)) s)) (hD1 s hsl) ?_
    refine x_iadd_n h dX3_addPath_31 ?_
    refine xp_X3_12 h in_X3_addPath_X3 (by decide +kernel) dX3_addPath_32 ?_
    obtain ⟨W0, hW0⟩ : ∃ q : Nat → Nat → Int32, q = st2 M1 149 12 (nI (z + ((dcl tw (dS vc tw J)) s))) := ⟨_, rfl⟩
    refine x_mem W0 hW0.symm ?_
    have hF0 : FrR M W0 := by rw [hW0]; exact FrR_tr (FrR_Q hF1) (FrR_c _ _ _ (by decide))
    have hR0 : RtM W0 L acc := by rw [hW0]; exact RtM_fr hR (by rw [st2_n _ _ _ (by decide), hF1.1 156 (by decide) (by decide) (by decide) (by decide)]) (by rw [st2_n _ _ _ (by decide), hF1.1 157 (by decide) (by decide) (by decide) (by decide)]) (fun j h1 h2 => by rw [st2_k, pk_un h2, hF1.2 j (by omega) (by omega)])
    have hz0 : W0 149 12 = nI (z + (dcl tw (dS vc tw J)) s) := by rw [hW0, st2_k, pk_us]
    have hT0 : ∀ a, a < 162 → W0 152 a = tollI (tw a) := fun a ha => by rw [hW0, st2_n _ _ _ (by decide), hF1.1 152 (by decide) (by decide) (by decide) (by decide)]; exact hT a ha
    have hJ0 : ∀ a, a < 162 → W0 151 a = bI (J a) := fun a ha => by rw [hW0, st2_n _ _ _ (by decide), hF1.1 151 (by decide) (by decide) (by decide) (by decide)]; exact hJ a ha
    have hD0 : ∀ a, a < 162 → W0 153 a = nI ((dcl tw (dS vc tw J)) a) := fun a ha => by rw [hW0, st2_n _ _ _ (by decide)]; exact hD1 a ha
    have hNb0 : Nbr W0 := fun a k ha hk => by rw [hF0.1 150 (by decide)]; exact hNb a k ha hk
    have hpll := pth_len (vc := vc) (tw := tw) (J := J) (D := (dcl tw (dS vc tw J))) 161 s
    refine x_aload_n h 1 dX3_addPath_35 rfl rfl ?_
    refine xg_X3_11 h in_X3_addPath_X3 (by decide +kernel) dX3_addPath_36 ?_
    refine x_top (nI L.length) (hR0.1) ?_
    refine x_istore h [(5, .int (nI L.length)), (4, .int (nI s)), (0, .ref (g.1 149)), (1, .ref (g.1 (24 * c))), (2, .int (nI n)), (3, .int (nI p))] dX3_addPath_39 (by decide) rfl ?_
    refine x_iconst h (nI 0) dX3_addPath_41 (by decide) ?_
    refine x_istore h [(6, .int (nI 0)), (5, .int (nI L.length)), (4, .int (nI s)), (0, .ref (g.1 149)), (1, .ref (g.1 (24 * c))), (2, .int (nI n)), (3, .int (nI p))] dX3_addPath_42 (by decide) rfl ?_
    have L44 : ∀ (fu : Nat) (i : Nat) (o : Option Nat) (dn : List Nat) (W : Nat → Nat → Int32), (162 - i) < fu → (i ≤ 162) → (dn.length = i) → ((pthL vc tw J (dcl tw (dS vc tw J)) 161 s) = dn ++ rst vc tw J (dcl tw (dS vc tw J)) i o) → (∀ a, o = some a → a < 162 ∧ tw a ≠ none ∧ (dcl tw (dS vc tw J)) a < 1000000) → (FrA W0 W) → (RtM W (L ++ dn) (accL (M c) N tw acc dn)) → X x 44 [(0, .ref (g.1 149)), (1, .ref (g.1 (24 * c))), (2, .int (nI n)), (3, .int (nI p)), (4, .int (ngh o)), (5, .int (nI L.length)), (6, .int (nI i))] [] W P := by
      intro fu
      induction fu with
      | zero => intro i o dn W hmu44; exact absurd hmu44 (Nat.not_lt_zero _)
      | succ fu ih44 =>
        intro i o dn W hmu44 hi hdn hpl ho hFa hRa
        refine x_iload h 6 dX3_addPath_44 rfl ?_
        refine x_sipush h (nI 162) dX3_addPath_46 (by decide) ?_
        refine x_icmp_ge_n h 79 dX3_addPath_49 (by decide) (by omega) (by decide) (fun c_49 => ?_) (fun c_49 => ?_)
        · -- 49 true
          have hpd : (pthL vc tw J (dcl tw (dS vc tw J)) 161 s) = dn := by rw [hpl, rst_end (by first | exact Or.inl (by omega) | exact Or.inr (ngh_m1 c_55 (fun t e => by have := (ho t e).1; omega))), List.append_nil]
          subst hdn
          rw [← hpd] at hRa
          refine x_iload h 5 dX3_addPath_79 rfl ?_
          refine x_istore h [(6, .int (nI L.length)), (0, .ref (g.1 149)), (1, .ref (g.1 (24 * c))), (2, .int (nI n)), (3, .int (nI p)), (4, .int (ngh o)), (5, .int (nI L.length))] dX3_addPath_81 (by decide) rfl ?_
          have L83 : ∀ (fu : Nat) (m : Nat) (W5 : Nat → Nat → Int32), ((pthL vc tw J (dcl tw (dS vc tw J)) 161 s).length - m) < fu → (m ≤ (pthL vc tw J (dcl tw (dS vc tw J)) 161 s).length) → (∀ k, k ≠ 151 → k ≠ 152 → W5 k = W k) → (∀ b, b < 162 → W5 151 b = bI (joinL (M c) (nI (10 + n)) J ((pthL vc tw J (dcl tw (dS vc tw J)) 161 s).take m) b)) → (∀ b, b < 162 → W5 152 b = tollI (tw0 tw ((pthL vc tw J (dcl tw (dS vc tw J)) 161 s).take m) b)) → X x 83 [(0, .ref (g.1 149)), (1, .ref (g.1 (24 * c))), (2, .int (nI n)), (6, .int (nI (L.length + m)))] [] W5 P := by
            intro fu
            induction fu with
            | zero => intro m W5 hmu83; exact absurd hmu83 (Nat.not_lt_zero _)
            | succ fu ih83 =>
              intro m W5 hmu83 hm hFj hJm hTm
              refine x_iload h 3 dX3_addPath_83 rfl ?_
              refine x_aload_n h 0 dX3_addPath_85 rfl rfl ?_
              refine xg_X3_11 h in_X3_addPath_X3 (by decide +kernel) dX3_addPath_86 ?_
              refine x_top (nI (L.length + (pthL vc tw J (dcl tw (dS vc tw J)) 161 s).length)) (by rw [hFj 149 (by decide) (by decide), hRa.1, List.length_append]) ?_
              refine x_icmp_ge_n h 111 dX3_addPath_89 (by decide) (by omega) (by omega) (fun c_89 => ?_) (fun c_89 => ?_)
              · -- 89 true
                refine x_iconst h (nI 1) dX3_addPath_111 (by decide) ?_
                exact hret _ _ _ _ _ dX3_addPath_112 (by decide) (by have hme : m = (pthL vc tw J (dcl tw (dS vc tw J)) 161 s).length := (by omega); subst hme; rw [List.take_length] at hJm hTm; exact ⟨rfl, FrR_tr hF0 (FrR_tr (FrR_A hFa) (FrR_J hFj)), Or.inr ⟨s, hs, rfl, RtM_fr hRa (by rw [hFj 156 (by decide) (by decide)]) (by rw [hFj 157 (by decide) (by decide)]) (fun j _ _ => by rw [hFj 149 (by decide) (by decide)]), by rw [hFj 149 (by decide) (by decide), hFa.2 12 (by decide) (by decide) (by decide)]; exact hz0, hTm, hJm⟩⟩)
              · -- 89 false
                have hml : m < (pthL vc tw J (dcl tw (dS vc tw J)) 161 s).length := by omega
                have hW5c : W5 c = M c := by rw [hFj c (by omega) (by omega), hFa.1 c (by omega) (by omega) (by omega)]; exact hF0.1 c (by omega)
                refine x_aload_n h 0 dX3_addPath_92 rfl rfl ?_
                refine x_aload_n h 1 dX3_addPath_93 rfl rfl ?_
                refine x_iload_n h 2 dX3_addPath_94 rfl rfl ?_
                refine x_aload_n h 0 dX3_addPath_95 rfl rfl ?_
                refine xg_X3_9 h in_X3_addPath_X3 (by decide +kernel) dX3_addPath_96 ?_
                refine x_iload h 3 dX3_addPath_99 rfl ?_
                refine xl_156 h dX3_addPath_101 (by omega) ?_
                refine x_top (nI ((pthL vc tw J (dcl tw (dS vc tw J)) 161 s).getD m 0)) (by rw [hFj 156 (by decide) (by decide), hRa.2.1 (L.length + m) (by rw [List.length_append]; omega)]; simp only [List.getD_eq_getElem?_getD]; rw [List.getElem?_append_right (by omega), Nat.add_sub_cancel_left]) ?_
                refine x_callVv h (As := [.ref (g.1 (24 * c)), .int (nI n), .int (nI ((pthL vc tw J (dcl tw (dS vc tw J)) 161 s).getD m 0))]) 3 hx (c_X3_joinCell hc (J := joinL (M c) (nI (10 + n)) J ((pthL vc tw J (dcl tw (dS vc tw J)) 161 s).take m)) (n := n) hJm (pth_lt 161 s hsl _ (by rw [List.getD_eq_getElem?_getD, List.getElem?_eq_getElem hml]; exact List.getElem_mem hml))) gX3_addPath_X3_joinCell rfl ⟨rfl, rfl⟩ (by decide +kernel) rfl (by decide) (by decide) E_149 rfl rfl (Nat.le_of_ble_eq_true rfl) dX3_addPath_102 (fun M102 P' hp => ?_)
                obtain ⟨rfl, hk102, hj102, ht102⟩ := hp
                refine x_iinc_n h 3 (n := 1) [(6, .int (nI ((L.length + m) + 1))), (0, .ref (g.1 149)), (1, .ref (g.1 (24 * c))), (2, .int (nI n))] dX3_addPath_105 rfl (by decide) rfl ?_
                refine x_goto h 83 dX3_addPath_108 (by decide) ?_
                exact x_lv (ih83 (m + 1) M102 (by omega) (by omega) (by exact fun k h1 h2 => (hk102 k h1 h2).trans (hFj k h1 h2)) (by intro b hb; rw [hj102 b hb, take_s hml, joinL_app, hW5c]) (by intro b hb; rw [ht102, take_s hml, tw0_app]; exact upd_c (hTm b hb))) [1, 2, 3, 0] rfl
          exact x_lv (L83 _ 0 W (Nat.lt_succ_self _) (by omega) (by exact fun k _ _ => rfl) (by intro b hb; rw [hFa.1 151 (by decide) (by decide) (by decide), List.take_zero]; exact hJ0 b hb) (by intro b hb; rw [hFa.1 152 (by decide) (by decide) (by decide), List.take_zero]; exact (hT0 b hb).trans (congrArg tollI (if_neg (List.not_mem_nil)).symm))) [1, 2, 3, 0] rfl
        · -- 49 false
          refine x_iload h 4 dX3_addPath_52 rfl ?_
          refine x_iconst h ((-1)) dX3_addPath_54 (by decide) ?_
          refine x_icmp_eq h 79 dX3_addPath_55 (by decide) (fun c_55 => ?_) (fun c_55 => ?_)
          · -- 55 true
            have hpd : (pthL vc tw J (dcl tw (dS vc tw J)) 161 s) = dn := by rw [hpl, rst_end (by first | exact Or.inl (by omega) | exact Or.inr (ngh_m1 c_55 (fun t e => by have := (ho t e).1; omega))), List.append_nil]
            subst hdn
            rw [← hpd] at hRa
            refine x_iload h 5 dX3_addPath_79 rfl ?_
            refine x_istore h [(6, .int (nI L.length)), (0, .ref (g.1 149)), (1, .ref (g.1 (24 * c))), (2, .int (nI n)), (3, .int (nI p)), (4, .int (ngh o)), (5, .int (nI L.length))] dX3_addPath_81 (by decide) rfl ?_
            have L83 : ∀ (fu : Nat) (m : Nat) (W5 : Nat → Nat → Int32), ((pthL vc tw J (dcl tw (dS vc tw J)) 161 s).length - m) < fu → (m ≤ (pthL vc tw J (dcl tw (dS vc tw J)) 161 s).length) → (∀ k, k ≠ 151 → k ≠ 152 → W5 k = W k) → (∀ b, b < 162 → W5 151 b = bI (joinL (M c) (nI (10 + n)) J ((pthL vc tw J (dcl tw (dS vc tw J)) 161 s).take m) b)) → (∀ b, b < 162 → W5 152 b = tollI (tw0 tw ((pthL vc tw J (dcl tw (dS vc tw J)) 161 s).take m) b)) → X x 83 [(0, .ref (g.1 149)), (1, .ref (g.1 (24 * c))), (2, .int (nI n)), (6, .int (nI (L.length + m)))] [] W5 P := by
              intro fu
              induction fu with
              | zero => intro m W5 hmu83; exact absurd hmu83 (Nat.not_lt_zero _)
              | succ fu ih83 =>
                intro m W5 hmu83 hm hFj hJm hTm
                refine x_iload h 3 dX3_addPath_83 rfl ?_
                refine x_aload_n h 0 dX3_addPath_85 rfl rfl ?_
                refine xg_X3_11 h in_X3_addPath_X3 (by decide +kernel) dX3_addPath_86 ?_
                refine x_top (nI (L.length + (pthL vc tw J (dcl tw (dS vc tw J)) 161 s).length)) (by rw [hFj 149 (by decide) (by decide), hRa.1, List.length_append]) ?_
                refine x_icmp_ge_n h 111 dX3_addPath_89 (by decide) (by omega) (by omega) (fun c_89 => ?_) (fun c_89 => ?_)
                · -- 89 true
                  refine x_iconst h (nI 1) dX3_addPath_111 (by decide) ?_
                  exact hret _ _ _ _ _ dX3_addPath_112 (by decide) (by have hme : m = (pthL vc tw J (dcl tw (dS vc tw J)) 161 s).length := (by omega); subst hme; rw [List.take_length] at hJm hTm; exact ⟨rfl, FrR_tr hF0 (FrR_tr (FrR_A hFa) (FrR_J hFj)), Or.inr ⟨s, hs, rfl, RtM_fr hRa (by rw [hFj 156 (by decide) (by decide)]) (by rw [hFj 157 (by decide) (by decide)]) (fun j _ _ => by rw [hFj 149 (by decide) (by decide)]), by rw [hFj 149 (by decide) (by decide), hFa.2 12 (by decide) (by decide) (by decide)]; exact hz0, hTm, hJm⟩⟩)
                · -- 89 false
                  have hml : m < (pthL vc tw J (dcl tw (dS vc tw J)) 161 s).length := by omega
                  have hW5c : W5 c = M c := by rw [hFj c (by omega) (by omega), hFa.1 c (by omega) (by omega) (by omega)]; exact hF0.1 c (by omega)
                  refine x_aload_n h 0 dX3_addPath_92 rfl rfl ?_
                  refine x_aload_n h 1 dX3_addPath_93 rfl rfl ?_
                  refine x_iload_n h 2 dX3_addPath_94 rfl rfl ?_
                  refine x_aload_n h 0 dX3_addPath_95 rfl rfl ?_
                  refine xg_X3_9 h in_X3_addPath_X3 (by decide +kernel) dX3_addPath_96 ?_
                  refine x_iload h 3 dX3_addPath_99 rfl ?_
                  refine xl_156 h dX3_addPath_101 (by omega) ?_
                  refine x_top (nI ((pthL vc tw J (dcl tw (dS vc tw J)) 161 s).getD m 0)) (by rw [hFj 156 (by decide) (by decide), hRa.2.1 (L.length + m) (by rw [List.length_append]; omega)]; simp only [List.getD_eq_getElem?_getD]; rw [List.getElem?_append_right (by omega), Nat.add_sub_cancel_left]) ?_
                  refine x_callVv h (As := [.ref (g.1 (24 * c)), .int (nI n), .int (nI ((pthL vc tw J (dcl tw (dS vc tw J)) 161 s).getD m 0))]) 3 hx (c_X3_joinCell hc (J := joinL (M c) (nI (10 + n)) J ((pthL vc tw J (dcl tw (dS vc tw J)) 161 s).take m)) (n := n) hJm (pth_lt 161 s hsl _ (by rw [List.getD_eq_getElem?_getD, List.getElem?_eq_getElem hml]; exact List.getElem_mem hml))) gX3_addPath_X3_joinCell rfl ⟨rfl, rfl⟩ (by decide +kernel) rfl (by decide) (by decide) E_149 rfl rfl (Nat.le_of_ble_eq_true rfl) dX3_addPath_102 (fun M102 P' hp => ?_)
                  obtain ⟨rfl, hk102, hj102, ht102⟩ := hp
                  refine x_iinc_n h 3 (n := 1) [(6, .int (nI ((L.length + m) + 1))), (0, .ref (g.1 149)), (1, .ref (g.1 (24 * c))), (2, .int (nI n))] dX3_addPath_105 rfl (by decide) rfl ?_
                  refine x_goto h 83 dX3_addPath_108 (by decide) ?_
                  exact x_lv (ih83 (m + 1) M102 (by omega) (by omega) (by exact fun k h1 h2 => (hk102 k h1 h2).trans (hFj k h1 h2)) (by intro b hb; rw [hj102 b hb, take_s hml, joinL_app, hW5c]) (by intro b hb; rw [ht102, take_s hml, tw0_app]; exact upd_c (hTm b hb))) [1, 2, 3, 0] rfl
            exact x_lv (L83 _ 0 W (Nat.lt_succ_self _) (by omega) (by exact fun k _ _ => rfl) (by intro b hb; rw [hFa.1 151 (by decide) (by decide) (by decide), List.take_zero]; exact hJ0 b hb) (by intro b hb; rw [hFa.1 152 (by decide) (by decide) (by decide), List.take_zero]; exact (hT0 b hb).trans (congrArg tollI (if_neg (List.not_mem_nil)).symm))) [1, 2, 3, 0] rfl
          · -- 55 false
            obtain ⟨a, rfl⟩ := ngh_nm1 c_55
            obtain ⟨ha, hao, haD⟩ := ho a rfl
            obtain ⟨w, hwa⟩ := Option.ne_none_iff_exists'.mp hao
            have hWc : W c = M c := by rw [hFa.1 c (by omega) (by omega) (by omega)]; exact hF0.1 c (by omega)
            refine x_lv (lv' := [(0, .ref (g.1 149)), (1, .ref (g.1 (24 * c))), (2, .int (nI n)), (3, .int (nI p)), (4, .int (nI a)), (5, .int (nI L.length)), (6, .int (nI i))]) ?_ [0, 1, 2, 3, 4, 5, 6] rfl
            refine x_aload_n h 0 dX3_addPath_58 rfl rfl ?_
            refine x_aload_n h 1 dX3_addPath_59 rfl rfl ?_
            refine x_iload h 4 dX3_addPath_60 rfl ?_
            refine x_callVv h (As := [.ref (g.1 (24 * c)), .int (nI a)]) 2 hx (c_X3_addCell hc (by rw [hWc]; exact hN) hN6 (L := L ++ dn) (w := w) (by rw [List.length_append, hdn]; omega) hRa ha (by rw [hFa.1 152 (by decide) (by decide) (by decide), hT0 a ha, hwa]; rfl)) gX3_addPath_X3_addCell rfl ⟨rfl, rfl⟩ (by decide +kernel) rfl (by decide) (by decide) E_149 rfl rfl (Nat.le_of_ble_eq_true rfl) dX3_addPath_62 (fun M62 P' hp => ?_)
            obtain ⟨rfl, hFb, hRb⟩ := hp
            rw [hWc] at hRb
            have hFc := FrA_tr hFa hFb
            refine x_aload_n h 0 dX3_addPath_65 rfl rfl ?_
            refine x_iload h 4 dX3_addPath_66 rfl ?_
            refine x_callV h (As := [.int (nI a)]) 1 hx (c_X3_nextCell (vc := vc) (D := (dcl tw (dS vc tw J))) (tw := tw) (J := J) (by rw [hFc.2 8 (by decide) (by decide) (by decide), hF0.2]; exact hvc) hv (fun b hb => by rw [hFc.1 153 (by decide) (by decide) (by decide)]; exact hD0 b hb) (fun b hb => dcl_le hv.1 tw J hb) (fun b hb => by rw [hFc.1 152 (by decide) (by decide) (by decide)]; exact hT0 b hb) hw (fun b hb => by rw [hFc.1 151 (by decide) (by decide) (by decide)]; exact hJ0 b hb) (fun b k hb hk => by rw [hFc.1 150 (by decide) (by decide) (by decide)]; exact hNb0 b k hb hk) (fun b hb e => if_pos e) ha) gX3_addPath_X3_nextCell rfl ⟨rfl, rfl⟩ (by decide +kernel) rfl (by decide) (by decide) E_149 rfl rfl (Nat.le_of_ble_eq_true rfl) dX3_addPath_68 (fun rv M' P' hp => ?_)
            obtain ⟨⟨rfl, rfl⟩, rfl⟩ := hp
            refine x_istore h [(4, .int (ngh (nxJ vc tw J (dcl tw (dS vc tw J)) a))), (0, .ref (g.1 149)), (1, .ref (g.1 (24 * c))), (2, .int (nI n)), (3, .int (nI p)), (5, .int (nI L.length)), (6, .int (nI i))] dX3_addPath_71 (by decide) rfl ?_
            refine x_iinc_n h 6 (n := 1) [(6, .int (nI (i + 1))), (4, .int (ngh (nxJ vc tw J (dcl tw (dS vc tw J)) a))), (0, .ref (g.1 149)), (1, .ref (g.1 (24 * c))), (2, .int (nI n)), (3, .int (nI p)), (5, .int (nI L.length))] dX3_addPath_73 rfl (by decide) rfl ?_
            refine x_goto h 44 dX3_addPath_76 (by decide) ?_
            exact x_lv (ih44 (i + 1) (nxJ vc tw J (dcl tw (dS vc tw J)) a) (dn ++ [a]) M62 (by omega) (by omega) (by rw [List.length_append, hdn]; rfl) (by rw [hpl, rst_step (by omega), List.append_assoc]; rfl) (by intro b e; obtain ⟨k, hk, h1, w2, h2, h3, h4⟩ := nxtO_some (nxJ_some e).2; exact ⟨nb_lt ha h1, by rw [h2]; exact Option.some_ne_none _, h3⟩) (by exact FrA_tr hFa hFb) (by rw [← List.append_assoc, accL_app, hwa]; exact hRb)) [2, 3, 4, 5, 1, 6, 0] rfl
    exact x_lv (L44 _ 0 (some s) ([]) W0 (Nat.lt_succ_self _) (by decide) (by rfl) (by rw [List.nil_append]; unfold rst; dsimp only; rw [if_pos (by decide)]) (by intro a e; cases e; exact ⟨hsl, dcl_open hs2.2, hs2.2⟩) (by exact FrA_rf W0) (by rw [List.append_nil]; exact hR0)) [3, 4, 5, 6, 2, 1, 0] rfl
  · -- 14 false
    refine x_iconst h (nI 0) dX3_addPath_17 (by decide) ?_
    exact hret _ _ _ _ _ dX3_addPath_18 (by decide) (by exact ⟨rfl, FrR_Q hF1, Or.inl ⟨ngh_m1 c_14 (fun t e => by have := (startO_some e).1; omega), rfl⟩⟩)
