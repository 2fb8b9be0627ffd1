theorem tk_in {L : List Nat} {i c : Nat} (h : i < L.length) : c ∈ L.take (i + 1) ↔ (c ∈ L.take i ∨ L.getD i 0 = c) := by
  rw [take_s h]
  constructor
  · intro q
    rcases List.mem_append.mp q with q | q
    · exact Or.inl q
    · exact Or.inr (List.mem_singleton.mp q).symm
  · rintro (q | q)
    · exact List.mem_append_left _ q
    · exact List.mem_append_right _ (List.mem_singleton.mpr q.symm)
theorem thr_vic {e : Enc} {X : Nat → Int32} {L : List Nat} {k : Nat} (hL : ∀ a, a ∈ L → a < 162) : 0 < thrE e X L k ↔ vicE e X L k = true := by
  constructor
  · intro h
    by_cases q : vicE e X L k = true
    · exact q
    · have : thrE e X L k = 0 := cnt_zero (fun a _ => decide_eq_false (fun z => q (decide_eq_true ⟨a, z⟩)))
      omega
  · intro h
    obtain ⟨a, h1, h2⟩ := of_decide_eq_true h
    exact cnt_pos (hL a h1) (decide_eq_true ⟨h1, h2⟩)
theorem bset_y {p : Nat → Bool} {n : Nat} (hn : n < 6) (h : p n = true) : nI (bset p n) ||| (nI 1 <<< (nI n &&& 31)) = nI (bset p (n + 1)) := by
  rw [nI_or (bset_64 p (by omega)) hn]
  show _ = nI (if p n = true then bset p n ||| 2 ^ n else bset p n)
  rw [if_pos h]
theorem bset_n {p : Nat → Bool} {n : Nat} (h : ¬ p n = true) : nI (bset p n) ||| nI 0 = nI (bset p (n + 1)) := by
  show _ = nI (if p n = true then bset p n ||| 2 ^ n else bset p n)
  rw [if_neg h]
  exact Int32.or_zero
theorem tk_val {X : Nat → Int32} {k a : Nat} {l : List Nat} (ha : a < 162) (h : X (7 + a) = nI 0 ∨ X (7 + a) = nI (1 + k) ∨ X (7 + a) = nI (11 + k)) : tkF eM X k l (7 + a) = nI 0 ∨ tkF eM X k l (7 + a) = nI (1 + k) ∨ tkF eM X k l (7 + a) = nI (11 + k) := by
  rw [tkF_at ha]
  split
  · exact Or.inr (Or.inl rfl)
  · exact h
theorem wr_1 {X : Nat → Int32} {k a : Nat} {l : List Nat} (hk : k < 6) (ha : a < 162) (hx : X (7 + a) = nI 0 ∨ X (7 + a) = nI (1 + k) ∨ X (7 + a) = nI (11 + k)) (h : ¬ tkF eM X k l (7 + a) = nI (11 + k)) : upd (tkF eM X k l) (7 + a) (nI (1 + k)) = tkF eM X k (l ++ [a]) := by
  rcases tk_val (l := l) ha hx with q | q | q
  · exact tkF_s (e := eM) ha q
  · have q2 : ¬ tkF eM X k l (7 + a) = eM.1 := fun z => by
      have := (nI_eq (by omega) (by omega)).mp (q.symm.trans z)
      omega
    rw [← tkF_n (e := eM) ha q2]
    funext j
    unfold upd
    split
    · rename_i e; rw [e, q]
    · rfl
  · exact absurd q h
theorem wr_2 {X : Nat → Int32} {k a : Nat} {l : List Nat} (hk : k < 6) (ha : a < 162) (h : tkF eM X k l (7 + a) = nI (11 + k)) : upd (tkF eM X k l) (7 + a) (nI (11 + k)) = tkF eM X k (l ++ [a]) := by
  have q2 : ¬ tkF eM X k l (7 + a) = eM.1 := fun z => by
    have := (nI_eq (by omega) (by omega)).mp (h.symm.trans z)
    omega
  rw [← tkF_n (e := eM) ha q2]
  funext j
  unfold upd
  split
  · rename_i e; rw [e, h]
  · rfl
def FrL (M M' : Nat → Nat → Int32) : Prop := (∀ k, (k < 158 ∨ (159 < k ∧ k < 164) ∨ k = 167) → M' k = M k) ∧ ∀ j, j ≠ 11 → j ≠ 12 → j ≠ 13 → M' 158 j = M 158 j
theorem FrL_rf (M : Nat → Nat → Int32) : FrL M M := ⟨fun _ _ => rfl, fun _ _ _ _ => rfl⟩
theorem FrL_O {M M' : Nat → Nat → Int32} (h : FrO M M') : FrL M M' := ⟨fun k hk => h.1 k (by omega), h.2⟩
theorem FrL_v {M M1 : Nat → Nat → Int32} (Y : Nat → Int32) (h : FrL M M1) : FrL M (va_up M1 159 Y) := ⟨fun k hk => (va_up_n _ _ (by omega)).trans (h.1 k hk), fun j a b c => by rw [va_up_n _ _ (by decide)]; exact h.2 j a b c⟩
theorem FrL_s {M M1 : Nat → Nat → Int32} (j : Nat) (v : Int32) (h : FrL M M1) : FrL M (st2 M1 159 j v) := by rw [st2_va]; exact FrL_v _ h
theorem FrL_tr {M M1 M2 : Nat → Nat → Int32} (h : FrL M M1) (h2 : FrL M1 M2) : FrL M M2 := ⟨fun k hk => (h2.1 k hk).trans (h.1 k hk), fun j a b c => (h2.2 j a b c).trans (h.2 j a b c)⟩
theorem Ch_L {M M1 M2 : Nat → Nat → Int32} (h : Ch M M1) (h2 : FrL M1 M2) : Ch M M2 := ⟨fun j hj => by rw [h2.1 160 (by omega)]; exact h.1 j hj, fun k hk => (h2.1 k (by omega)).trans (h.2.1 k hk), fun j hj => (h2.2 j (by omega) (by omega) (by omega)).trans (h.2.2 j hj)⟩
theorem rt_in {M : Nat → Nat → Int32} {N K B n : Nat} {dg : Bool} {z : Nat} {l1 l2 : List Nat} (hI : InvX eM (M 159) N K B) (hn : n < N) (h : rtX eM (M 159) N n dg = some (z, l1, l2)) : (l1 ++ l2).length ≤ 324 ∧ ∀ a, a ∈ l1 ++ l2 → a < 162 := ⟨rt_len (rtX_ok hI.1 hn h), fun a ha => ((rtX_ok hI.1 hn h).2.2.2.2 a ha).1⟩
theorem twE_f0 {e : Enc} {X : Nat → Int32} {N n a pr : Nat} {sb : Nat → Nat} (h : twE e X N n false pr sb a ≠ none) : X (7 + a) = e.1 ∨ X (7 + a) = e.2.2 n := by
  unfold twE at h
  split at h
  · exact absurd rfl h
  · split at h
    · rename_i q; exact q
    · rw [if_neg (by decide)] at h; exact absurd rfl h
def rfQ (X : Nat → Int32) (N : Nat) (n d r : Int32) (M' : Nat → Nat → Int32) : Prop := (¬ (InR N n ∧ InR 2 d) ∧ r = -1000001) ∨ ∃ k b, k < N ∧ b < 2 ∧ n = nI k ∧ d = nI b ∧ ((¬ X (169 + 9 * k + 5) = 0 ∧ r = -1000002) ∨ (X (169 + 9 * k + 5) = 0 ∧ ((rtX eM X N k (decide (b = 1)) = none ∧ r = -1000004) ∨ ∃ z l1 l2, rtX eM X N k (decide (b = 1)) = some (z, l1, l2) ∧ r = nI 0 ∧ RtN M' (l1 ++ l2) ∧ M' 158 12 = nI z)))

theorem FrO_rf (M : Nat → Nat → Int32) : FrO M M := ⟨fun _ _ => rfl, fun _ _ _ _ => rfl⟩

theorem dX6_through_0 : decode cX6_through 0 = .ok (.iconst 0, 1) := by decide +kernel
theorem dX6_through_1 : decode cX6_through 1 = .ok (.istore_n 2, 1) := by decide +kernel
theorem dX6_through_2 : decode cX6_through 2 = .ok (.iconst 0, 1) := by decide +kernel
theorem dX6_through_3 : decode cX6_through 3 = .ok (.istore_n 3, 1) := by decide +kernel
theorem dX6_through_4 : decode cX6_through 4 = .ok (.iload_n 3, 1) := by decide +kernel
theorem dX6_through_5 : decode cX6_through 5 = .ok (.sipush 162, 3) := by decide +kernel
theorem dX6_through_8 : decode cX6_through 8 = .ok (.if_icmp .ge 81, 3) := by decide +kernel
theorem dX6_through_11 : decode cX6_through 11 = .ok (.iconst 0, 1) := by decide +kernel
theorem dX6_through_12 : decode cX6_through 12 = .ok (.istore 4, 2) := by decide +kernel
theorem dX6_through_14 : decode cX6_through 14 = .ok (.iconst 0, 1) := by decide +kernel
theorem dX6_through_15 : decode cX6_through 15 = .ok (.istore 5, 2) := by decide +kernel
theorem dX6_through_17 : decode cX6_through 17 = .ok (.iload 5, 2) := by decide +kernel
theorem dX6_through_19 : decode cX6_through 19 = .ok (.aload_n 0, 1) := by decide +kernel
theorem dX6_through_20 : decode cX6_through 20 = .ok (.getfield 111, 3) := by decide +kernel
theorem dX6_through_23 : decode cX6_through 23 = .ok (.if_icmp .ge 32, 3) := by decide +kernel
theorem dX6_through_26 : decode cX6_through 26 = .ok (.iload 4, 2) := by decide +kernel
theorem dX6_through_28 : decode cX6_through 28 = .ok (.ifCond .ne 14, 3) := by decide +kernel
theorem dX6_through_31 : decode cX6_through 31 = .ok (.aload_n 0, 1) := by decide +kernel
theorem dX6_through_32 : decode cX6_through 32 = .ok (.getfield 32, 3) := by decide +kernel
theorem dX6_through_35 : decode cX6_through 35 = .ok (.iload 5, 2) := by decide +kernel
theorem dX6_through_37 : decode cX6_through 37 = .ok (.iaload, 1) := by decide +kernel
theorem dX6_through_38 : decode cX6_through 38 = .ok (.iload_n 3, 1) := by decide +kernel
theorem dX6_through_39 : decode cX6_through 39 = .ok (.if_icmp .ne 7, 3) := by decide +kernel
theorem dX6_through_42 : decode cX6_through 42 = .ok (.iconst 1, 1) := by decide +kernel
theorem dX6_through_43 : decode cX6_through 43 = .ok (.goto 4, 3) := by decide +kernel
theorem dX6_through_46 : decode cX6_through 46 = .ok (.iconst 0, 1) := by decide +kernel
theorem dX6_through_47 : decode cX6_through 47 = .ok (.istore 4, 2) := by decide +kernel
theorem dX6_through_49 : decode cX6_through 49 = .ok (.iinc 5 1, 3) := by decide +kernel
theorem dX6_through_52 : decode cX6_through 52 = .ok (.goto (-35), 3) := by decide +kernel
theorem dX6_through_55 : decode cX6_through 55 = .ok (.iload_n 2, 1) := by decide +kernel
theorem dX6_through_56 : decode cX6_through 56 = .ok (.iload 4, 2) := by decide +kernel
theorem dX6_through_58 : decode cX6_through 58 = .ok (.ifCond .eq 22, 3) := by decide +kernel
theorem dX6_through_61 : decode cX6_through 61 = .ok (.aload_n 0, 1) := by decide +kernel
theorem dX6_through_62 : decode cX6_through 62 = .ok (.getfield 7, 3) := by decide +kernel
theorem dX6_through_65 : decode cX6_through 65 = .ok (.bipush 7, 2) := by decide +kernel
theorem dX6_through_67 : decode cX6_through 67 = .ok (.iload_n 3, 1) := by decide +kernel
theorem dX6_through_68 : decode cX6_through 68 = .ok (.iadd, 1) := by decide +kernel
theorem dX6_through_69 : decode cX6_through 69 = .ok (.iaload, 1) := by decide +kernel
theorem dX6_through_70 : decode cX6_through 70 = .ok (.iconst 1, 1) := by decide +kernel
theorem dX6_through_71 : decode cX6_through 71 = .ok (.iload_n 1, 1) := by decide +kernel
theorem dX6_through_72 : decode cX6_through 72 = .ok (.iadd, 1) := by decide +kernel
theorem dX6_through_73 : decode cX6_through 73 = .ok (.if_icmp .ne 7, 3) := by decide +kernel
theorem dX6_through_76 : decode cX6_through 76 = .ok (.iconst 1, 1) := by decide +kernel
theorem dX6_through_77 : decode cX6_through 77 = .ok (.goto 4, 3) := by decide +kernel
theorem dX6_through_80 : decode cX6_through 80 = .ok (.iconst 0, 1) := by decide +kernel
theorem dX6_through_81 : decode cX6_through 81 = .ok (.iadd, 1) := by decide +kernel
theorem dX6_through_82 : decode cX6_through 82 = .ok (.istore_n 2, 1) := by decide +kernel
theorem dX6_through_83 : decode cX6_through 83 = .ok (.iinc 3 1, 3) := by decide +kernel
theorem dX6_through_86 : decode cX6_through 86 = .ok (.goto (-82), 3) := by decide +kernel
theorem dX6_through_89 : decode cX6_through 89 = .ok (.iload_n 2, 1) := by decide +kernel
theorem dX6_through_90 : decode cX6_through 90 = .ok (.ireturn, 1) := by decide +kernel
abbrev rmX6_through : Room := { frames := 0, cells := 0, slots := 0, locals := 0 }
set_option maxRecDepth 20000 in
theorem in_X6_through_X6 : ∀ w ∈ wsX60, w ∈ wsX6_through := by decide +kernel

set_option maxRecDepth 100000 in
set_option maxHeartbeats 4000000 in
theorem c_X6_through {l : Launch} {g : Geo} {M : Nat → Nat → Int32} {P : Nat → Nat} {L : List Nat} (hR : RtN M L) (hL : L.length ≤ 324) (hLa : ∀ a, a ∈ L → a < 162) {k : Nat} (hk6 : k < 6) : Met l yX6_through wsX6_through rmX6_through (cPre g [.ref (g.1 158), .int (nI k)] M P) (cQi g (fun r M' P' => (P = P' ∧ M = M') ∧ r = nI (thrE eM (M 159) L k))) 0 0 (gA g) := by
  refine met_i (cc := cX6_through) (maxL := 6) (by decide) rfl ⟨rfl, rfl⟩ (Nat.le_of_ble_eq_true rfl) (fun x hx h hret => ?_)
  replace h : Cxk x g cX6_through 6 wsX6_through RX6 rmX6_through := h
  show X x 0 [(0, .ref (g.1 158)), (1, .int (nI k))] [] M P
  refine x_iconst h (nI 0) dX6_through_0 (by decide) ?_
  refine x_istore_n h [(2, .int (nI 0)), (0, .ref (g.1 158)), (1, .int (nI k))] dX6_through_1 rfl (by decide) rfl ?_
  refine x_iconst h (nI 0) dX6_through_2 (by decide) ?_
  refine x_istore_n h [(3, .int (nI 0)), (2, .int (nI 0)), (0, .ref (g.1 158)), (1, .int (nI k))] dX6_through_3 rfl (by decide) rfl ?_
  have L4 : ∀ (fu : Nat) (c : Nat) (q : Nat), (162 - c) < fu → (c ≤ 162) → (q = cnt (fun a => decide (a ∈ L ∧ M 159 (7 + a) = nI (1 + k))) c) → X x 4 [(0, .ref (g.1 158)), (1, .int (nI k)), (2, .int (nI q)), (3, .int (nI c))] [] M P := by
    intro fu
    induction fu with
    | zero => intro c q hmu4; exact absurd hmu4 (Nat.not_lt_zero _)
    | succ fu ih4 =>
      intro c q hmu4 hc hq
      refine x_iload_n h 3 dX6_through_4 rfl rfl ?_
      refine x_sipush h (nI 162) dX6_through_5 (by decide) ?_
      refine x_icmp_ge_n h 89 dX6_through_8 (by decide) (by omega) (by decide) (fun c_8 => ?_) (fun c_8 => ?_)
      · -- 8 true
        refine x_iload_n h 2 dX6_through_89 rfl rfl ?_
        exact hret _ _ _ _ _ dX6_through_90 (by obtain rfl : c = 162 := (by omega); subst hq; exact ⟨⟨rfl, rfl⟩, rfl⟩)
      · -- 8 false
        refine x_iconst h (nI 0) dX6_through_11 (by decide) ?_
        refine x_istore h [(4, .int (nI 0)), (0, .ref (g.1 158)), (1, .int (nI k)), (2, .int (nI q)), (3, .int (nI c))] dX6_through_12 (by decide) rfl ?_
        refine x_iconst h (nI 0) dX6_through_14 (by decide) ?_
        refine x_istore h [(5, .int (nI 0)), (4, .int (nI 0)), (0, .ref (g.1 158)), (1, .int (nI k)), (2, .int (nI q)), (3, .int (nI c))] dX6_through_15 (by decide) rfl ?_
        have L17 : ∀ (fu : Nat) (b : Bool) (i : Nat), (L.length - i) < fu → (i ≤ L.length) → (b = decide (c ∈ L.take i)) → X x 17 [(0, .ref (g.1 158)), (1, .int (nI k)), (2, .int (nI q)), (3, .int (nI c)), (4, .int (bI b)), (5, .int (nI i))] [] M P := by
          intro fu
          induction fu with
          | zero => intro b i hmu17; exact absurd hmu17 (Nat.not_lt_zero _)
          | succ fu ih17 =>
            intro b i hmu17 hi hb
            refine x_iload h 5 dX6_through_17 rfl ?_
            refine x_aload_n h 0 dX6_through_19 rfl rfl ?_
            refine xg_X6_11 h in_X6_through_X6 (by decide +kernel) dX6_through_20 ?_
            refine x_top (nI L.length) (hR.1) ?_
            refine x_icmp_ge_n h 55 dX6_through_23 (by decide) (by omega) (by omega) (fun c_23 => ?_) (fun c_23 => ?_)
            · -- 23 true
              have hb2 : b = decide (c ∈ L) := by rw [hb, List.take_of_length_le (by omega)]
              refine x_iload_n h 2 dX6_through_55 rfl rfl ?_
              refine x_iload h 4 dX6_through_56 rfl ?_
              refine x_if_eq h 80 dX6_through_58 (by decide) (fun c_58 => ?_) (fun c_58 => ?_)
              · -- 58 true
                refine x_iconst h (nI 0) dX6_through_80 (by decide) ?_
                refine x_iadd_n h dX6_through_81 ?_
                refine x_istore_n h [(2, .int (nI (q + 0))), (0, .ref (g.1 158)), (1, .int (nI k)), (3, .int (nI c)), (4, .int (bI b)), (5, .int (nI i))] dX6_through_82 rfl (by decide) rfl ?_
                refine x_iinc_n h 3 (n := 1) [(3, .int (nI (c + 1))), (2, .int (nI (q + 0))), (0, .ref (g.1 158)), (1, .int (nI k)), (4, .int (bI b)), (5, .int (nI i))] dX6_through_83 rfl (by decide) rfl ?_
                refine x_goto h 4 dX6_through_86 (by decide) ?_
                exact x_lv (ih4 (c + 1) (q + 0) (by omega) (by omega) (by first | (rw [hq]; exact (cnt_s (p := (fun a => decide (a ∈ L ∧ M 159 (7 + a) = nI (1 + k)))) (decide_eq_true ⟨of_decide_eq_true (hb2.symm.trans (bI_1 c_58)), c_73⟩)).symm) | (rw [hq]; exact (cnt_n (p := (fun a => decide (a ∈ L ∧ M 159 (7 + a) = nI (1 + k)))) (decide_eq_false (fun z => c_73 z.2))).symm) | (rw [hq]; exact (cnt_n (p := (fun a => decide (a ∈ L ∧ M 159 (7 + a) = nI (1 + k)))) (decide_eq_false (fun z => by rw [bI_0 c_58] at hb2; exact of_decide_eq_false hb2.symm z.1))).symm))) [2, 3, 1, 0] rfl
              · -- 58 false
                refine x_aload_n h 0 dX6_through_61 rfl rfl ?_
                refine xg_X6_0 h in_X6_through_X6 (by decide +kernel) dX6_through_62 ?_
                refine x_bipush h (nI 7) dX6_through_65 (by decide) ?_
                refine x_iload_n h 3 dX6_through_67 rfl rfl ?_
                refine x_iadd_n h dX6_through_68 ?_
                refine xl_159 h dX6_through_69 (by omega) ?_
                refine x_iconst h (nI 1) dX6_through_70 (by decide) ?_
                refine x_iload_n h 1 dX6_through_71 rfl rfl ?_
                refine x_iadd_n h dX6_through_72 ?_
                refine x_icmp_ne h 80 dX6_through_73 (by decide) (fun c_73 => ?_) (fun c_73 => ?_)
                · -- 73 true
                  refine x_iconst h (nI 0) dX6_through_80 (by decide) ?_
                  refine x_iadd_n h dX6_through_81 ?_
                  refine x_istore_n h [(2, .int (nI (q + 0))), (0, .ref (g.1 158)), (1, .int (nI k)), (3, .int (nI c)), (4, .int (bI b)), (5, .int (nI i))] dX6_through_82 rfl (by decide) rfl ?_
                  refine x_iinc_n h 3 (n := 1) [(3, .int (nI (c + 1))), (2, .int (nI (q + 0))), (0, .ref (g.1 158)), (1, .int (nI k)), (4, .int (bI b)), (5, .int (nI i))] dX6_through_83 rfl (by decide) rfl ?_
                  refine x_goto h 4 dX6_through_86 (by decide) ?_
                  exact x_lv (ih4 (c + 1) (q + 0) (by omega) (by omega) (by first | (rw [hq]; exact (cnt_s (p := (fun a => decide (a ∈ L ∧ M 159 (7 + a) = nI (1 + k)))) (decide_eq_true ⟨of_decide_eq_true (hb2.symm.trans (bI_1 c_58)), c_73⟩)).symm) | (rw [hq]; exact (cnt_n (p := (fun a => decide (a ∈ L ∧ M 159 (7 + a) = nI (1 + k)))) (decide_eq_false (fun z => c_73 z.2))).symm) | (rw [hq]; exact (cnt_n (p := (fun a => decide (a ∈ L ∧ M 159 (7 + a) = nI (1 + k)))) (decide_eq_false (fun z => by rw [bI_0 c_58] at hb2; exact of_decide_eq_false hb2.symm z.1))).symm))) [2, 3, 1, 0] rfl
                · -- 73 false
                  refine x_iconst h (nI 1) dX6_through_76 (by decide) ?_
                  refine x_goto h 81 dX6_through_77 (by decide) ?_
                  refine x_iadd_n h dX6_through_81 ?_
                  refine x_istore_n h [(2, .int (nI (q + 1))), (0, .ref (g.1 158)), (1, .int (nI k)), (3, .int (nI c)), (4, .int (bI b)), (5, .int (nI i))] dX6_through_82 rfl (by decide) rfl ?_
                  refine x_iinc_n h 3 (n := 1) [(3, .int (nI (c + 1))), (2, .int (nI (q + 1))), (0, .ref (g.1 158)), (1, .int (nI k)), (4, .int (bI b)), (5, .int (nI i))] dX6_through_83 rfl (by decide) rfl ?_
                  refine x_goto h 4 dX6_through_86 (by decide) ?_
                  exact x_lv (ih4 (c + 1) (q + 1) (by omega) (by omega) (by first | (rw [hq]; exact (cnt_s (p := (fun a => decide (a ∈ L ∧ M 159 (7 + a) = nI (1 + k)))) (decide_eq_true ⟨of_decide_eq_true (hb2.symm.trans (bI_1 c_58)), c_73⟩)).symm) | (rw [hq]; exact (cnt_n (p := (fun a => decide (a ∈ L ∧ M 159 (7 + a) = nI (1 + k)))) (decide_eq_false (fun z => c_73 z.2))).symm) | (rw [hq]; exact (cnt_n (p := (fun a => decide (a ∈ L ∧ M 159 (7 + a) = nI (1 + k)))) (decide_eq_false (fun z => by rw [bI_0 c_58] at hb2; exact of_decide_eq_false hb2.symm z.1))).symm))) [2, 3, 1, 0] rfl
            · -- 23 false
              have hi2 : i < L.length := by omega
              refine x_iload h 4 dX6_through_26 rfl ?_
              refine x_if_ne h 42 dX6_through_28 (by decide) (fun c_28 => ?_) (fun c_28 => ?_)
              · -- 28 true
                refine x_iconst h (nI 1) dX6_through_42 (by decide) ?_
                refine x_goto h 47 dX6_through_43 (by decide) ?_
                refine x_istore h [(4, .int (nI 1)), (0, .ref (g.1 158)), (1, .int (nI k)), (2, .int (nI q)), (3, .int (nI c)), (5, .int (nI i))] dX6_through_47 (by decide) rfl ?_
                refine x_iinc_n h 5 (n := 1) [(5, .int (nI (i + 1))), (4, .int (nI 1)), (0, .ref (g.1 158)), (1, .int (nI k)), (2, .int (nI q)), (3, .int (nI c))] dX6_through_49 rfl (by decide) rfl ?_
                refine x_goto h 17 dX6_through_52 (by decide) ?_
                exact x_lv (ih17 true (i + 1) (by omega) (by omega) (by exact (decide_eq_true ((tk_in hi2).mpr (by first | exact Or.inr c_39 | exact Or.inl (of_decide_eq_true (hb.symm.trans (bI_1 c_28)))))).symm)) [2, 3, 4, 5, 1, 0] rfl
              · -- 28 false
                refine x_aload_n h 0 dX6_through_31 rfl rfl ?_
                refine xg_X6_10 h in_X6_through_X6 (by decide +kernel) dX6_through_32 ?_
                refine x_iload h 5 dX6_through_35 rfl ?_
                refine xl_166 h dX6_through_37 (by omega) ?_
                refine x_top (nI (L.getD i 0)) (hR.2 i (by omega)) ?_
                have hgl := hLa _ (getD_mem hi2)
                refine x_iload_n h 3 dX6_through_38 rfl rfl ?_
                refine x_icmp_ne_n h 46 dX6_through_39 (by decide) (by omega) (by omega) (fun c_39 => ?_) (fun c_39 => ?_)
                · -- 39 true
                  refine x_iconst h (nI 0) dX6_through_46 (by decide) ?_
                  refine x_istore h [(4, .int (nI 0)), (0, .ref (g.1 158)), (1, .int (nI k)), (2, .int (nI q)), (3, .int (nI c)), (5, .int (nI i))] dX6_through_47 (by decide) rfl ?_
                  refine x_iinc_n h 5 (n := 1) [(5, .int (nI (i + 1))), (4, .int (nI 0)), (0, .ref (g.1 158)), (1, .int (nI k)), (2, .int (nI q)), (3, .int (nI c))] dX6_through_49 rfl (by decide) rfl ?_
                  refine x_goto h 17 dX6_through_52 (by decide) ?_
                  exact x_lv (ih17 false (i + 1) (by omega) (by omega) (by exact (decide_eq_false (fun z => ((tk_in hi2).mp z).elim (fun z => by rw [bI_0 c_28] at hb; exact of_decide_eq_false hb.symm z) c_39)).symm)) [2, 3, 4, 5, 1, 0] rfl
                · -- 39 false
                  refine x_iconst h (nI 1) dX6_through_42 (by decide) ?_
                  refine x_goto h 47 dX6_through_43 (by decide) ?_
                  refine x_istore h [(4, .int (nI 1)), (0, .ref (g.1 158)), (1, .int (nI k)), (2, .int (nI q)), (3, .int (nI c)), (5, .int (nI i))] dX6_through_47 (by decide) rfl ?_
                  refine x_iinc_n h 5 (n := 1) [(5, .int (nI (i + 1))), (4, .int (nI 1)), (0, .ref (g.1 158)), (1, .int (nI k)), (2, .int (nI q)), (3, .int (nI c))] dX6_through_49 rfl (by decide) rfl ?_
                  refine x_goto h 17 dX6_through_52 (by decide) ?_
                  exact x_lv (ih17 true (i + 1) (by omega) (by omega) (by exact (decide_eq_true ((tk_in hi2).mpr (by first | exact Or.inr c_39 | exact Or.inl (of_decide_eq_true (hb.symm.trans (bI_1 c_28)))))).symm)) [2, 3, 4, 5, 1, 0] rfl
        exact x_lv (L17 _ false 0 (Nat.lt_succ_self _) (by omega) (by rw [List.take_zero, decide_eq_false List.not_mem_nil])) [2, 3, 4, 5, 1, 0] rfl
  exact x_lv (L4 _ 0 0 (Nat.lt_succ_self _) (by omega) (by rfl)) [2, 3, 1, 0] rfl

set_option maxRecDepth 20000 in
theorem ggX6_due_X6_through : GoodIn wsX6_due wsX6_through := goodIn_r _ [6, 7, 8, 1, 13, 14, 15, 16, 17, 18, 19, 20, 21, 22, 23, 24, 25, 26, 27, 28, 29, 30, 31] (by decide +kernel) (by decide +kernel)
set_option maxRecDepth 20000 in
theorem gX6_due_X6_through : GoodIn wsX6_due (wsV RX6 125 RX6 yX6_through wsX6_through) := goodIn_app (goodIn_of _ (by decide +kernel)) ggX6_due_X6_through
set_option maxRecDepth 20000 in
theorem ggX6_due_X6_of : GoodIn wsX6_due wsX6_of := goodIn_r _ [12, 1, 13, 14, 15, 16, 17, 18, 19, 20, 21, 22, 23, 24, 25, 26, 27, 28, 29, 30, 31] (by decide +kernel) (by decide +kernel)
set_option maxRecDepth 20000 in
theorem gX6_due_X6_of : GoodIn wsX6_due (wsV RX6 42 RX6 yX6_of wsX6_of) := goodIn_app (goodIn_of _ (by decide +kernel)) ggX6_due_X6_of
theorem dX6_due_0 : decode cX6_due 0 = .ok (.aload_n 0, 1) := by decide +kernel
theorem dX6_due_1 : decode cX6_due 1 = .ok (.iload_n 1, 1) := by decide +kernel
theorem dX6_due_2 : decode cX6_due 2 = .ok (.invokevirtual 125, 3) := by decide +kernel
theorem dX6_due_5 : decode cX6_due 5 = .ok (.aload_n 0, 1) := by decide +kernel
theorem dX6_due_6 : decode cX6_due 6 = .ok (.getfield 7, 3) := by decide +kernel
theorem dX6_due_9 : decode cX6_due 9 = .ok (.iconst 1, 1) := by decide +kernel
theorem dX6_due_10 : decode cX6_due 10 = .ok (.iaload, 1) := by decide +kernel
theorem dX6_due_11 : decode cX6_due 11 = .ok (.aload_n 0, 1) := by decide +kernel
theorem dX6_due_12 : decode cX6_due 12 = .ok (.iload_n 1, 1) := by decide +kernel
theorem dX6_due_13 : decode cX6_due 13 = .ok (.iconst 3, 1) := by decide +kernel
theorem dX6_due_14 : decode cX6_due 14 = .ok (.invokevirtual 42, 3) := by decide +kernel
theorem dX6_due_17 : decode cX6_due 17 = .ok (.iadd, 1) := by decide +kernel
theorem dX6_due_18 : decode cX6_due 18 = .ok (.imul, 1) := by decide +kernel
theorem dX6_due_19 : decode cX6_due 19 = .ok (.ireturn, 1) := by decide +kernel
abbrev rmX6_due : Room := { frames := 1, cells := 0, slots := 0, locals := 25 }
set_option maxRecDepth 20000 in
theorem in_X6_due_X6 : ∀ w ∈ wsX60, w ∈ wsX6_due := by decide +kernel

set_option maxRecDepth 100000 in
set_option maxHeartbeats 4000000 in
theorem c_X6_due {l : Launch} {g : Geo} {M : Nat → Nat → Int32} {P : Nat → Nat} {N K B : Nat} (hI : InvX eM (M 159) N K B) {L : List Nat} (hR : RtN M L) (hL : L.length ≤ 324) (hLa : ∀ a, a ∈ L → a < 162) {k : Nat} (hk : k < N) : Met l yX6_due wsX6_due rmX6_due (cPre g [.ref (g.1 158), .int (nI k)] M P) (cQi g (fun r M' P' => (P = P' ∧ M = M') ∧ r = nI (dueE eM (M 159) L k))) 0 0 (gA g) := by
  refine met_i (cc := cX6_due) (maxL := 2) (by decide) rfl ⟨rfl, rfl⟩ (Nat.le_of_ble_eq_true rfl) (fun x hx h hret => ?_)
  replace h : Cxk x g cX6_due 2 wsX6_due RX6 rmX6_due := h
  show X x 0 [(0, .ref (g.1 158)), (1, .int (nI k))] [] M P
  have hN := hI.1.1
  have hN6 := hI.1.2.1
  have hK := hI.1.2.2.1
  have hK12 := hI.1.2.2.2.1
  refine x_aload_n h 0 dX6_due_0 rfl rfl ?_
  refine x_iload_n h 1 dX6_due_1 rfl rfl ?_
  refine x_callV h (As := [.int (nI k)]) 1 hx (c_X6_through hR hL hLa (by omega)) gX6_due_X6_through rfl ⟨rfl, rfl⟩ (by decide +kernel) rfl (by decide) (by decide) E_158 rfl rfl (Nat.le_of_ble_eq_true rfl) dX6_due_2 (fun rv M' P' hp => ?_)
  obtain ⟨⟨rfl, rfl⟩, rfl⟩ := hp
  refine x_aload_n h 0 dX6_due_5 rfl rfl ?_
  refine xg_X6_0 h in_X6_due_X6 (by decide +kernel) dX6_due_6 ?_
  refine x_iconst h (nI 1) dX6_due_9 (by decide) ?_
  refine xl_159 h dX6_due_10 (by decide) ?_
  refine x_top (nI (prX (M 159))) (hI.1.pr.1) ?_
  refine x_aload_n h 0 dX6_due_11 rfl rfl ?_
  refine x_iload_n h 1 dX6_due_12 rfl rfl ?_
  refine x_iconst h (nI 3) dX6_due_13 (by decide) ?_
  refine x_callV h (As := [.int (nI k), .int (nI 3)]) 2 hx (c_X6_of (by omega) (by decide)) gX6_due_X6_of rfl ⟨rfl, rfl⟩ (by decide +kernel) rfl (by decide) (by decide) E_158 rfl rfl (Nat.le_of_ble_eq_true rfl) dX6_due_14 (fun rv M' P' hp => ?_)
  obtain ⟨⟨rfl, rfl⟩, rfl⟩ := hp
  refine x_top (nI (stX (M 159) k)) ((hI.1.net hk).st.1) ?_
  refine x_iadd_n h dX6_due_17 ?_
  refine x_imul_n h dX6_due_18 ?_
  exact hret _ _ _ _ _ dX6_due_19 (by exact ⟨⟨rfl, rfl⟩, rfl⟩)

set_option maxRecDepth 20000 in
theorem ggX6_duesOf_X6_due : GoodIn wsX6_duesOf wsX6_due := goodIn_r _ [6, 1, 7, 8, 9, 5, 10, 11, 12, 13, 14, 15, 16, 17, 18, 19, 20, 21, 22, 23, 24, 25, 26, 27, 28, 29, 30, 31, 32, 33, 34, 35] (by decide +kernel) (by decide +kernel)
set_option maxRecDepth 20000 in
theorem gX6_duesOf_X6_due : GoodIn wsX6_duesOf (wsV RX6 128 RX6 yX6_due wsX6_due) := goodIn_app (goodIn_of _ (by decide +kernel)) ggX6_duesOf_X6_due
theorem dX6_duesOf_0 : decode cX6_duesOf 0 = .ok (.iconst 0, 1) := by decide +kernel
theorem dX6_duesOf_1 : decode cX6_duesOf 1 = .ok (.istore_n 1, 1) := by decide +kernel
theorem dX6_duesOf_2 : decode cX6_duesOf 2 = .ok (.iconst 0, 1) := by decide +kernel
theorem dX6_duesOf_3 : decode cX6_duesOf 3 = .ok (.istore_n 2, 1) := by decide +kernel
theorem dX6_duesOf_4 : decode cX6_duesOf 4 = .ok (.iload_n 2, 1) := by decide +kernel
theorem dX6_duesOf_5 : decode cX6_duesOf 5 = .ok (.aload_n 0, 1) := by decide +kernel
theorem dX6_duesOf_6 : decode cX6_duesOf 6 = .ok (.getfield 7, 3) := by decide +kernel
theorem dX6_duesOf_9 : decode cX6_duesOf 9 = .ok (.iconst 5, 1) := by decide +kernel
theorem dX6_duesOf_10 : decode cX6_duesOf 10 = .ok (.iaload, 1) := by decide +kernel
theorem dX6_duesOf_11 : decode cX6_duesOf 11 = .ok (.if_icmp .ge 17, 3) := by decide +kernel
theorem dX6_duesOf_14 : decode cX6_duesOf 14 = .ok (.iload_n 1, 1) := by decide +kernel
theorem dX6_duesOf_15 : decode cX6_duesOf 15 = .ok (.aload_n 0, 1) := by decide +kernel
theorem dX6_duesOf_16 : decode cX6_duesOf 16 = .ok (.iload_n 2, 1) := by decide +kernel
theorem dX6_duesOf_17 : decode cX6_duesOf 17 = .ok (.invokevirtual 128, 3) := by decide +kernel
theorem dX6_duesOf_20 : decode cX6_duesOf 20 = .ok (.iadd, 1) := by decide +kernel
theorem dX6_duesOf_21 : decode cX6_duesOf 21 = .ok (.istore_n 1, 1) := by decide +kernel
theorem dX6_duesOf_22 : decode cX6_duesOf 22 = .ok (.iinc 2 1, 3) := by decide +kernel
theorem dX6_duesOf_25 : decode cX6_duesOf 25 = .ok (.goto (-21), 3) := by decide +kernel
theorem dX6_duesOf_28 : decode cX6_duesOf 28 = .ok (.iload_n 1, 1) := by decide +kernel
theorem dX6_duesOf_29 : decode cX6_duesOf 29 = .ok (.ireturn, 1) := by decide +kernel
abbrev rmX6_duesOf : Room := { frames := 2, cells := 0, slots := 0, locals := 46 }
set_option maxRecDepth 20000 in
theorem in_X6_duesOf_X6 : ∀ w ∈ wsX60, w ∈ wsX6_duesOf := by decide +kernel

set_option maxRecDepth 100000 in
set_option maxHeartbeats 4000000 in
theorem c_X6_duesOf {l : Launch} {g : Geo} {M : Nat → Nat → Int32} {P : Nat → Nat} {N K B : Nat} (hI : InvX eM (M 159) N K B) {L : List Nat} (hR : RtN M L) (hL : L.length ≤ 324) (hLa : ∀ a, a ∈ L → a < 162) : Met l yX6_duesOf wsX6_duesOf rmX6_duesOf (cPre g [.ref (g.1 158)] M P) (cQi g (fun r M' P' => (P = P' ∧ M = M') ∧ r = nI (priE eM (M 159) N L))) 0 0 (gA g) := by
  refine met_i (cc := cX6_duesOf) (maxL := 3) (by decide) rfl ⟨rfl, rfl⟩ (Nat.le_of_ble_eq_true rfl) (fun x hx h hret => ?_)
  replace h : Cxk x g cX6_duesOf 3 wsX6_duesOf RX6 rmX6_duesOf := h
  show X x 0 [(0, .ref (g.1 158))] [] M P
  have hN := hI.1.1
  have hN6 := hI.1.2.1
  have hK := hI.1.2.2.1
  have hK12 := hI.1.2.2.2.1
  refine x_iconst h (nI 0) dX6_duesOf_0 (by decide) ?_
  refine x_istore_n h [(1, .int (nI 0)), (0, .ref (g.1 158))] dX6_duesOf_1 rfl (by decide) rfl ?_
  refine x_iconst h (nI 0) dX6_duesOf_2 (by decide) ?_
  refine x_istore_n h [(2, .int (nI 0)), (1, .int (nI 0)), (0, .ref (g.1 158))] dX6_duesOf_3 rfl (by decide) rfl ?_
  have L4 : ∀ (fu : Nat) (i : Nat) (s : Nat), (N - i) < fu → (i ≤ N) → (s = sumN (dueE eM (M 159) L) i) → X x 4 [(0, .ref (g.1 158)), (1, .int (nI s)), (2, .int (nI i))] [] M P := by
    intro fu
    induction fu with
    | zero => intro i s hmu4; exact absurd hmu4 (Nat.not_lt_zero _)
    | succ fu ih4 =>
      intro i s hmu4 hi hs
      refine x_iload_n h 2 dX6_duesOf_4 rfl rfl ?_
      refine x_aload_n h 0 dX6_duesOf_5 rfl rfl ?_
      refine xg_X6_0 h in_X6_duesOf_X6 (by decide +kernel) dX6_duesOf_6 ?_
      refine x_iconst h (nI 5) dX6_duesOf_9 (by decide) ?_
      refine xl_159 h dX6_duesOf_10 (by decide) ?_
      refine x_top (nI N) (hN) ?_
      refine x_icmp_ge_n h 28 dX6_duesOf_11 (by decide) (by omega) (by omega) (fun c_11 => ?_) (fun c_11 => ?_)
      · -- 11 true
        refine x_iload_n h 1 dX6_duesOf_28 rfl rfl ?_
        exact hret _ _ _ _ _ dX6_duesOf_29 (by obtain rfl : i = N := (by omega); subst hs; exact ⟨⟨rfl, rfl⟩, rfl⟩)
      · -- 11 false
        refine x_iload_n h 1 dX6_duesOf_14 rfl rfl ?_
        refine x_aload_n h 0 dX6_duesOf_15 rfl rfl ?_
        refine x_iload_n h 2 dX6_duesOf_16 rfl rfl ?_
        refine x_callV h (As := [.int (nI i)]) 1 hx (c_X6_due hI hR hL hLa (by omega)) gX6_duesOf_X6_due rfl ⟨rfl, rfl⟩ (by decide +kernel) rfl (by decide) (by decide) E_158 rfl rfl (Nat.le_of_ble_eq_true rfl) dX6_duesOf_17 (fun rv M' P' hp => ?_)
        obtain ⟨⟨rfl, rfl⟩, rfl⟩ := hp
        refine x_iadd_n h dX6_duesOf_20 ?_
        refine x_istore_n h [(1, .int (nI (s + (dueE eM (M 159) L i)))), (0, .ref (g.1 158)), (2, .int (nI i))] dX6_duesOf_21 rfl (by decide) rfl ?_
        refine x_iinc_n h 2 (n := 1) [(2, .int (nI (i + 1))), (1, .int (nI (s + (dueE eM (M 159) L i)))), (0, .ref (g.1 158))] dX6_duesOf_22 rfl (by decide) rfl ?_
        refine x_goto h 4 dX6_duesOf_25 (by decide) ?_
        exact x_lv (ih4 (i + 1) (s + (dueE eM (M 159) L i)) (by omega) (by omega) (by rw [hs]; rfl)) [2, 1, 0] rfl
  exact x_lv (L4 _ 0 0 (Nat.lt_succ_self _) (by omega) (by rfl)) [2, 1, 0] rfl

set_option maxRecDepth 20000 in
theorem ggX6_victimsOf_X6_through : GoodIn wsX6_victimsOf wsX6_through := goodIn_r _ [6, 7, 8, 1, 9, 10, 11, 12, 13, 14, 15, 16, 17, 18, 19, 20, 21, 22, 23, 24, 25, 26, 27] (by decide +kernel) (by decide +kernel)
set_option maxRecDepth 20000 in
theorem gX6_victimsOf_X6_through : GoodIn wsX6_victimsOf (wsV RX6 125 RX6 yX6_through wsX6_through) := goodIn_app (goodIn_of _ (by decide +kernel)) ggX6_victimsOf_X6_through
theorem dX6_victimsOf_0 : decode cX6_victimsOf 0 = .ok (.iconst 0, 1) := by decide +kernel
theorem dX6_victimsOf_1 : decode cX6_victimsOf 1 = .ok (.istore_n 1, 1) := by decide +kernel
theorem dX6_victimsOf_2 : decode cX6_victimsOf 2 = .ok (.iconst 0, 1) := by decide +kernel
theorem dX6_victimsOf_3 : decode cX6_victimsOf 3 = .ok (.istore_n 2, 1) := by decide +kernel
theorem dX6_victimsOf_4 : decode cX6_victimsOf 4 = .ok (.iload_n 2, 1) := by decide +kernel
theorem dX6_victimsOf_5 : decode cX6_victimsOf 5 = .ok (.aload_n 0, 1) := by decide +kernel
theorem dX6_victimsOf_6 : decode cX6_victimsOf 6 = .ok (.getfield 7, 3) := by decide +kernel
theorem dX6_victimsOf_9 : decode cX6_victimsOf 9 = .ok (.iconst 5, 1) := by decide +kernel
theorem dX6_victimsOf_10 : decode cX6_victimsOf 10 = .ok (.iaload, 1) := by decide +kernel
theorem dX6_victimsOf_11 : decode cX6_victimsOf 11 = .ok (.if_icmp .ge 27, 3) := by decide +kernel
theorem dX6_victimsOf_14 : decode cX6_victimsOf 14 = .ok (.iload_n 1, 1) := by decide +kernel
theorem dX6_victimsOf_15 : decode cX6_victimsOf 15 = .ok (.aload_n 0, 1) := by decide +kernel
theorem dX6_victimsOf_16 : decode cX6_victimsOf 16 = .ok (.iload_n 2, 1) := by decide +kernel
theorem dX6_victimsOf_17 : decode cX6_victimsOf 17 = .ok (.invokevirtual 125, 3) := by decide +kernel
theorem dX6_victimsOf_20 : decode cX6_victimsOf 20 = .ok (.ifCond .le 9, 3) := by decide +kernel
theorem dX6_victimsOf_23 : decode cX6_victimsOf 23 = .ok (.iconst 1, 1) := by decide +kernel
theorem dX6_victimsOf_24 : decode cX6_victimsOf 24 = .ok (.iload_n 2, 1) := by decide +kernel
theorem dX6_victimsOf_25 : decode cX6_victimsOf 25 = .ok (.ishl, 1) := by decide +kernel
theorem dX6_victimsOf_26 : decode cX6_victimsOf 26 = .ok (.goto 4, 3) := by decide +kernel
theorem dX6_victimsOf_29 : decode cX6_victimsOf 29 = .ok (.iconst 0, 1) := by decide +kernel
theorem dX6_victimsOf_30 : decode cX6_victimsOf 30 = .ok (.ior, 1) := by decide +kernel
theorem dX6_victimsOf_31 : decode cX6_victimsOf 31 = .ok (.istore_n 1, 1) := by decide +kernel
theorem dX6_victimsOf_32 : decode cX6_victimsOf 32 = .ok (.iinc 2 1, 3) := by decide +kernel
theorem dX6_victimsOf_35 : decode cX6_victimsOf 35 = .ok (.goto (-31), 3) := by decide +kernel
theorem dX6_victimsOf_38 : decode cX6_victimsOf 38 = .ok (.iload_n 1, 1) := by decide +kernel
theorem dX6_victimsOf_39 : decode cX6_victimsOf 39 = .ok (.ireturn, 1) := by decide +kernel
abbrev rmX6_victimsOf : Room := { frames := 1, cells := 0, slots := 0, locals := 25 }
set_option maxRecDepth 20000 in
theorem in_X6_victimsOf_X6 : ∀ w ∈ wsX60, w ∈ wsX6_victimsOf := by decide +kernel

set_option maxRecDepth 100000 in
set_option maxHeartbeats 4000000 in
theorem c_X6_victimsOf {l : Launch} {g : Geo} {M : Nat → Nat → Int32} {P : Nat → Nat} {N K B : Nat} (hI : InvX eM (M 159) N K B) {L : List Nat} (hR : RtN M L) (hL : L.length ≤ 324) (hLa : ∀ a, a ∈ L → a < 162) : Met l yX6_victimsOf wsX6_victimsOf rmX6_victimsOf (cPre g [.ref (g.1 158)] M P) (cQi g (fun r M' P' => (P = P' ∧ M = M') ∧ r = nI (bset (vicE eM (M 159) L) N))) 0 0 (gA g) := by
  refine met_i (cc := cX6_victimsOf) (maxL := 3) (by decide) rfl ⟨rfl, rfl⟩ (Nat.le_of_ble_eq_true rfl) (fun x hx h hret => ?_)
  replace h : Cxk x g cX6_victimsOf 3 wsX6_victimsOf RX6 rmX6_victimsOf := h
  show X x 0 [(0, .ref (g.1 158))] [] M P
  have hN := hI.1.1
  have hN6 := hI.1.2.1
  have hK := hI.1.2.2.1
  have hK12 := hI.1.2.2.2.1
  refine x_iconst h (nI 0) dX6_victimsOf_0 (by decide) ?_
  refine x_istore_n h [(1, .int (nI 0)), (0, .ref (g.1 158))] dX6_victimsOf_1 rfl (by decide) rfl ?_
  refine x_iconst h (nI 0) dX6_victimsOf_2 (by decide) ?_
  refine x_istore_n h [(2, .int (nI 0)), (1, .int (nI 0)), (0, .ref (g.1 158))] dX6_victimsOf_3 rfl (by decide) rfl ?_
  have L4 : ∀ (fu : Nat) (i : Nat) (s : Nat), (N - i) < fu → (i ≤ N) → (s = bset (vicE eM (M 159) L) i) → X x 4 [(0, .ref (g.1 158)), (1, .int (nI s)), (2, .int (nI i))] [] M P := by
    intro fu
    induction fu with
    | zero => intro i s hmu4; exact absurd hmu4 (Nat.not_lt_zero _)
    | succ fu ih4 =>
      intro i s hmu4 hi hs
      refine x_iload_n h 2 dX6_victimsOf_4 rfl rfl ?_
      refine x_aload_n h 0 dX6_victimsOf_5 rfl rfl ?_
      refine xg_X6_0 h in_X6_victimsOf_X6 (by decide +kernel) dX6_victimsOf_6 ?_
      refine x_iconst h (nI 5) dX6_victimsOf_9 (by decide) ?_
      refine xl_159 h dX6_victimsOf_10 (by decide) ?_
      refine x_top (nI N) (hN) ?_
      refine x_icmp_ge_n h 38 dX6_victimsOf_11 (by decide) (by first | omega | (have := thr_le eM (M 159) L i; omega)) (by first | omega | (have := thr_le eM (M 159) L i; omega)) (fun c_11 => ?_) (fun c_11 => ?_)
      · -- 11 true
        refine x_iload_n h 1 dX6_victimsOf_38 rfl rfl ?_
        exact hret _ _ _ _ _ dX6_victimsOf_39 (by obtain rfl : i = N := (by omega); subst hs; exact ⟨⟨rfl, rfl⟩, rfl⟩)
      · -- 11 false
        refine x_iload_n h 1 dX6_victimsOf_14 rfl rfl ?_
        refine x_aload_n h 0 dX6_victimsOf_15 rfl rfl ?_
        refine x_iload_n h 2 dX6_victimsOf_16 rfl rfl ?_
        refine x_callV h (As := [.int (nI i)]) 1 hx (c_X6_through hR hL hLa (by omega)) gX6_victimsOf_X6_through rfl ⟨rfl, rfl⟩ (by decide +kernel) rfl (by decide) (by decide) E_158 rfl rfl (Nat.le_of_ble_eq_true rfl) dX6_victimsOf_17 (fun rv M' P' hp => ?_)
        obtain ⟨⟨rfl, rfl⟩, rfl⟩ := hp
        refine x_if_le_n h 29 dX6_victimsOf_20 (by decide) (by first | omega | (have := thr_le eM (M 159) L i; omega)) (fun c_20 => ?_) (fun c_20 => ?_)
        · -- 20 true
          refine x_iconst h (nI 0) dX6_victimsOf_29 (by decide) ?_
          refine x_ior h dX6_victimsOf_30 ?_
          refine x_top (nI (bset (vicE eM (M 159) L) (i + 1))) (by rw [hs]; exact bset_n (fun z => by have := (thr_vic hLa).mpr z; omega)) ?_
          refine x_istore_n h [(1, .int (nI (bset (vicE eM (M 159) L) (i + 1)))), (0, .ref (g.1 158)), (2, .int (nI i))] dX6_victimsOf_31 rfl (by decide) rfl ?_
          refine x_iinc_n h 2 (n := 1) [(2, .int (nI (i + 1))), (1, .int (nI (bset (vicE eM (M 159) L) (i + 1)))), (0, .ref (g.1 158))] dX6_victimsOf_32 rfl (by decide) rfl ?_
          refine x_goto h 4 dX6_victimsOf_35 (by decide) ?_
          exact x_lv (ih4 (i + 1) (bset (vicE eM (M 159) L) (i + 1)) (by omega) (by omega) (by rfl)) [2, 1, 0] rfl
        · -- 20 false
          refine x_iconst h (nI 1) dX6_victimsOf_23 (by decide) ?_
          refine x_iload_n h 2 dX6_victimsOf_24 rfl rfl ?_
          refine x_ishl h dX6_victimsOf_25 ?_
          refine x_goto h 30 dX6_victimsOf_26 (by decide) ?_
          refine x_ior h dX6_victimsOf_30 ?_
          refine x_top (nI (bset (vicE eM (M 159) L) (i + 1))) (by rw [hs]; exact bset_y (by omega) ((thr_vic hLa).mp (by omega))) ?_
          refine x_istore_n h [(1, .int (nI (bset (vicE eM (M 159) L) (i + 1)))), (0, .ref (g.1 158)), (2, .int (nI i))] dX6_victimsOf_31 rfl (by decide) rfl ?_
          refine x_iinc_n h 2 (n := 1) [(2, .int (nI (i + 1))), (1, .int (nI (bset (vicE eM (M 159) L) (i + 1)))), (0, .ref (g.1 158))] dX6_victimsOf_32 rfl (by decide) rfl ?_
          refine x_goto h 4 dX6_victimsOf_35 (by decide) ?_
          exact x_lv (ih4 (i + 1) (bset (vicE eM (M 159) L) (i + 1)) (by omega) (by omega) (by rfl)) [2, 1, 0] rfl
  exact x_lv (L4 _ 0 0 (Nat.lt_succ_self _) (by omega) (by rfl)) [2, 1, 0] rfl

theorem dX6_wires_0 : decode cX6_wires 0 = .ok (.iconst 0, 1) := by decide +kernel
theorem dX6_wires_1 : decode cX6_wires 1 = .ok (.istore_n 2, 1) := by decide +kernel
theorem dX6_wires_2 : decode cX6_wires 2 = .ok (.iload_n 2, 1) := by decide +kernel
theorem dX6_wires_3 : decode cX6_wires 3 = .ok (.aload_n 0, 1) := by decide +kernel
theorem dX6_wires_4 : decode cX6_wires 4 = .ok (.getfield 111, 3) := by decide +kernel
theorem dX6_wires_7 : decode cX6_wires 7 = .ok (.if_icmp .ge 54, 3) := by decide +kernel
theorem dX6_wires_10 : decode cX6_wires 10 = .ok (.aload_n 0, 1) := by decide +kernel
theorem dX6_wires_11 : decode cX6_wires 11 = .ok (.getfield 7, 3) := by decide +kernel
theorem dX6_wires_14 : decode cX6_wires 14 = .ok (.bipush 7, 2) := by decide +kernel
theorem dX6_wires_16 : decode cX6_wires 16 = .ok (.aload_n 0, 1) := by decide +kernel
theorem dX6_wires_17 : decode cX6_wires 17 = .ok (.getfield 32, 3) := by decide +kernel
theorem dX6_wires_20 : decode cX6_wires 20 = .ok (.iload_n 2, 1) := by decide +kernel
theorem dX6_wires_21 : decode cX6_wires 21 = .ok (.iaload, 1) := by decide +kernel
theorem dX6_wires_22 : decode cX6_wires 22 = .ok (.iadd, 1) := by decide +kernel
theorem dX6_wires_23 : decode cX6_wires 23 = .ok (.aload_n 0, 1) := by decide +kernel
theorem dX6_wires_24 : decode cX6_wires 24 = .ok (.getfield 7, 3) := by decide +kernel
theorem dX6_wires_27 : decode cX6_wires 27 = .ok (.bipush 7, 2) := by decide +kernel
theorem dX6_wires_29 : decode cX6_wires 29 = .ok (.aload_n 0, 1) := by decide +kernel
theorem dX6_wires_30 : decode cX6_wires 30 = .ok (.getfield 32, 3) := by decide +kernel
theorem dX6_wires_33 : decode cX6_wires 33 = .ok (.iload_n 2, 1) := by decide +kernel
theorem dX6_wires_34 : decode cX6_wires 34 = .ok (.iaload, 1) := by decide +kernel
theorem dX6_wires_35 : decode cX6_wires 35 = .ok (.iadd, 1) := by decide +kernel
theorem dX6_wires_36 : decode cX6_wires 36 = .ok (.iaload, 1) := by decide +kernel
theorem dX6_wires_37 : decode cX6_wires 37 = .ok (.bipush 11, 2) := by decide +kernel
theorem dX6_wires_39 : decode cX6_wires 39 = .ok (.iload_n 1, 1) := by decide +kernel
theorem dX6_wires_40 : decode cX6_wires 40 = .ok (.iadd, 1) := by decide +kernel
theorem dX6_wires_41 : decode cX6_wires 41 = .ok (.if_icmp .ne 10, 3) := by decide +kernel
theorem dX6_wires_44 : decode cX6_wires 44 = .ok (.bipush 11, 2) := by decide +kernel
theorem dX6_wires_46 : decode cX6_wires 46 = .ok (.iload_n 1, 1) := by decide +kernel
theorem dX6_wires_47 : decode cX6_wires 47 = .ok (.iadd, 1) := by decide +kernel
theorem dX6_wires_48 : decode cX6_wires 48 = .ok (.goto 6, 3) := by decide +kernel
theorem dX6_wires_51 : decode cX6_wires 51 = .ok (.iconst 1, 1) := by decide +kernel
theorem dX6_wires_52 : decode cX6_wires 52 = .ok (.iload_n 1, 1) := by decide +kernel
theorem dX6_wires_53 : decode cX6_wires 53 = .ok (.iadd, 1) := by decide +kernel
theorem dX6_wires_54 : decode cX6_wires 54 = .ok (.iastore, 1) := by decide +kernel
theorem dX6_wires_55 : decode cX6_wires 55 = .ok (.iinc 2 1, 3) := by decide +kernel
theorem dX6_wires_58 : decode cX6_wires 58 = .ok (.goto (-56), 3) := by decide +kernel
theorem dX6_wires_61 : decode cX6_wires 61 = .ok (.aload_n 0, 1) := by decide +kernel
theorem dX6_wires_62 : decode cX6_wires 62 = .ok (.getfield 7, 3) := by decide +kernel
theorem dX6_wires_65 : decode cX6_wires 65 = .ok (.sipush 169, 3) := by decide +kernel
theorem dX6_wires_68 : decode cX6_wires 68 = .ok (.bipush 9, 2) := by decide +kernel
theorem dX6_wires_70 : decode cX6_wires 70 = .ok (.iload_n 1, 1) := by decide +kernel
theorem dX6_wires_71 : decode cX6_wires 71 = .ok (.imul, 1) := by decide +kernel
theorem dX6_wires_72 : decode cX6_wires 72 = .ok (.iadd, 1) := by decide +kernel
theorem dX6_wires_73 : decode cX6_wires 73 = .ok (.iconst 5, 1) := by decide +kernel
theorem dX6_wires_74 : decode cX6_wires 74 = .ok (.iadd, 1) := by decide +kernel
theorem dX6_wires_75 : decode cX6_wires 75 = .ok (.iconst 1, 1) := by decide +kernel
theorem dX6_wires_76 : decode cX6_wires 76 = .ok (.iastore, 1) := by decide +kernel
theorem dX6_wires_77 : decode cX6_wires 77 = .ok (.return_, 1) := by decide +kernel
abbrev rmX6_wires : Room := { frames := 0, cells := 0, slots := 0, locals := 0 }
set_option maxRecDepth 20000 in
theorem in_X6_wires_X6 : ∀ w ∈ wsX60, w ∈ wsX6_wires := by decide +kernel

set_option maxRecDepth 100000 in
set_option maxHeartbeats 4000000 in
theorem c_X6_wires {l : Launch} {g : Geo} {M : Nat → Nat → Int32} {P : Nat → Nat} {L : List Nat} (hR : RtN M L) (hL : L.length ≤ 324) (hLa : ∀ a, a ∈ L → a < 162) {k : Nat} (hk6 : k < 6) (hw : ∀ a, a ∈ L → M 159 (7 + a) = nI 0 ∨ M 159 (7 + a) = nI (1 + k) ∨ M 159 (7 + a) = nI (11 + k)) : Met l yX6_wires wsX6_wires rmX6_wires (cPre g [.ref (g.1 158), .int (nI k)] M P) (cQv g (fun M' P' => P = P' ∧ M' = va_up M 159 (takeE eM (M 159) k L))) 0 0 (gA g) := by
  refine met_v (cc := cX6_wires) (maxL := 3) (by decide) rfl ⟨rfl, rfl⟩ (Nat.le_of_ble_eq_true rfl) (fun x hx h hret => ?_)
  replace h : Cxk x g cX6_wires 3 wsX6_wires RX6 rmX6_wires := h
  show X x 0 [(0, .ref (g.1 158)), (1, .int (nI k))] [] M P
  refine x_iconst h (nI 0) dX6_wires_0 (by decide) ?_
  refine x_istore_n h [(2, .int (nI 0)), (0, .ref (g.1 158)), (1, .int (nI k))] dX6_wires_1 rfl (by decide) rfl ?_
  have L2 : ∀ (fu : Nat) (m : Nat) (W : Nat → Nat → Int32), (L.length - m) < fu → (m ≤ L.length) → (W = va_up M 159 (tkF eM (M 159) k (L.take m))) → X x 2 [(0, .ref (g.1 158)), (1, .int (nI k)), (2, .int (nI m))] [] W P := by
    intro fu
    induction fu with
    | zero => intro m W hmu2; exact absurd hmu2 (Nat.not_lt_zero _)
    | succ fu ih2 =>
      intro m W hmu2 hm hW
      refine x_iload_n h 2 dX6_wires_2 rfl rfl ?_
      refine x_aload_n h 0 dX6_wires_3 rfl rfl ?_
      refine xg_X6_11 h in_X6_wires_X6 (by decide +kernel) dX6_wires_4 ?_
      refine x_top (nI L.length) (by rw [hW, va_up_n _ _ (by decide)]; exact hR.1) ?_
      refine x_icmp_ge_n h 61 dX6_wires_7 (by decide) (by omega) (by omega) (fun c_7 => ?_) (fun c_7 => ?_)
      · -- 7 true
        refine x_aload_n h 0 dX6_wires_61 rfl rfl ?_
        refine xg_X6_0 h in_X6_wires_X6 (by decide +kernel) dX6_wires_62 ?_
        refine x_sipush h (nI 169) dX6_wires_65 (by decide) ?_
        refine x_bipush h (nI 9) dX6_wires_68 (by decide) ?_
        refine x_iload_n h 1 dX6_wires_70 rfl rfl ?_
        refine x_imul_n h dX6_wires_71 ?_
        refine x_iadd_n h dX6_wires_72 ?_
        refine x_iconst h (nI 5) dX6_wires_73 (by decide) ?_
        refine x_iadd_n h dX6_wires_74 ?_
        refine x_iconst h (nI 1) dX6_wires_75 (by decide) ?_
        refine xs_159 h dX6_wires_76 (by omega) ?_
        exact hret _ _ _ _ dX6_wires_77 (by obtain rfl : m = L.length := (by omega); rw [List.take_length] at hW; exact ⟨rfl, by rw [st2_va, hW, va_up_up, va_up_k]; rfl⟩)
      · -- 7 false
        have hm2 : m < L.length := by omega
        have hga := hLa _ (getD_mem hm2)
        have hgw := hw _ (getD_mem hm2)
        refine x_aload_n h 0 dX6_wires_10 rfl rfl ?_
        refine xg_X6_0 h in_X6_wires_X6 (by decide +kernel) dX6_wires_11 ?_
        refine x_bipush h (nI 7) dX6_wires_14 (by decide) ?_
        refine x_aload_n h 0 dX6_wires_16 rfl rfl ?_
        refine xg_X6_10 h in_X6_wires_X6 (by decide +kernel) dX6_wires_17 ?_
        refine x_iload_n h 2 dX6_wires_20 rfl rfl ?_
        refine xl_166 h dX6_wires_21 (by omega) ?_
        refine x_top (nI (L.getD m 0)) (by rw [hW, va_up_n _ _ (by decide)]; exact hR.2 m (by omega)) ?_
        refine x_iadd_n h dX6_wires_22 ?_
        refine x_aload_n h 0 dX6_wires_23 rfl rfl ?_
        refine xg_X6_0 h in_X6_wires_X6 (by decide +kernel) dX6_wires_24 ?_
        refine x_bipush h (nI 7) dX6_wires_27 (by decide) ?_
        refine x_aload_n h 0 dX6_wires_29 rfl rfl ?_
        refine xg_X6_10 h in_X6_wires_X6 (by decide +kernel) dX6_wires_30 ?_
        refine x_iload_n h 2 dX6_wires_33 rfl rfl ?_
        refine xl_166 h dX6_wires_34 (by omega) ?_
        refine x_top (nI (L.getD m 0)) (by rw [hW, va_up_n _ _ (by decide)]; exact hR.2 m (by omega)) ?_
        refine x_iadd_n h dX6_wires_35 ?_
        refine xl_159 h dX6_wires_36 (by omega) ?_
        refine x_top ((tkF eM (M 159) k (L.take m) (7 + L.getD m 0))) (by rw [hW, va_up_k]) ?_
        refine x_bipush h (nI 11) dX6_wires_37 (by decide) ?_
        refine x_iload_n h 1 dX6_wires_39 rfl rfl ?_
        refine x_iadd_n h dX6_wires_40 ?_
        refine x_icmp_ne h 51 dX6_wires_41 (by decide) (fun c_41 => ?_) (fun c_41 => ?_)
        · -- 41 true
          refine x_iconst h (nI 1) dX6_wires_51 (by decide) ?_
          refine x_iload_n h 1 dX6_wires_52 rfl rfl ?_
          refine x_iadd_n h dX6_wires_53 ?_
          refine xs_159 h dX6_wires_54 (by omega) ?_
          refine x_iinc_n h 2 (n := 1) [(2, .int (nI (m + 1))), (0, .ref (g.1 158)), (1, .int (nI k))] dX6_wires_55 rfl (by decide) rfl ?_
          refine x_goto h 2 dX6_wires_58 (by decide) ?_
          exact x_lv (ih2 (m + 1) (st2 W 159 (7 + (L.getD m 0)) (nI (1 + k))) (by omega) (by omega) (by rw [st2_va, hW, va_up_up, va_up_k, take_s hm2]; first | exact congrArg _ (wr_1 hk6 hga hgw c_41) | exact congrArg _ (wr_2 hk6 hga c_41))) [1, 2, 0] rfl
        · -- 41 false
          refine x_bipush h (nI 11) dX6_wires_44 (by decide) ?_
          refine x_iload_n h 1 dX6_wires_46 rfl rfl ?_
          refine x_iadd_n h dX6_wires_47 ?_
          refine x_goto h 54 dX6_wires_48 (by decide) ?_
          refine xs_159 h dX6_wires_54 (by omega) ?_
          refine x_iinc_n h 2 (n := 1) [(2, .int (nI (m + 1))), (0, .ref (g.1 158)), (1, .int (nI k))] dX6_wires_55 rfl (by decide) rfl ?_
          refine x_goto h 2 dX6_wires_58 (by decide) ?_
          exact x_lv (ih2 (m + 1) (st2 W 159 (7 + (L.getD m 0)) (nI (11 + k))) (by omega) (by omega) (by rw [st2_va, hW, va_up_up, va_up_k, take_s hm2]; first | exact congrArg _ (wr_1 hk6 hga hgw c_41) | exact congrArg _ (wr_2 hk6 hga c_41))) [1, 2, 0] rfl
  exact x_lv (L2 _ 0 M (Nat.lt_succ_self _) (by omega) (by rw [List.take_zero, tkF_0, va_up_id])) [1, 2, 0] rfl

set_option maxRecDepth 20000 in
theorem ggX6_lays_X6_isNet : GoodIn wsX6_lays wsX6_isNet := goodIn_r _ [9, 3, 10, 11, 8, 12, 58, 59, 60, 61, 62, 63, 64, 65, 66, 67, 68, 69, 70, 71, 72, 73, 74, 75, 76] (by decide +kernel) (by decide +kernel)
set_option maxRecDepth 20000 in
theorem gX6_lays_X6_isNet : GoodIn wsX6_lays (wsV RX6 77 RX6 yX6_isNet wsX6_isNet) := goodIn_app (goodIn_of _ (by decide +kernel)) ggX6_lays_X6_isNet
set_option maxRecDepth 20000 in
theorem ggX6_lays_X6_isJoined : GoodIn wsX6_lays wsX6_isJoined := goodIn_r _ [16, 17, 18, 19, 8, 20, 3, 58, 59, 60, 61, 62, 63, 64, 65, 66, 67, 68, 69, 70, 71, 72, 73, 74, 75, 76] (by decide +kernel) (by decide +kernel)
set_option maxRecDepth 20000 in
theorem gX6_lays_X6_isJoined : GoodIn wsX6_lays (wsV RX6 131 RX6 yX6_isJoined wsX6_isJoined) := goodIn_app (goodIn_of _ (by decide +kernel)) ggX6_lays_X6_isJoined
set_option maxRecDepth 20000 in
theorem ggX6_lays_X6_routes : GoodIn wsX6_lays wsX6_routes := goodIn_r _ [24, 25, 26, 4, 27, 28, 29, 30, 8, 31, 17, 18, 19, 20, 3, 32, 33, 34, 35, 36, 37, 38, 39, 40, 41, 42, 43, 44, 45, 46, 47, 48, 49, 10, 11, 12, 50, 51, 52, 53, 58, 59, 60, 61, 62, 63, 64, 65, 66, 67, 68, 69, 70, 71, 72, 73, 74, 75, 76] (by decide +kernel) (by decide +kernel)
set_option maxRecDepth 20000 in
theorem gX6_lays_X6_routes : GoodIn wsX6_lays (wsV RX6 134 RX6 yX6_routes wsX6_routes) := goodIn_app (goodIn_of _ (by decide +kernel)) ggX6_lays_X6_routes
set_option maxRecDepth 20000 in
theorem ggX6_lays_X6_wires : GoodIn wsX6_lays wsX6_wires := goodIn_r _ [57, 26, 3, 38, 58, 59, 60, 61, 62, 63, 64, 65, 66, 67, 68, 69, 70, 71, 72, 73, 74, 75, 76] (by decide +kernel) (by decide +kernel)
set_option maxRecDepth 20000 in
theorem gX6_lays_X6_wires : GoodIn wsX6_lays (wsV RX6 138 RX6 yX6_wires wsX6_wires) := goodIn_app (goodIn_of _ (by decide +kernel)) ggX6_lays_X6_wires
theorem dX6_lays_0 : decode cX6_lays 0 = .ok (.aload_n 0, 1) := by decide +kernel
theorem dX6_lays_1 : decode cX6_lays 1 = .ok (.iload_n 1, 1) := by decide +kernel
theorem dX6_lays_2 : decode cX6_lays 2 = .ok (.invokevirtual 77, 3) := by decide +kernel
theorem dX6_lays_5 : decode cX6_lays 5 = .ok (.ifCond .ne 6, 3) := by decide +kernel
theorem dX6_lays_8 : decode cX6_lays 8 = .ok (.ldc 61, 2) := by decide +kernel
theorem dX6_lays_10 : decode cX6_lays 10 = .ok (.ireturn, 1) := by decide +kernel
theorem dX6_lays_11 : decode cX6_lays 11 = .ok (.aload_n 0, 1) := by decide +kernel
theorem dX6_lays_12 : decode cX6_lays 12 = .ok (.iload_n 1, 1) := by decide +kernel
theorem dX6_lays_13 : decode cX6_lays 13 = .ok (.invokevirtual 131, 3) := by decide +kernel
theorem dX6_lays_16 : decode cX6_lays 16 = .ok (.ifCond .ne 12, 3) := by decide +kernel
theorem dX6_lays_19 : decode cX6_lays 19 = .ok (.aload_n 0, 1) := by decide +kernel
theorem dX6_lays_20 : decode cX6_lays 20 = .ok (.iload_n 1, 1) := by decide +kernel
theorem dX6_lays_21 : decode cX6_lays 21 = .ok (.iconst 0, 1) := by decide +kernel
theorem dX6_lays_22 : decode cX6_lays 22 = .ok (.invokevirtual 134, 3) := by decide +kernel
theorem dX6_lays_25 : decode cX6_lays 25 = .ok (.ifCond .ne 6, 3) := by decide +kernel
theorem dX6_lays_28 : decode cX6_lays 28 = .ok (.ldc 53, 2) := by decide +kernel
theorem dX6_lays_30 : decode cX6_lays 30 = .ok (.ireturn, 1) := by decide +kernel
theorem dX6_lays_31 : decode cX6_lays 31 = .ok (.aload_n 0, 1) := by decide +kernel
theorem dX6_lays_32 : decode cX6_lays 32 = .ok (.iload_n 1, 1) := by decide +kernel
theorem dX6_lays_33 : decode cX6_lays 33 = .ok (.invokevirtual 138, 3) := by decide +kernel
theorem dX6_lays_36 : decode cX6_lays 36 = .ok (.aload_n 0, 1) := by decide +kernel
theorem dX6_lays_37 : decode cX6_lays 37 = .ok (.getfield 7, 3) := by decide +kernel
theorem dX6_lays_40 : decode cX6_lays 40 = .ok (.iconst 4, 1) := by decide +kernel
theorem dX6_lays_41 : decode cX6_lays 41 = .ok (.dup2, 1) := by decide +kernel
theorem dX6_lays_42 : decode cX6_lays 42 = .ok (.iaload, 1) := by decide +kernel
theorem dX6_lays_43 : decode cX6_lays 43 = .ok (.iconst 1, 1) := by decide +kernel
theorem dX6_lays_44 : decode cX6_lays 44 = .ok (.iadd, 1) := by decide +kernel
theorem dX6_lays_45 : decode cX6_lays 45 = .ok (.iastore, 1) := by decide +kernel
theorem dX6_lays_46 : decode cX6_lays 46 = .ok (.aload_n 0, 1) := by decide +kernel
theorem dX6_lays_47 : decode cX6_lays 47 = .ok (.getfield 108, 3) := by decide +kernel
theorem dX6_lays_50 : decode cX6_lays 50 = .ok (.ireturn, 1) := by decide +kernel
abbrev rmX6_lays : Room := { frames := 5, cells := 0, slots := 0, locals := 123 }
set_option maxRecDepth 20000 in
theorem in_X6_lays_X6 : ∀ w ∈ wsX60, w ∈ wsX6_lays := by decide +kernel

set_option maxRecDepth 100000 in
set_option maxHeartbeats 4000000 in
theorem c_X6_lays {l : Launch} {g : Geo} {M : Nat → Nat → Int32} {P : Nat → Nat} {N K B : Nat} (hI : InvX eM (M 159) N K B) {n : Int32} : Met l yX6_lays wsX6_lays rmX6_lays (cPre g [.ref (g.1 158), .int n] M P) (cQi g (fun r M' P' => P = P' ∧ FrL M M' ∧ layQ eM (M 159) N n r (M' 159))) 0 0 (gA g) := by
  refine met_i (cc := cX6_lays) (maxL := 2) (by decide) rfl ⟨rfl, rfl⟩ (Nat.le_of_ble_eq_true rfl) (fun x hx h hret => ?_)
  replace h : Cxk x g cX6_lays 2 wsX6_lays RX6 rmX6_lays := h
  show X x 0 [(0, .ref (g.1 158)), (1, .int n)] [] M P
  have hN := hI.1.1
  have hN6 := hI.1.2.1
  have hK := hI.1.2.2.1
  have hK12 := hI.1.2.2.2.1
  refine x_aload_n h 0 dX6_lays_0 rfl rfl ?_
  refine x_iload_n h 1 dX6_lays_1 rfl rfl ?_
  refine x_callV h (As := [.int n]) 1 hx (c_X6_isNet hI) gX6_lays_X6_isNet rfl ⟨rfl, rfl⟩ (by decide +kernel) rfl (by decide) (by decide) E_158 rfl rfl (Nat.le_of_ble_eq_true rfl) dX6_lays_2 (fun rv M' P' hp => ?_)
  obtain ⟨⟨rfl, rfl⟩, hp⟩ := hp
  rcases hp with ⟨⟨k2, hk2, rfl⟩, rfl⟩ | ⟨nk2, rfl⟩
  · -- call 2
    refine x_if_ne h 11 dX6_lays_5 (by decide) (fun _ => ?_) (fun c => absurd c (by decide))
    refine x_aload_n h 0 dX6_lays_11 rfl rfl ?_
    refine x_iload_n h 1 dX6_lays_12 rfl rfl ?_
    refine x_callV h (As := [.int (nI k2)]) 1 hx (c_X6_isJoined (by omega)) gX6_lays_X6_isJoined rfl ⟨rfl, rfl⟩ (by decide +kernel) rfl (by decide) (by decide) E_158 rfl rfl (Nat.le_of_ble_eq_true rfl) dX6_lays_13 (fun rv M' P' hp => ?_)
    obtain ⟨⟨rfl, rfl⟩, hp⟩ := hp
    rcases hp with ⟨j13, rfl⟩ | ⟨nj13, rfl⟩
    · -- call 13
      refine x_if_ne h 28 dX6_lays_16 (by decide) (fun _ => ?_) (fun c => absurd c (by decide))
      refine x_ldc h ((-1000002)) (by decide +kernel) dX6_lays_28 ?_
      exact hret _ _ _ _ _ dX6_lays_30 (by first | exact ⟨rfl, FrL_rf M, Or.inr ⟨k2, hk2, rfl, Or.inl ⟨Or.inl (fun q => by rw [j13] at q; exact absurd q (by decide)), rfl, rfl⟩⟩⟩ | exact ⟨rfl, FrL_O hFO, Or.inr ⟨k2, hk2, rfl, Or.inl ⟨Or.inr hrn, rfl, hFO.1 159 (by omega)⟩⟩⟩)
    · -- call 13
      refine x_if_ne h 28 dX6_lays_16 (by decide) (fun c => absurd c (by decide)) (fun _ => ?_)
      refine x_aload_n h 0 dX6_lays_19 rfl rfl ?_
      refine x_iload_n h 1 dX6_lays_20 rfl rfl ?_
      refine x_iconst h (nI 0) dX6_lays_21 (by decide) ?_
      refine x_callV h (As := [.int (nI k2), .int (nI 0)]) 2 hx (c_X6_routes hI hk2 (dg := false)) gX6_lays_X6_routes rfl ⟨rfl, rfl⟩ (by decide +kernel) rfl (by decide) (by decide) E_158 rfl rfl (Nat.le_of_ble_eq_true rfl) dX6_lays_22 (fun rv MR22 P' hp => ?_)
      obtain ⟨rfl, hFO, hp⟩ := hp
      rcases hp with ⟨hrn, rfl⟩ | ⟨z, l1, l2, hrs, rfl, hRt, hzt⟩
      · -- no route
        refine x_if_ne h 31 dX6_lays_25 (by decide) (fun c => absurd c (by decide)) (fun _ => ?_)
        refine x_ldc h ((-1000002)) (by decide +kernel) dX6_lays_28 ?_
        exact hret _ _ _ _ _ dX6_lays_30 (by first | exact ⟨rfl, FrL_rf M, Or.inr ⟨k2, hk2, rfl, Or.inl ⟨Or.inl (fun q => by rw [j13] at q; exact absurd q (by decide)), rfl, rfl⟩⟩⟩ | exact ⟨rfl, FrL_O hFO, Or.inr ⟨k2, hk2, rfl, Or.inl ⟨Or.inr hrn, rfl, hFO.1 159 (by omega)⟩⟩⟩)
      · -- a route
        have e159 : MR22 159 = M 159 := hFO.1 159 (by omega)
        refine x_if_ne h 31 dX6_lays_25 (by decide) (fun _ => ?_) (fun c => absurd c (by decide))
        have hin := rt_in hI hk2 hrs
        have hwl : ∀ a, a ∈ l1 ++ l2 → M 159 (7 + a) = nI 0 ∨ M 159 (7 + a) = nI (1 + k2) ∨ M 159 (7 + a) = nI (11 + k2) := fun a ha => (twE_f0 ((rtX_ok hI.1 hk2 hrs).2.2.2.2 a ha).2).elim (fun q => Or.inl q) (fun q => Or.inr (Or.inr q))
        refine x_aload_n h 0 dX6_lays_31 rfl rfl ?_
        refine x_iload_n h 1 dX6_lays_32 rfl rfl ?_
        refine x_callVv h (As := [.int (nI k2)]) 1 hx (c_X6_wires (L := l1 ++ l2) hRt hin.1 hin.2 (k := k2) (by omega) (by rw [e159]; exact hwl)) gX6_lays_X6_wires rfl ⟨rfl, rfl⟩ (by decide +kernel) rfl (by decide) (by decide) E_158 rfl rfl (Nat.le_of_ble_eq_true rfl) dX6_lays_33 (fun M33 P' hp => ?_)
        obtain ⟨rfl, hM33⟩ := hp
        refine x_aload_n h 0 dX6_lays_36 rfl rfl ?_
        refine xg_X6_0 h in_X6_lays_X6 (by decide +kernel) dX6_lays_37 ?_
        refine x_iconst h (nI 4) dX6_lays_40 (by decide) ?_
        refine x_dup2 h dX6_lays_41 rfl rfl ?_
        refine xl_159 h dX6_lays_42 (by decide) ?_
        refine x_iconst h (nI 1) dX6_lays_43 (by decide) ?_
        refine x_iadd h dX6_lays_44 ?_
        refine xs_159 h dX6_lays_45 (by decide) ?_
        refine x_aload_n h 0 dX6_lays_46 rfl rfl ?_
        refine xg_X6_12 h in_X6_lays_X6 (by decide +kernel) dX6_lays_47 ?_
        refine x_top (nI z) (by rw [st2_n _ _ _ (by decide), hM33, va_up_n _ _ (by decide)]; exact hzt) ?_
        exact hret _ _ _ _ _ dX6_lays_50 (by 
                      refine ⟨rfl, ?_, Or.inr ⟨k2, hk2, rfl, Or.inr ⟨(hI.j5 hk2).elim id (fun q => absurd q nj13), z, l1, l2, hrs, rfl, ?_⟩⟩⟩
                      · rw [hM33]; exact FrL_s _ _ (FrL_v _ (FrL_O hFO))
                      · rw [hM33]; simp only [st2_k, va_up_k, e159]; rw [takeE_n (by omega) (by omega)])
  · -- call 2
    refine x_if_ne h 11 dX6_lays_5 (by decide) (fun c => absurd c (by decide)) (fun _ => ?_)
    refine x_ldc h ((-1000001)) (by decide +kernel) dX6_lays_8 ?_
    exact hret _ _ _ _ _ dX6_lays_10 (by exact ⟨rfl, FrL_rf M, Or.inl ⟨nk2, rfl, rfl⟩⟩)

set_option maxRecDepth 20000 in
theorem ggX6_lay_X6_copy : GoodIn wsX6_lay wsX6_copy := goodIn_r _ [5, 6, 7, 74, 75, 76, 77, 78, 79, 80, 81, 82, 83, 84, 85, 86, 87, 88, 89, 90, 91, 92] (by decide +kernel) (by decide +kernel)
set_option maxRecDepth 20000 in
theorem gX6_lay_X6_copy : GoodIn wsX6_lay (wsV RX6 62 RX6 yX6_copy wsX6_copy) := goodIn_app (goodIn_of _ (by decide +kernel)) ggX6_lay_X6_copy
set_option maxRecDepth 20000 in
theorem ggX6_lay_X6_lays : GoodIn wsX6_lay wsX6_lays := goodIn_r _ [11, 12, 13, 7, 14, 15, 16, 17, 4, 18, 19, 20, 21, 22, 23, 24, 25, 26, 27, 28, 29, 30, 31, 32, 33, 34, 35, 36, 37, 38, 39, 40, 41, 42, 43, 44, 45, 46, 47, 48, 49, 50, 51, 52, 53, 54, 55, 56, 57, 58, 59, 60, 61, 62, 63, 64, 65, 66, 74, 75, 76, 77, 78, 79, 80, 81, 82, 83, 84, 85, 86, 87, 88, 89, 90, 91, 92] (by decide +kernel) (by decide +kernel)
set_option maxRecDepth 20000 in
theorem gX6_lay_X6_lays : GoodIn wsX6_lay (wsV RX6 141 RX6 yX6_lays wsX6_lays) := goodIn_app (goodIn_of _ (by decide +kernel)) ggX6_lay_X6_lays
set_option maxRecDepth 20000 in
theorem ggX6_lay_X6_recorded : GoodIn wsX6_lay wsX6_recorded := goodIn_r _ [70, 71, 72, 6, 73, 74, 75, 76, 77, 78, 79, 80, 81, 82, 83, 84, 85, 86, 87, 88, 89, 90, 91, 92] (by decide +kernel) (by decide +kernel)
set_option maxRecDepth 20000 in
theorem gX6_lay_X6_recorded : GoodIn wsX6_lay (wsV RX6 65 RX6 yX6_recorded wsX6_recorded) := goodIn_app (goodIn_of _ (by decide +kernel)) ggX6_lay_X6_recorded
theorem dX6_lay_0 : decode cX6_lay 0 = .ok (.aload_n 0, 1) := by decide +kernel
theorem dX6_lay_1 : decode cX6_lay 1 = .ok (.invokevirtual 62, 3) := by decide +kernel
theorem dX6_lay_4 : decode cX6_lay 4 = .ok (.aload_n 0, 1) := by decide +kernel
theorem dX6_lay_5 : decode cX6_lay 5 = .ok (.aload_n 0, 1) := by decide +kernel
theorem dX6_lay_6 : decode cX6_lay 6 = .ok (.iload_n 1, 1) := by decide +kernel
theorem dX6_lay_7 : decode cX6_lay 7 = .ok (.invokevirtual 141, 3) := by decide +kernel
theorem dX6_lay_10 : decode cX6_lay 10 = .ok (.invokevirtual 65, 3) := by decide +kernel
theorem dX6_lay_13 : decode cX6_lay 13 = .ok (.ireturn, 1) := by decide +kernel
abbrev rmX6_lay : Room := { frames := 6, cells := 0, slots := 0, locals := 144 }

set_option maxRecDepth 100000 in
set_option maxHeartbeats 4000000 in
theorem c_X6_lay {l : Launch} {g : Geo} {M : Nat → Nat → Int32} {P : Nat → Nat} {N K B : Nat} (hI : InvX eM (M 159) N K B) {many at_ : Nat} (hm : M 158 5 = nI many) (hm4 : many ≤ 4) (hat : M 158 6 = nI at_) (hat4 : at_ < 4) {a : Int32} : Met l yX6_lay wsX6_lay rmX6_lay (cPre g [.ref (g.1 158), .int a] M P) (cQi g (fun r M' P' => P = P' ∧ FrM M M' ∧ KpM many at_ (M 159) M r M' ∧ layQ eM (M 159) N a r (M' 159))) 0 0 (gA g) := by
  refine met_i (cc := cX6_lay) (maxL := 2) (by decide) rfl ⟨rfl, rfl⟩ (Nat.le_of_ble_eq_true rfl) (fun x hx h hret => ?_)
  replace h : Cxk x g cX6_lay 2 wsX6_lay RX6 rmX6_lay := h
  show X x 0 [(0, .ref (g.1 158)), (1, .int a)] [] M P
  refine x_aload_n h 0 dX6_lay_0 rfl rfl ?_
  refine x_callVv h (As := []) 0 hx (c_X6_copy) gX6_lay_X6_copy rfl ⟨rfl, rfl⟩ (by decide +kernel) rfl (by decide) (by decide) E_158 rfl rfl (Nat.le_of_ble_eq_true rfl) dX6_lay_1 (fun Mc P' hp => ?_)
  obtain ⟨rfl, hMc⟩ := hp
  have hC : Ch M Mc := by rw [hMc]; exact Ch_copy M
  have hc9 : Mc 159 = M 159 := by rw [hMc, va_up_n _ _ (by decide)]
  have hIc := hI; rw [← hc9] at hIc
  refine x_aload_n h 0 dX6_lay_4 rfl rfl ?_
  refine x_aload_n h 0 dX6_lay_5 rfl rfl ?_
  refine x_iload_n h 1 dX6_lay_6 rfl rfl ?_
  refine x_callV h (As := [.int a]) 1 hx (c_X6_lays hIc) gX6_lay_X6_lays rfl ⟨rfl, rfl⟩ (by decide +kernel) rfl (by decide) (by decide) E_158 rfl rfl (Nat.le_of_ble_eq_true rfl) dX6_lay_7 (fun a7 W1 P' hp => ?_)
  obtain ⟨rfl, hFL, hQ7⟩ := hp
  have hCh : Ch M W1 := Ch_L hC hFL
  rw [hc9] at hQ7
  refine x_callV h (As := [.int a7]) 1 hx (c_X6_recorded ((hCh.2.2 5 (by decide)).trans hm) hm4 ((hCh.2.2 6 (by decide)).trans hat) hat4) gX6_lay_X6_recorded rfl ⟨rfl, rfl⟩ (by decide +kernel) rfl (by decide) (by decide) E_158 rfl rfl (Nat.le_of_ble_eq_true rfl) dX6_lay_10 (fun rv Mr P' hp => ?_)
  obtain ⟨rfl, rfl, hrec⟩ := hp
  obtain ⟨f1, f2, f3⟩ := rec_mk hCh hm hat hrec
  exact hret _ _ _ _ _ dX6_lay_13 (by refine ⟨rfl, f1, f2, ?_⟩; rw [f3]; exact hQ7)

set_option maxRecDepth 20000 in
theorem ggX6_refused_X6_isNet : GoodIn wsX6_refused wsX6_isNet := goodIn_r _ [8, 9, 10, 11, 7, 12, 55, 56, 57, 58, 59, 60, 61, 62, 63, 64, 65, 66, 67, 68, 69, 70, 71, 72, 73] (by decide +kernel) (by decide +kernel)
set_option maxRecDepth 20000 in
theorem gX6_refused_X6_isNet : GoodIn wsX6_refused (wsV RX6 77 RX6 yX6_isNet wsX6_isNet) := goodIn_app (goodIn_of _ (by decide +kernel)) ggX6_refused_X6_isNet
set_option maxRecDepth 20000 in
theorem ggX6_refused_X6_in : GoodIn wsX6_refused wsX6_in := goodIn_r _ [12] (by decide +kernel) (by decide +kernel)
set_option maxRecDepth 20000 in
theorem gX6_refused_X6_in : GoodIn wsX6_refused (va_wsS RX6 38 yX6_in wsX6_in) := goodIn_app (goodIn_of _ (by decide +kernel)) ggX6_refused_X6_in
set_option maxRecDepth 20000 in
theorem ggX6_refused_X6_isJoined : GoodIn wsX6_refused wsX6_isJoined := goodIn_r _ [16, 17, 18, 19, 7, 20, 9, 55, 56, 57, 58, 59, 60, 61, 62, 63, 64, 65, 66, 67, 68, 69, 70, 71, 72, 73] (by decide +kernel) (by decide +kernel)
set_option maxRecDepth 20000 in
theorem gX6_refused_X6_isJoined : GoodIn wsX6_refused (wsV RX6 131 RX6 yX6_isJoined wsX6_isJoined) := goodIn_app (goodIn_of _ (by decide +kernel)) ggX6_refused_X6_isJoined
set_option maxRecDepth 20000 in
theorem ggX6_refused_X6_routes : GoodIn wsX6_refused wsX6_routes := goodIn_r _ [24, 25, 26, 27, 28, 29, 30, 31, 7, 32, 17, 18, 19, 20, 9, 33, 34, 35, 36, 37, 38, 39, 40, 41, 42, 43, 44, 45, 46, 47, 48, 49, 50, 10, 11, 12, 51, 52, 53, 54, 55, 56, 57, 58, 59, 60, 61, 62, 63, 64, 65, 66, 67, 68, 69, 70, 71, 72, 73] (by decide +kernel) (by decide +kernel)
set_option maxRecDepth 20000 in
theorem gX6_refused_X6_routes : GoodIn wsX6_refused (wsV RX6 134 RX6 yX6_routes wsX6_routes) := goodIn_app (goodIn_of _ (by decide +kernel)) ggX6_refused_X6_routes
theorem dX6_refused_0 : decode cX6_refused 0 = .ok (.aload_n 0, 1) := by decide +kernel
theorem dX6_refused_1 : decode cX6_refused 1 = .ok (.iload_n 1, 1) := by decide +kernel
theorem dX6_refused_2 : decode cX6_refused 2 = .ok (.invokevirtual 77, 3) := by decide +kernel
theorem dX6_refused_5 : decode cX6_refused 5 = .ok (.ifCond .eq 12, 3) := by decide +kernel
theorem dX6_refused_8 : decode cX6_refused 8 = .ok (.iload_n 2, 1) := by decide +kernel
theorem dX6_refused_9 : decode cX6_refused 9 = .ok (.iconst 0, 1) := by decide +kernel
theorem dX6_refused_10 : decode cX6_refused 10 = .ok (.iconst 1, 1) := by decide +kernel
theorem dX6_refused_11 : decode cX6_refused 11 = .ok (.invokestatic 38, 3) := by decide +kernel
theorem dX6_refused_14 : decode cX6_refused 14 = .ok (.ifCond .ne 6, 3) := by decide +kernel
theorem dX6_refused_17 : decode cX6_refused 17 = .ok (.ldc 61, 2) := by decide +kernel
theorem dX6_refused_19 : decode cX6_refused 19 = .ok (.ireturn, 1) := by decide +kernel
theorem dX6_refused_20 : decode cX6_refused 20 = .ok (.aload_n 0, 1) := by decide +kernel
theorem dX6_refused_21 : decode cX6_refused 21 = .ok (.iload_n 1, 1) := by decide +kernel
theorem dX6_refused_22 : decode cX6_refused 22 = .ok (.invokevirtual 131, 3) := by decide +kernel
theorem dX6_refused_25 : decode cX6_refused 25 = .ok (.ifCond .eq 8, 3) := by decide +kernel
theorem dX6_refused_28 : decode cX6_refused 28 = .ok (.ldc 53, 2) := by decide +kernel
theorem dX6_refused_30 : decode cX6_refused 30 = .ok (.goto 27, 3) := by decide +kernel
theorem dX6_refused_33 : decode cX6_refused 33 = .ok (.aload_n 0, 1) := by decide +kernel
theorem dX6_refused_34 : decode cX6_refused 34 = .ok (.iload_n 1, 1) := by decide +kernel
theorem dX6_refused_35 : decode cX6_refused 35 = .ok (.iload_n 2, 1) := by decide +kernel
theorem dX6_refused_36 : decode cX6_refused 36 = .ok (.iconst 1, 1) := by decide +kernel
theorem dX6_refused_37 : decode cX6_refused 37 = .ok (.if_icmp .ne 7, 3) := by decide +kernel
theorem dX6_refused_40 : decode cX6_refused 40 = .ok (.iconst 1, 1) := by decide +kernel
theorem dX6_refused_41 : decode cX6_refused 41 = .ok (.goto 4, 3) := by decide +kernel
theorem dX6_refused_44 : decode cX6_refused 44 = .ok (.iconst 0, 1) := by decide +kernel
theorem dX6_refused_45 : decode cX6_refused 45 = .ok (.invokevirtual 134, 3) := by decide +kernel
theorem dX6_refused_48 : decode cX6_refused 48 = .ok (.ifCond .eq 7, 3) := by decide +kernel
theorem dX6_refused_51 : decode cX6_refused 51 = .ok (.iconst 0, 1) := by decide +kernel
theorem dX6_refused_52 : decode cX6_refused 52 = .ok (.goto 5, 3) := by decide +kernel
theorem dX6_refused_55 : decode cX6_refused 55 = .ok (.ldc 85, 2) := by decide +kernel
theorem dX6_refused_57 : decode cX6_refused 57 = .ok (.ireturn, 1) := by decide +kernel
abbrev rmX6_refused : Room := { frames := 5, cells := 0, slots := 0, locals := 123 }

set_option maxRecDepth 100000 in
set_option maxHeartbeats 4000000 in
theorem c_X6_refused {l : Launch} {g : Geo} {M : Nat → Nat → Int32} {P : Nat → Nat} {N K B : Nat} (hI : InvX eM (M 159) N K B) {n d : Int32} : Met l yX6_refused wsX6_refused rmX6_refused (cPre g [.ref (g.1 158), .int n, .int d] M P) (cQi g (fun r M' P' => P = P' ∧ FrO M M' ∧ rfQ (M 159) N n d r M')) 0 0 (gA g) := by
  refine met_i (cc := cX6_refused) (maxL := 3) (by decide) rfl ⟨rfl, rfl⟩ (Nat.le_of_ble_eq_true rfl) (fun x hx h hret => ?_)
  replace h : Cxk x g cX6_refused 3 wsX6_refused RX6 rmX6_refused := h
  show X x 0 [(0, .ref (g.1 158)), (1, .int n), (2, .int d)] [] M P
  have hN := hI.1.1
  have hN6 := hI.1.2.1
  have hK := hI.1.2.2.1
  have hK12 := hI.1.2.2.2.1
  refine x_aload_n h 0 dX6_refused_0 rfl rfl ?_
  refine x_iload_n h 1 dX6_refused_1 rfl rfl ?_
  refine x_callV h (As := [.int n]) 1 hx (c_X6_isNet hI) gX6_refused_X6_isNet rfl ⟨rfl, rfl⟩ (by decide +kernel) rfl (by decide) (by decide) E_158 rfl rfl (Nat.le_of_ble_eq_true rfl) dX6_refused_2 (fun rv M' P' hp => ?_)
  obtain ⟨⟨rfl, rfl⟩, hp⟩ := hp
  rcases hp with ⟨⟨k2, hk2, rfl⟩, rfl⟩ | ⟨nk2, rfl⟩
  · -- call 2
    refine x_if_eq h 17 dX6_refused_5 (by decide) (fun c => absurd c (by decide)) (fun _ => ?_)
    refine x_iload_n h 2 dX6_refused_8 rfl rfl ?_
    refine x_iconst h (nI 0) dX6_refused_9 (by decide) ?_
    refine x_iconst h (nI 1) dX6_refused_10 (by decide) ?_
    refine x_callS h (As := [.int d, .int (nI 0), .int (nI 1)]) 3 hx (c_X6_in) gX6_refused_X6_in rfl ⟨rfl, rfl⟩ (by decide +kernel) rfl (by decide) (Nat.le_of_ble_eq_true rfl) dX6_refused_11 (fun rv M' P' hp => ?_)
    obtain ⟨⟨rfl, rfl⟩, hp⟩ := hp
    rcases hp with ⟨iy11, rfl⟩ | ⟨in11, rfl⟩
    · -- in
      obtain ⟨k11, hk11, rfl⟩ := (InR_in2 (N := 1) (by omega)).mp iy11
      refine x_if_ne h 20 dX6_refused_14 (by decide) (fun _ => ?_) (fun c => absurd c (by decide))
      refine x_aload_n h 0 dX6_refused_20 rfl rfl ?_
      refine x_iload_n h 1 dX6_refused_21 rfl rfl ?_
      refine x_callV h (As := [.int (nI k2)]) 1 hx (c_X6_isJoined (by omega)) gX6_refused_X6_isJoined rfl ⟨rfl, rfl⟩ (by decide +kernel) rfl (by decide) (by decide) E_158 rfl rfl (Nat.le_of_ble_eq_true rfl) dX6_refused_22 (fun rv M' P' hp => ?_)
      obtain ⟨⟨rfl, rfl⟩, hp⟩ := hp
      rcases hp with ⟨j22, rfl⟩ | ⟨nj22, rfl⟩
      · -- call 22
        refine x_if_eq h 33 dX6_refused_25 (by decide) (fun c => absurd c (by decide)) (fun _ => ?_)
        refine x_ldc h ((-1000002)) (by decide +kernel) dX6_refused_28 ?_
        refine x_goto h 57 dX6_refused_30 (by decide) ?_
        exact hret _ _ _ _ _ dX6_refused_57 (by exact ⟨rfl, FrO_rf M, Or.inr ⟨k2, k11, hk2, by omega, rfl, rfl, Or.inl ⟨(fun q => by rw [j22] at q; exact absurd q (by decide)), rfl⟩⟩⟩)
      · -- call 22
        refine x_if_eq h 33 dX6_refused_25 (by decide) (fun _ => ?_) (fun c => absurd (by decide) c)
        refine x_aload_n h 0 dX6_refused_33 rfl rfl ?_
        refine x_iload_n h 1 dX6_refused_34 rfl rfl ?_
        refine x_iload_n h 2 dX6_refused_35 rfl rfl ?_
        refine x_iconst h (nI 1) dX6_refused_36 (by decide) ?_
        refine x_icmp_ne_n h 44 dX6_refused_37 (by decide) (by omega) (by decide) (fun c_37 => ?_) (fun c_37 => ?_)
        · -- 37 true
          obtain rfl : k11 = 0 := by omega
          refine x_iconst h (nI 0) dX6_refused_44 (by decide) ?_
          refine x_callV h (As := [.int (nI k2), .int (nI 0)]) 2 hx (c_X6_routes hI hk2 (dg := decide (0 = 1))) gX6_refused_X6_routes rfl ⟨rfl, rfl⟩ (by decide +kernel) rfl (by decide) (by decide) E_158 rfl rfl (Nat.le_of_ble_eq_true rfl) dX6_refused_45 (fun rv MR45 P' hp => ?_)
          obtain ⟨rfl, hFO, hp⟩ := hp
          rcases hp with ⟨hrn, rfl⟩ | ⟨z, l1, l2, hrs, rfl, hRt, hzt⟩
          · -- no route
            refine x_if_eq h 55 dX6_refused_48 (by decide) (fun _ => ?_) (fun c => absurd (by decide) c)
            refine x_ldc h ((-1000004)) (by decide +kernel) dX6_refused_55 ?_
            exact hret _ _ _ _ _ dX6_refused_57 (by exact ⟨rfl, hFO, Or.inr ⟨k2, 0, hk2, by omega, rfl, rfl, Or.inr ⟨(hI.j5 hk2).elim id (fun q => absurd q nj22), Or.inl ⟨hrn, rfl⟩⟩⟩⟩)
          · -- a route
            have e159 : MR45 159 = M 159 := hFO.1 159 (by omega)
            refine x_if_eq h 55 dX6_refused_48 (by decide) (fun c => absurd c (by decide)) (fun _ => ?_)
            refine x_iconst h (nI 0) dX6_refused_51 (by decide) ?_
            refine x_goto h 57 dX6_refused_52 (by decide) ?_
            exact hret _ _ _ _ _ dX6_refused_57 (by exact ⟨rfl, hFO, Or.inr ⟨k2, 0, hk2, by omega, rfl, rfl, Or.inr ⟨(hI.j5 hk2).elim id (fun q => absurd q nj22), Or.inr ⟨z, l1, l2, hrs, rfl, hRt, hzt⟩⟩⟩⟩)
        · -- 37 false
          subst c_37
          refine x_iconst h (nI 1) dX6_refused_40 (by decide) ?_
          refine x_goto h 45 dX6_refused_41 (by decide) ?_
          refine x_callV h (As := [.int (nI k2), .int (nI 1)]) 2 hx (c_X6_routes hI hk2 (dg := decide (1 = 1))) gX6_refused_X6_routes rfl ⟨rfl, rfl⟩ (by decide +kernel) rfl (by decide) (by decide) E_158 rfl rfl (Nat.le_of_ble_eq_true rfl) dX6_refused_45 (fun rv MR45_1 P' hp => ?_)
          obtain ⟨rfl, hFO, hp⟩ := hp
          rcases hp with ⟨hrn, rfl⟩ | ⟨z, l1, l2, hrs, rfl, hRt, hzt⟩
          · -- no route
            refine x_if_eq h 55 dX6_refused_48 (by decide) (fun _ => ?_) (fun c => absurd (by decide) c)
            refine x_ldc h ((-1000004)) (by decide +kernel) dX6_refused_55 ?_
            exact hret _ _ _ _ _ dX6_refused_57 (by exact ⟨rfl, hFO, Or.inr ⟨k2, 1, hk2, by omega, rfl, rfl, Or.inr ⟨(hI.j5 hk2).elim id (fun q => absurd q nj22), Or.inl ⟨hrn, rfl⟩⟩⟩⟩)
          · -- a route
            have e159 : MR45_1 159 = M 159 := hFO.1 159 (by omega)
            refine x_if_eq h 55 dX6_refused_48 (by decide) (fun c => absurd c (by decide)) (fun _ => ?_)
            refine x_iconst h (nI 0) dX6_refused_51 (by decide) ?_
            refine x_goto h 57 dX6_refused_52 (by decide) ?_
            exact hret _ _ _ _ _ dX6_refused_57 (by exact ⟨rfl, hFO, Or.inr ⟨k2, 1, hk2, by omega, rfl, rfl, Or.inr ⟨(hI.j5 hk2).elim id (fun q => absurd q nj22), Or.inr ⟨z, l1, l2, hrs, rfl, hRt, hzt⟩⟩⟩⟩)
    · -- out
      have nk11 := fun q => in11 ((InR_in2 (N := 1) (by omega)).mpr q)
      refine x_if_ne h 20 dX6_refused_14 (by decide) (fun c => absurd c (by decide)) (fun _ => ?_)
      refine x_ldc h ((-1000001)) (by decide +kernel) dX6_refused_17 ?_
      exact hret _ _ _ _ _ dX6_refused_19 (by exact ⟨rfl, FrO_rf M, Or.inl ⟨fun q => (by first | exact nk2 q.1 | exact nk11 q.2), rfl⟩⟩)
  · -- call 2
    refine x_if_eq h 17 dX6_refused_5 (by decide) (fun _ => ?_) (fun c => absurd (by decide) c)
    refine x_ldc h ((-1000001)) (by decide +kernel) dX6_refused_17 ?_
    exact hret _ _ _ _ _ dX6_refused_19 (by exact ⟨rfl, FrO_rf M, Or.inl ⟨fun q => (by first | exact nk2 q.1 | exact nk11 q.2), rfl⟩⟩)

set_option maxRecDepth 20000 in
theorem ggX6_cost_X6_refused : GoodIn wsX6_cost wsX6_refused := goodIn_r _ [6, 7, 8, 9, 10, 11, 12, 5, 13, 14, 15, 16, 17, 18, 19, 20, 21, 22, 23, 24, 25, 26, 27, 28, 29, 30, 31, 1, 32, 33, 34, 35, 36, 37, 38, 39, 40, 41, 42, 43, 44, 45, 46, 47, 48, 49, 50, 51, 52, 53, 54, 55, 56, 57, 58, 59, 60, 61, 62, 63, 64, 65, 66, 67, 68, 69, 70, 71, 72, 73, 74, 75, 76, 77] (by decide +kernel) (by decide +kernel)
set_option maxRecDepth 20000 in
theorem gX6_cost_X6_refused : GoodIn wsX6_cost (wsV RX6 201 RX6 yX6_refused wsX6_refused) := goodIn_app (goodIn_of _ (by decide +kernel)) ggX6_cost_X6_refused
theorem dX6_cost_0 : decode cX6_cost 0 = .ok (.aload_n 0, 1) := by decide +kernel
theorem dX6_cost_1 : decode cX6_cost 1 = .ok (.iload_n 1, 1) := by decide +kernel
theorem dX6_cost_2 : decode cX6_cost 2 = .ok (.iload_n 2, 1) := by decide +kernel
theorem dX6_cost_3 : decode cX6_cost 3 = .ok (.invokevirtual 201, 3) := by decide +kernel
theorem dX6_cost_6 : decode cX6_cost 6 = .ok (.istore_n 3, 1) := by decide +kernel
theorem dX6_cost_7 : decode cX6_cost 7 = .ok (.iload_n 3, 1) := by decide +kernel
theorem dX6_cost_8 : decode cX6_cost 8 = .ok (.ifCond .ge 7, 3) := by decide +kernel
theorem dX6_cost_11 : decode cX6_cost 11 = .ok (.iload_n 3, 1) := by decide +kernel
theorem dX6_cost_12 : decode cX6_cost 12 = .ok (.goto 7, 3) := by decide +kernel
theorem dX6_cost_15 : decode cX6_cost 15 = .ok (.aload_n 0, 1) := by decide +kernel
theorem dX6_cost_16 : decode cX6_cost 16 = .ok (.getfield 108, 3) := by decide +kernel
theorem dX6_cost_19 : decode cX6_cost 19 = .ok (.ireturn, 1) := by decide +kernel
abbrev rmX6_cost : Room := { frames := 6, cells := 0, slots := 0, locals := 145 }
set_option maxRecDepth 20000 in
theorem in_X6_cost_X6 : ∀ w ∈ wsX60, w ∈ wsX6_cost := by decide +kernel

set_option maxRecDepth 100000 in
set_option maxHeartbeats 4000000 in
theorem c_X6_cost {l : Launch} {g : Geo} {M : Nat → Nat → Int32} {P : Nat → Nat} {N K B : Nat} (hI : InvX eM (M 159) N K B) {n d : Int32} : Met l yX6_cost wsX6_cost rmX6_cost (cPre g [.ref (g.1 158), .int n, .int d] M P) (cQi g (fun r M' P' => P = P' ∧ FrO M M' ∧ rtQ eM (M 159) N n d (fun z _ => nI z) r)) 0 0 (gA g) := by
  refine met_i (cc := cX6_cost) (maxL := 4) (by decide) rfl ⟨rfl, rfl⟩ (Nat.le_of_ble_eq_true rfl) (fun x hx h hret => ?_)
  replace h : Cxk x g cX6_cost 4 wsX6_cost RX6 rmX6_cost := h
  show X x 0 [(0, .ref (g.1 158)), (1, .int n), (2, .int d)] [] M P
  refine x_aload_n h 0 dX6_cost_0 rfl rfl ?_
  refine x_iload_n h 1 dX6_cost_1 rfl rfl ?_
  refine x_iload_n h 2 dX6_cost_2 rfl rfl ?_
  refine x_callV h (As := [.int n, .int d]) 2 hx (c_X6_refused hI) gX6_cost_X6_refused rfl ⟨rfl, rfl⟩ (by decide +kernel) rfl (by decide) (by decide) E_158 rfl rfl (Nat.le_of_ble_eq_true rfl) dX6_cost_3 (fun rv Mq P' hp => ?_)
  obtain ⟨rfl, hFO, hp⟩ := hp
  rcases hp with ⟨hno, rfl⟩ | ⟨k, b, hk, hb, rfl, hdb, ⟨hj, rfl⟩ | ⟨hj, ⟨hrn, rfl⟩ | ⟨z, l1, l2, hrs, rfl, hRt, hzt⟩⟩⟩
  · -- refused
    refine x_istore_n h [(3, .int (-1000001)), (0, .ref (g.1 158)), (1, .int n), (2, .int d)] dX6_cost_6 rfl (by decide) rfl ?_
    refine x_iload_n h 0 dX6_cost_7 rfl rfl ?_
    refine x_if_ge h 15 dX6_cost_8 (by decide) (fun c => absurd c (by decide)) (fun _ => ?_)
    refine x_iload_n h 0 dX6_cost_11 rfl rfl ?_
    refine x_goto h 19 dX6_cost_12 (by decide) ?_
    exact hret _ _ _ _ _ dX6_cost_19 (by exact ⟨rfl, hFO, Or.inl ⟨hno, rfl⟩⟩)
  · -- refused
    refine x_istore_n h [(3, .int (-1000002)), (0, .ref (g.1 158)), (1, .int (nI k)), (2, .int d)] dX6_cost_6 rfl (by decide) rfl ?_
    refine x_iload_n h 0 dX6_cost_7 rfl rfl ?_
    refine x_if_ge h 15 dX6_cost_8 (by decide) (fun c => absurd c (by decide)) (fun _ => ?_)
    refine x_iload_n h 0 dX6_cost_11 rfl rfl ?_
    refine x_goto h 19 dX6_cost_12 (by decide) ?_
    exact hret _ _ _ _ _ dX6_cost_19 (by exact ⟨rfl, hFO, Or.inr ⟨k, b, hk, hb, rfl, hdb, Or.inl ⟨hj, rfl⟩⟩⟩)
  · -- refused
    refine x_istore_n h [(3, .int (-1000004)), (0, .ref (g.1 158)), (1, .int (nI k)), (2, .int d)] dX6_cost_6 rfl (by decide) rfl ?_
    refine x_iload_n h 0 dX6_cost_7 rfl rfl ?_
    refine x_if_ge h 15 dX6_cost_8 (by decide) (fun c => absurd c (by decide)) (fun _ => ?_)
    refine x_iload_n h 0 dX6_cost_11 rfl rfl ?_
    refine x_goto h 19 dX6_cost_12 (by decide) ?_
    exact hret _ _ _ _ _ dX6_cost_19 (by exact ⟨rfl, hFO, Or.inr ⟨k, b, hk, hb, rfl, hdb, Or.inr ⟨hj, Or.inl ⟨hrn, rfl⟩⟩⟩⟩)
  · -- a route
    have e159 : Mq 159 = M 159 := hFO.1 159 (by omega)
    have hin := rt_in hI hk hrs
    have hI2 := hI
    rw [← e159] at hI2
    refine x_istore_n h [(3, .int (nI 0)), (0, .ref (g.1 158)), (1, .int (nI k)), (2, .int d)] dX6_cost_6 rfl (by decide) rfl ?_
    refine x_iload_n h 0 dX6_cost_7 rfl rfl ?_
    refine x_if_ge h 15 dX6_cost_8 (by decide) (fun _ => ?_) (fun c => absurd (by decide) c)
    refine x_aload_n h 1 dX6_cost_15 rfl rfl ?_
    refine xg_X6_12 h in_X6_cost_X6 (by decide +kernel) dX6_cost_16 ?_
    refine x_top (nI z) (hzt) ?_
    exact hret _ _ _ _ _ dX6_cost_19 (by exact ⟨rfl, hFO, Or.inr ⟨k, b, hk, hb, rfl, hdb, Or.inr ⟨hj, Or.inr ⟨z, l1, l2, hrs, rfl⟩⟩⟩⟩)

set_option maxRecDepth 20000 in
theorem ggX6_price_X6_refused : GoodIn wsX6_price wsX6_refused := goodIn_r _ [5, 6, 7, 8, 9, 10, 11, 4, 12, 13, 14, 15, 16, 17, 18, 19, 20, 21, 22, 23, 24, 25, 26, 27, 28, 29, 30, 31, 32, 33, 34, 35, 36, 37, 38, 39, 40, 41, 42, 43, 44, 45, 46, 47, 48, 49, 50, 51, 52, 53, 54, 55, 56, 57, 58, 71, 72, 73, 74, 75, 76, 77, 78, 79, 80, 81, 82, 83, 84, 85, 86, 87, 88, 89] (by decide +kernel) (by decide +kernel)
set_option maxRecDepth 20000 in
theorem gX6_price_X6_refused : GoodIn wsX6_price (wsV RX6 201 RX6 yX6_refused wsX6_refused) := goodIn_app (goodIn_of _ (by decide +kernel)) ggX6_price_X6_refused
set_option maxRecDepth 20000 in
theorem ggX6_price_X6_duesOf : GoodIn wsX6_price wsX6_duesOf := goodIn_r _ [62, 13, 63, 64, 65, 4, 66, 67, 68, 69, 70, 30, 43, 21, 22, 23, 24, 71, 72, 73, 74, 75, 76, 77, 78, 79, 80, 81, 82, 83, 84, 85, 86, 87, 88, 89] (by decide +kernel) (by decide +kernel)
set_option maxRecDepth 20000 in
theorem gX6_price_X6_duesOf : GoodIn wsX6_price (wsV RX6 144 RX6 yX6_duesOf wsX6_duesOf) := goodIn_app (goodIn_of _ (by decide +kernel)) ggX6_price_X6_duesOf
theorem dX6_price_0 : decode cX6_price 0 = .ok (.aload_n 0, 1) := by decide +kernel
theorem dX6_price_1 : decode cX6_price 1 = .ok (.iload_n 1, 1) := by decide +kernel
theorem dX6_price_2 : decode cX6_price 2 = .ok (.iconst 1, 1) := by decide +kernel
theorem dX6_price_3 : decode cX6_price 3 = .ok (.invokevirtual 201, 3) := by decide +kernel
theorem dX6_price_6 : decode cX6_price 6 = .ok (.istore_n 2, 1) := by decide +kernel
theorem dX6_price_7 : decode cX6_price 7 = .ok (.iload_n 2, 1) := by decide +kernel
theorem dX6_price_8 : decode cX6_price 8 = .ok (.ifCond .ge 7, 3) := by decide +kernel
theorem dX6_price_11 : decode cX6_price 11 = .ok (.iload_n 2, 1) := by decide +kernel
theorem dX6_price_12 : decode cX6_price 12 = .ok (.goto 7, 3) := by decide +kernel
theorem dX6_price_15 : decode cX6_price 15 = .ok (.aload_n 0, 1) := by decide +kernel
theorem dX6_price_16 : decode cX6_price 16 = .ok (.invokevirtual 144, 3) := by decide +kernel
theorem dX6_price_19 : decode cX6_price 19 = .ok (.ireturn, 1) := by decide +kernel
abbrev rmX6_price : Room := { frames := 6, cells := 0, slots := 0, locals := 145 }

set_option maxRecDepth 100000 in
set_option maxHeartbeats 4000000 in
theorem c_X6_price {l : Launch} {g : Geo} {M : Nat → Nat → Int32} {P : Nat → Nat} {N K B : Nat} (hI : InvX eM (M 159) N K B) {n : Int32} : Met l yX6_price wsX6_price rmX6_price (cPre g [.ref (g.1 158), .int n] M P) (cQi g (fun r M' P' => P = P' ∧ FrO M M' ∧ rtQ eM (M 159) N n (nI 1) (fun _ L => nI (priE eM (M 159) N L)) r)) 0 0 (gA g) := by
  refine met_i (cc := cX6_price) (maxL := 3) (by decide) rfl ⟨rfl, rfl⟩ (Nat.le_of_ble_eq_true rfl) (fun x hx h hret => ?_)
  replace h : Cxk x g cX6_price 3 wsX6_price RX6 rmX6_price := h
  show X x 0 [(0, .ref (g.1 158)), (1, .int n)] [] M P
  refine x_aload_n h 0 dX6_price_0 rfl rfl ?_
  refine x_iload_n h 1 dX6_price_1 rfl rfl ?_
  refine x_iconst h (nI 1) dX6_price_2 (by decide) ?_
  refine x_callV h (As := [.int n, .int (nI 1)]) 2 hx (c_X6_refused hI) gX6_price_X6_refused rfl ⟨rfl, rfl⟩ (by decide +kernel) rfl (by decide) (by decide) E_158 rfl rfl (Nat.le_of_ble_eq_true rfl) dX6_price_3 (fun rv Mq P' hp => ?_)
  obtain ⟨rfl, hFO, hp⟩ := hp
  rcases hp with ⟨hno, rfl⟩ | ⟨k, b, hk, hb, rfl, hdb, ⟨hj, rfl⟩ | ⟨hj, ⟨hrn, rfl⟩ | ⟨z, l1, l2, hrs, rfl, hRt, hzt⟩⟩⟩
  · -- refused
    refine x_istore_n h [(2, .int (-1000001)), (0, .ref (g.1 158)), (1, .int n)] dX6_price_6 rfl (by decide) rfl ?_
    refine x_iload_n h 0 dX6_price_7 rfl rfl ?_
    refine x_if_ge h 15 dX6_price_8 (by decide) (fun c => absurd c (by decide)) (fun _ => ?_)
    refine x_iload_n h 0 dX6_price_11 rfl rfl ?_
    refine x_goto h 19 dX6_price_12 (by decide) ?_
    exact hret _ _ _ _ _ dX6_price_19 (by exact ⟨rfl, hFO, Or.inl ⟨hno, rfl⟩⟩)
  · -- refused
    refine x_istore_n h [(2, .int (-1000002)), (0, .ref (g.1 158)), (1, .int (nI k))] dX6_price_6 rfl (by decide) rfl ?_
    refine x_iload_n h 0 dX6_price_7 rfl rfl ?_
    refine x_if_ge h 15 dX6_price_8 (by decide) (fun c => absurd c (by decide)) (fun _ => ?_)
    refine x_iload_n h 0 dX6_price_11 rfl rfl ?_
    refine x_goto h 19 dX6_price_12 (by decide) ?_
    exact hret _ _ _ _ _ dX6_price_19 (by exact ⟨rfl, hFO, Or.inr ⟨k, b, hk, hb, rfl, hdb, Or.inl ⟨hj, rfl⟩⟩⟩)
  · -- refused
    refine x_istore_n h [(2, .int (-1000004)), (0, .ref (g.1 158)), (1, .int (nI k))] dX6_price_6 rfl (by decide) rfl ?_
    refine x_iload_n h 0 dX6_price_7 rfl rfl ?_
    refine x_if_ge h 15 dX6_price_8 (by decide) (fun c => absurd c (by decide)) (fun _ => ?_)
    refine x_iload_n h 0 dX6_price_11 rfl rfl ?_
    refine x_goto h 19 dX6_price_12 (by decide) ?_
    exact hret _ _ _ _ _ dX6_price_19 (by exact ⟨rfl, hFO, Or.inr ⟨k, b, hk, hb, rfl, hdb, Or.inr ⟨hj, Or.inl ⟨hrn, rfl⟩⟩⟩⟩)
  · -- a route
    have e159 : Mq 159 = M 159 := hFO.1 159 (by omega)
    have hin := rt_in hI hk hrs
    have hI2 := hI
    rw [← e159] at hI2
    refine x_istore_n h [(2, .int (nI 0)), (0, .ref (g.1 158)), (1, .int (nI k))] dX6_price_6 rfl (by decide) rfl ?_
    refine x_iload_n h 0 dX6_price_7 rfl rfl ?_
    refine x_if_ge h 15 dX6_price_8 (by decide) (fun _ => ?_) (fun c => absurd (by decide) c)
    refine x_aload_n h 1 dX6_price_15 rfl rfl ?_
    refine x_callV h (As := []) 0 hx (c_X6_duesOf hI2 hRt hin.1 hin.2) gX6_price_X6_duesOf rfl ⟨rfl, rfl⟩ (by decide +kernel) rfl (by decide) (by decide) E_158 rfl rfl (Nat.le_of_ble_eq_true rfl) dX6_price_16 (fun rv M' P' hp => ?_)
    obtain ⟨⟨rfl, rfl⟩, rfl⟩ := hp
    refine x_top (nI (priE eM (M 159) N (l1 ++ l2))) (by rw [e159]) ?_
    exact hret _ _ _ _ _ dX6_price_19 (by exact ⟨rfl, hFO, Or.inr ⟨k, b, hk, hb, rfl, hdb, Or.inr ⟨hj, Or.inr ⟨z, l1, l2, hrs, rfl⟩⟩⟩⟩)

set_option maxRecDepth 20000 in
theorem ggX6_victims_X6_refused : GoodIn wsX6_victims wsX6_refused := goodIn_r _ [5, 6, 7, 8, 9, 10, 11, 4, 12, 13, 14, 15, 16, 17, 18, 19, 20, 21, 22, 23, 24, 25, 26, 27, 28, 29, 30, 31, 32, 33, 34, 35, 36, 37, 38, 39, 40, 41, 42, 43, 44, 45, 46, 47, 48, 49, 50, 51, 52, 53, 54, 55, 56, 57, 58, 67, 68, 69, 70, 71, 72, 73, 74, 75, 76, 77, 78, 79, 80, 81, 82, 83, 84, 85] (by decide +kernel) (by decide +kernel)
set_option maxRecDepth 20000 in
theorem gX6_victims_X6_refused : GoodIn wsX6_victims (wsV RX6 201 RX6 yX6_refused wsX6_refused) := goodIn_app (goodIn_of _ (by decide +kernel)) ggX6_victims_X6_refused
set_option maxRecDepth 20000 in
theorem ggX6_victims_X6_victimsOf : GoodIn wsX6_victims wsX6_victimsOf := goodIn_r _ [62, 13, 63, 64, 65, 4, 66, 30, 43, 67, 68, 69, 70, 71, 72, 73, 74, 75, 76, 77, 78, 79, 80, 81, 82, 83, 84, 85] (by decide +kernel) (by decide +kernel)
set_option maxRecDepth 20000 in
theorem gX6_victims_X6_victimsOf : GoodIn wsX6_victims (wsV RX6 147 RX6 yX6_victimsOf wsX6_victimsOf) := goodIn_app (goodIn_of _ (by decide +kernel)) ggX6_victims_X6_victimsOf
theorem dX6_victims_0 : decode cX6_victims 0 = .ok (.aload_n 0, 1) := by decide +kernel
theorem dX6_victims_1 : decode cX6_victims 1 = .ok (.iload_n 1, 1) := by decide +kernel
theorem dX6_victims_2 : decode cX6_victims 2 = .ok (.iconst 1, 1) := by decide +kernel
theorem dX6_victims_3 : decode cX6_victims 3 = .ok (.invokevirtual 201, 3) := by decide +kernel
theorem dX6_victims_6 : decode cX6_victims 6 = .ok (.istore_n 2, 1) := by decide +kernel
theorem dX6_victims_7 : decode cX6_victims 7 = .ok (.iload_n 2, 1) := by decide +kernel
theorem dX6_victims_8 : decode cX6_victims 8 = .ok (.ifCond .ge 7, 3) := by decide +kernel
theorem dX6_victims_11 : decode cX6_victims 11 = .ok (.iload_n 2, 1) := by decide +kernel
theorem dX6_victims_12 : decode cX6_victims 12 = .ok (.goto 7, 3) := by decide +kernel
theorem dX6_victims_15 : decode cX6_victims 15 = .ok (.aload_n 0, 1) := by decide +kernel
theorem dX6_victims_16 : decode cX6_victims 16 = .ok (.invokevirtual 147, 3) := by decide +kernel
theorem dX6_victims_19 : decode cX6_victims 19 = .ok (.ireturn, 1) := by decide +kernel
abbrev rmX6_victims : Room := { frames := 6, cells := 0, slots := 0, locals := 145 }

set_option maxRecDepth 100000 in
set_option maxHeartbeats 4000000 in
theorem c_X6_victims {l : Launch} {g : Geo} {M : Nat → Nat → Int32} {P : Nat → Nat} {N K B : Nat} (hI : InvX eM (M 159) N K B) {n : Int32} : Met l yX6_victims wsX6_victims rmX6_victims (cPre g [.ref (g.1 158), .int n] M P) (cQi g (fun r M' P' => P = P' ∧ FrO M M' ∧ rtQ eM (M 159) N n (nI 1) (fun _ L => nI (bset (vicE eM (M 159) L) N)) r)) 0 0 (gA g) := by
  refine met_i (cc := cX6_victims) (maxL := 3) (by decide) rfl ⟨rfl, rfl⟩ (Nat.le_of_ble_eq_true rfl) (fun x hx h hret => ?_)
  replace h : Cxk x g cX6_victims 3 wsX6_victims RX6 rmX6_victims := h
  show X x 0 [(0, .ref (g.1 158)), (1, .int n)] [] M P
  refine x_aload_n h 0 dX6_victims_0 rfl rfl ?_
  refine x_iload_n h 1 dX6_victims_1 rfl rfl ?_
  refine x_iconst h (nI 1) dX6_victims_2 (by decide) ?_
  refine x_callV h (As := [.int n, .int (nI 1)]) 2 hx (c_X6_refused hI) gX6_victims_X6_refused rfl ⟨rfl, rfl⟩ (by decide +kernel) rfl (by decide) (by decide) E_158 rfl rfl (Nat.le_of_ble_eq_true rfl) dX6_victims_3 (fun rv Mq P' hp => ?_)
  obtain ⟨rfl, hFO, hp⟩ := hp
  rcases hp with ⟨hno, rfl⟩ | ⟨k, b, hk, hb, rfl, hdb, ⟨hj, rfl⟩ | ⟨hj, ⟨hrn, rfl⟩ | ⟨z, l1, l2, hrs, rfl, hRt, hzt⟩⟩⟩
  · -- refused
    refine x_istore_n h [(2, .int (-1000001)), (0, .ref (g.1 158)), (1, .int n)] dX6_victims_6 rfl (by decide) rfl ?_
    refine x_iload_n h 0 dX6_victims_7 rfl rfl ?_
    refine x_if_ge h 15 dX6_victims_8 (by decide) (fun c => absurd c (by decide)) (fun _ => ?_)
    refine x_iload_n h 0 dX6_victims_11 rfl rfl ?_
    refine x_goto h 19 dX6_victims_12 (by decide) ?_
    exact hret _ _ _ _ _ dX6_victims_19 (by exact ⟨rfl, hFO, Or.inl ⟨hno, rfl⟩⟩)
  · -- refused
    refine x_istore_n h [(2, .int (-1000002)), (0, .ref (g.1 158)), (1, .int (nI k))] dX6_victims_6 rfl (by decide) rfl ?_
    refine x_iload_n h 0 dX6_victims_7 rfl rfl ?_
    refine x_if_ge h 15 dX6_victims_8 (by decide) (fun c => absurd c (by decide)) (fun _ => ?_)
    refine x_iload_n h 0 dX6_victims_11 rfl rfl ?_
    refine x_goto h 19 dX6_victims_12 (by decide) ?_
    exact hret _ _ _ _ _ dX6_victims_19 (by exact ⟨rfl, hFO, Or.inr ⟨k, b, hk, hb, rfl, hdb, Or.inl ⟨hj, rfl⟩⟩⟩)
  · -- refused
    refine x_istore_n h [(2, .int (-1000004)), (0, .ref (g.1 158)), (1, .int (nI k))] dX6_victims_6 rfl (by decide) rfl ?_
    refine x_iload_n h 0 dX6_victims_7 rfl rfl ?_
    refine x_if_ge h 15 dX6_victims_8 (by decide) (fun c => absurd c (by decide)) (fun _ => ?_)
    refine x_iload_n h 0 dX6_victims_11 rfl rfl ?_
    refine x_goto h 19 dX6_victims_12 (by decide) ?_
    exact hret _ _ _ _ _ dX6_victims_19 (by exact ⟨rfl, hFO, Or.inr ⟨k, b, hk, hb, rfl, hdb, Or.inr ⟨hj, Or.inl ⟨hrn, rfl⟩⟩⟩⟩)
  · -- a route
    have e159 : Mq 159 = M 159 := hFO.1 159 (by omega)
    have hin := rt_in hI hk hrs
    have hI2 := hI
    rw [← e159] at hI2
    refine x_istore_n h [(2, .int (nI 0)), (0, .ref (g.1 158)), (1, .int (nI k))] dX6_victims_6 rfl (by decide) rfl ?_
    refine x_iload_n h 0 dX6_victims_7 rfl rfl ?_
    refine x_if_ge h 15 dX6_victims_8 (by decide) (fun _ => ?_) (fun c => absurd (by decide) c)
    refine x_aload_n h 1 dX6_victims_15 rfl rfl ?_
    refine x_callV h (As := []) 0 hx (c_X6_victimsOf hI2 hRt hin.1 hin.2) gX6_victims_X6_victimsOf rfl ⟨rfl, rfl⟩ (by decide +kernel) rfl (by decide) (by decide) E_158 rfl rfl (Nat.le_of_ble_eq_true rfl) dX6_victims_16 (fun rv M' P' hp => ?_)
    obtain ⟨⟨rfl, rfl⟩, rfl⟩ := hp
    refine x_top (nI (bset (vicE eM (M 159) (l1 ++ l2)) N)) (by rw [e159]) ?_
    exact hret _ _ _ _ _ dX6_victims_19 (by exact ⟨rfl, hFO, Or.inr ⟨k, b, hk, hb, rfl, hdb, Or.inr ⟨hj, Or.inr ⟨z, l1, l2, hrs, rfl⟩⟩⟩⟩)

set_option maxRecDepth 20000 in
theorem ggX6_routeAt_X6_refused : GoodIn wsX6_routeAt wsX6_refused := goodIn_r _ [9, 1, 10, 4, 11, 12, 13, 8, 14, 15, 16, 17, 18, 19, 20, 21, 22, 23, 24, 25, 26, 27, 28, 29, 30, 31, 2, 32, 33, 34, 35, 36, 37, 38, 39, 40, 41, 42, 43, 3, 44, 45, 46, 47, 48, 49, 50, 51, 52, 53, 54, 55, 56, 57, 58, 59, 60, 61, 62, 63, 64, 65, 66, 67, 68, 69, 70, 71, 72, 73, 74, 75, 76, 77] (by decide +kernel) (by decide +kernel)
set_option maxRecDepth 20000 in
theorem gX6_routeAt_X6_refused : GoodIn wsX6_routeAt (wsV RX6 201 RX6 yX6_refused wsX6_refused) := goodIn_app (goodIn_of _ (by decide +kernel)) ggX6_routeAt_X6_refused
theorem dX6_routeAt_0 : decode cX6_routeAt 0 = .ok (.iload_n 3, 1) := by decide +kernel
theorem dX6_routeAt_1 : decode cX6_routeAt 1 = .ok (.ifCond .ge 6, 3) := by decide +kernel
theorem dX6_routeAt_4 : decode cX6_routeAt 4 = .ok (.ldc 61, 2) := by decide +kernel
theorem dX6_routeAt_6 : decode cX6_routeAt 6 = .ok (.ireturn, 1) := by decide +kernel
theorem dX6_routeAt_7 : decode cX6_routeAt 7 = .ok (.aload_n 0, 1) := by decide +kernel
theorem dX6_routeAt_8 : decode cX6_routeAt 8 = .ok (.iload_n 1, 1) := by decide +kernel
theorem dX6_routeAt_9 : decode cX6_routeAt 9 = .ok (.iload_n 2, 1) := by decide +kernel
theorem dX6_routeAt_10 : decode cX6_routeAt 10 = .ok (.invokevirtual 201, 3) := by decide +kernel
theorem dX6_routeAt_13 : decode cX6_routeAt 13 = .ok (.istore 4, 2) := by decide +kernel
theorem dX6_routeAt_15 : decode cX6_routeAt 15 = .ok (.iload 4, 2) := by decide +kernel
theorem dX6_routeAt_17 : decode cX6_routeAt 17 = .ok (.ifCond .ge 8, 3) := by decide +kernel
theorem dX6_routeAt_20 : decode cX6_routeAt 20 = .ok (.iload 4, 2) := by decide +kernel
theorem dX6_routeAt_22 : decode cX6_routeAt 22 = .ok (.goto 22, 3) := by decide +kernel
theorem dX6_routeAt_25 : decode cX6_routeAt 25 = .ok (.iload_n 3, 1) := by decide +kernel
theorem dX6_routeAt_26 : decode cX6_routeAt 26 = .ok (.aload_n 0, 1) := by decide +kernel
theorem dX6_routeAt_27 : decode cX6_routeAt 27 = .ok (.getfield 111, 3) := by decide +kernel
theorem dX6_routeAt_30 : decode cX6_routeAt 30 = .ok (.if_icmp .ge 12, 3) := by decide +kernel
theorem dX6_routeAt_33 : decode cX6_routeAt 33 = .ok (.aload_n 0, 1) := by decide +kernel
theorem dX6_routeAt_34 : decode cX6_routeAt 34 = .ok (.getfield 32, 3) := by decide +kernel
theorem dX6_routeAt_37 : decode cX6_routeAt 37 = .ok (.iload_n 3, 1) := by decide +kernel
theorem dX6_routeAt_38 : decode cX6_routeAt 38 = .ok (.iaload, 1) := by decide +kernel
theorem dX6_routeAt_39 : decode cX6_routeAt 39 = .ok (.goto 5, 3) := by decide +kernel
theorem dX6_routeAt_42 : decode cX6_routeAt 42 = .ok (.ldc 85, 2) := by decide +kernel
theorem dX6_routeAt_44 : decode cX6_routeAt 44 = .ok (.ireturn, 1) := by decide +kernel
abbrev rmX6_routeAt : Room := { frames := 6, cells := 0, slots := 0, locals := 145 }
set_option maxRecDepth 20000 in
theorem in_X6_routeAt_X6 : ∀ w ∈ wsX60, w ∈ wsX6_routeAt := by decide +kernel

set_option maxRecDepth 100000 in
set_option maxHeartbeats 4000000 in
theorem c_X6_routeAt {l : Launch} {g : Geo} {M : Nat → Nat → Int32} {P : Nat → Nat} {N K B : Nat} (hI : InvX eM (M 159) N K B) {n d a : Int32} : Met l yX6_routeAt wsX6_routeAt rmX6_routeAt (cPre g [.ref (g.1 158), .int n, .int d, .int a] M P) (cQi g (fun r M' P' => P = P' ∧ FrO M M' ∧ ((a < 0 ∧ r = -1000001) ∨ ∃ j, j < 2 ^ 31 ∧ a = nI j ∧ rtQ eM (M 159) N n d (fun _ L => atL L j) r))) 0 0 (gA g) := by
  refine met_i (cc := cX6_routeAt) (maxL := 5) (by decide) rfl ⟨rfl, rfl⟩ (Nat.le_of_ble_eq_true rfl) (fun x hx h hret => ?_)
  replace h : Cxk x g cX6_routeAt 5 wsX6_routeAt RX6 rmX6_routeAt := h
  show X x 0 [(0, .ref (g.1 158)), (1, .int n), (2, .int d), (3, .int a)] [] M P
  refine x_iload_n h 3 dX6_routeAt_0 rfl rfl ?_
  refine x_if_ge h 7 dX6_routeAt_1 (by decide) (fun c_1 => ?_) (fun c_1 => ?_)
  · -- 1 true
    obtain ⟨j, hj0, rfl⟩ := nI_of (x := a) (Int32.not_lt.mpr c_1)
    refine x_aload_n h 0 dX6_routeAt_7 rfl rfl ?_
    refine x_iload_n h 1 dX6_routeAt_8 rfl rfl ?_
    refine x_iload_n h 2 dX6_routeAt_9 rfl rfl ?_
    refine x_callV h (As := [.int n, .int d]) 2 hx (c_X6_refused hI) gX6_routeAt_X6_refused rfl ⟨rfl, rfl⟩ (by decide +kernel) rfl (by decide) (by decide) E_158 rfl rfl (Nat.le_of_ble_eq_true rfl) dX6_routeAt_10 (fun rv Mq P' hp => ?_)
    obtain ⟨rfl, hFO, hp⟩ := hp
    rcases hp with ⟨hno, rfl⟩ | ⟨k, b, hk, hb, rfl, hdb, ⟨hj, rfl⟩ | ⟨hj, ⟨hrn, rfl⟩ | ⟨z, l1, l2, hrs, rfl, hRt, hzt⟩⟩⟩
    · -- refused
      refine x_istore h [(4, .int (-1000001)), (0, .ref (g.1 158)), (1, .int n), (2, .int d), (3, .int (nI j))] dX6_routeAt_13 (by decide) rfl ?_
      refine x_iload h 0 dX6_routeAt_15 rfl ?_
      refine x_if_ge h 25 dX6_routeAt_17 (by decide) (fun c => absurd c (by decide)) (fun _ => ?_)
      refine x_iload h 0 dX6_routeAt_20 rfl ?_
      refine x_goto h 44 dX6_routeAt_22 (by decide) ?_
      exact hret _ _ _ _ _ dX6_routeAt_44 (by 
                  refine ⟨rfl, hFO, Or.inr ⟨j, hj0, rfl, ?_⟩⟩
                  exact Or.inl ⟨hno, rfl⟩)
    · -- refused
      refine x_istore h [(4, .int (-1000002)), (0, .ref (g.1 158)), (1, .int (nI k)), (2, .int d), (3, .int (nI j))] dX6_routeAt_13 (by decide) rfl ?_
      refine x_iload h 0 dX6_routeAt_15 rfl ?_
      refine x_if_ge h 25 dX6_routeAt_17 (by decide) (fun c => absurd c (by decide)) (fun _ => ?_)
      refine x_iload h 0 dX6_routeAt_20 rfl ?_
      refine x_goto h 44 dX6_routeAt_22 (by decide) ?_
      exact hret _ _ _ _ _ dX6_routeAt_44 (by 
                  refine ⟨rfl, hFO, Or.inr ⟨j, hj0, rfl, ?_⟩⟩
                  exact Or.inr ⟨k, b, hk, hb, rfl, hdb, Or.inl ⟨hj, rfl⟩⟩)
    · -- refused
      refine x_istore h [(4, .int (-1000004)), (0, .ref (g.1 158)), (1, .int (nI k)), (2, .int d), (3, .int (nI j))] dX6_routeAt_13 (by decide) rfl ?_
      refine x_iload h 0 dX6_routeAt_15 rfl ?_
      refine x_if_ge h 25 dX6_routeAt_17 (by decide) (fun c => absurd c (by decide)) (fun _ => ?_)
      refine x_iload h 0 dX6_routeAt_20 rfl ?_
      refine x_goto h 44 dX6_routeAt_22 (by decide) ?_
      exact hret _ _ _ _ _ dX6_routeAt_44 (by 
                  refine ⟨rfl, hFO, Or.inr ⟨j, hj0, rfl, ?_⟩⟩
                  first | exact Or.inr ⟨k, b, hk, hb, rfl, hdb, Or.inr ⟨hj, Or.inl ⟨hrn, rfl⟩⟩⟩ | exact Or.inr ⟨k, b, hk, hb, rfl, hdb, Or.inr ⟨hj, Or.inr ⟨z, l1, l2, hrs, (if_neg (by omega)).symm⟩⟩⟩)
    · -- a route
      have e159 : Mq 159 = M 159 := hFO.1 159 (by omega)
      have hin := rt_in hI hk hrs
      have hI2 := hI
      rw [← e159] at hI2
      refine x_istore h [(4, .int (nI 0)), (0, .ref (g.1 158)), (1, .int (nI k)), (2, .int d), (3, .int (nI j))] dX6_routeAt_13 (by decide) rfl ?_
      refine x_iload h 0 dX6_routeAt_15 rfl ?_
      refine x_if_ge h 25 dX6_routeAt_17 (by decide) (fun _ => ?_) (fun c => absurd (by decide) c)
      refine x_iload_n h 4 dX6_routeAt_25 rfl rfl ?_
      refine x_aload_n h 1 dX6_routeAt_26 rfl rfl ?_
      refine xg_X6_11 h in_X6_routeAt_X6 (by decide +kernel) dX6_routeAt_27 ?_
      refine x_top (nI ((l1 ++ l2).length)) (hRt.1) ?_
      refine x_icmp_ge_n h 42 dX6_routeAt_30 (by decide) (by first | omega | (have := hin.1; omega)) (by first | omega | (have := hin.1; omega)) (fun c_30 => ?_) (fun c_30 => ?_)
      · -- 30 true
        refine x_ldc h ((-1000004)) (by decide +kernel) dX6_routeAt_42 ?_
        exact hret _ _ _ _ _ dX6_routeAt_44 (by 
                      refine ⟨rfl, hFO, Or.inr ⟨j, hj0, rfl, ?_⟩⟩
                      first | exact Or.inr ⟨k, b, hk, hb, rfl, hdb, Or.inr ⟨hj, Or.inl ⟨hrn, rfl⟩⟩⟩ | exact Or.inr ⟨k, b, hk, hb, rfl, hdb, Or.inr ⟨hj, Or.inr ⟨z, l1, l2, hrs, (if_neg (by omega)).symm⟩⟩⟩)
      · -- 30 false
        refine x_aload_n h 1 dX6_routeAt_33 rfl rfl ?_
        refine xg_X6_10 h in_X6_routeAt_X6 (by decide +kernel) dX6_routeAt_34 ?_
        refine x_iload_n h 4 dX6_routeAt_37 rfl rfl ?_
        refine xl_166 h dX6_routeAt_38 (by have := hin.1; omega) ?_
        refine x_top (nI ((l1 ++ l2).getD j 0)) (hRt.2 j (by omega)) ?_
        refine x_goto h 44 dX6_routeAt_39 (by decide) ?_
        exact hret _ _ _ _ _ dX6_routeAt_44 (by 
                      refine ⟨rfl, hFO, Or.inr ⟨j, hj0, rfl, ?_⟩⟩
                      exact Or.inr ⟨k, b, hk, hb, rfl, hdb, Or.inr ⟨hj, Or.inr ⟨z, l1, l2, hrs, (if_pos c_30).symm⟩⟩⟩)
  · -- 1 false
    refine x_ldc h ((-1000001)) (by decide +kernel) dX6_routeAt_4 ?_
    exact hret _ _ _ _ _ dX6_routeAt_6 (by exact ⟨rfl, FrO_rf M, Or.inl ⟨by first | exact c_1 | exact Int32.not_le.mp c_1, rfl⟩⟩)
