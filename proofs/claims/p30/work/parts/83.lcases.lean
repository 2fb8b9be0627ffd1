set_option maxRecDepth 100000 in
set_option maxHeartbeats 16000000 in
theorem lc_block {x : Ctx} {g : Geo} {l : Launch} {b t v w n N K B A s n1 n2 : Nat} {M : Nat → Nat → Int32} {P : Nat → Nat} {X : Nat → Int32} {xv : Int32} (hx : x.1.2.1 = l) (h : Tk x g (fun _ => True) n1 n2 cL_law 16 wsL_law RL room_1) (hv : v < 8192) (hw : w < 8192) (hn0 : N = 0 → n = 0) (hn1 : N ≠ 0 → n < N) (hA0 : 100000 ≤ A) (hA1 : A + 1 < 2 ^ 30) (hB1 : B + 9999 < 2 ^ 31) (hW : WI M P N K B A s) (hX : M (P 0) = X)
    (kk : ∀ (r : Int32) (M' : Nat → Nat → Int32) (P' : Nat → Nat) (N' K' s' : Nat), ErrP r ∨ OkP r → WI M' P' N' K' (B + 9999) (A + 1) s' → T x (fun _ => True) n1 n2 1135 [(0, .ref b), (1, .ref (g.1 144)), (2, .int (nI 1)), (3, .int (nI t)), (5, .int (nI v)), (6, .int (nI w)), (11, .int r)] [] M' P') : T x (fun _ => True) n1 n2 300 [(0, .ref b), (1, .ref (g.1 144)), (2, .int (nI 1)), (3, .int (nI t)), (4, .int xv), (5, .int (nI v)), (6, .int (nI w)), (7, .int (nI N)), (8, .int (nI n)), (9, .int (coins X N)), (10, .int (nI K)), (11, .int (nI 0))] [] M P := by
  have hN6 := hW.N6
  have hK12 := hW.K12
  have hI : InvC X N K B := hX ▸ hW.hI
  have hGd := hI.1.1
  have hnw0 := (show GI X N K B A from hX ▸ hW.hG).2.1
  refine tt_aload_n h 1 dL_law_300 rfl rfl ?_
  refine tt_iload h 5 dL_law_301 rfl ?_
  refine tt_bipush h (nI 81) dL_law_303 (by decide) ?_
  refine tt_irem_n h dL_law_305 (by first | omega | exact jN_lt | exact cnt_lt31 (by omega) | exact pri_lt hGd | exact Nat.lt_of_lt_of_le (vicE_lt hN6) (by decide)) (by decide) (by decide) ?_
  refine tt_iconst h (nI 1) dL_law_306 (by decide) ?_
  refine tt_callV h (As := [.int (nI (v % 81)), .int (nI 1)]) 2 hx (c_X5_block hW.hP hW.hI hW.hs hW.hs4) gL_law_X5_block rfl ⟨rfl, rfl⟩ (by decide +kernel) rfl (by decide) (by decide) E_144 rfl rfl (Nat.le_of_ble_eq_true rfl) dL_law_307 (fun a307 M307_ P307_ hp => ?_)
  rw [hX] at hp
  rcases tr_step (Q := fun Y r X' => blkQ eC Y (nI (v % 81)) (nI 1) r X') hW hX hA1 hB1 hp (q_blk hA1 hB1) with ⟨he, hEr, hPe, hW2, hX2⟩ | ⟨hok, N1, K1, X1, hW1, hX1, hOk⟩
  · subst hPe
    clear hp
    refine tt_istore h [(11, .int a307), (0, .ref b), (1, .ref (g.1 144)), (2, .int (nI 1)), (3, .int (nI t)), (4, .int xv), (5, .int (nI v)), (6, .int (nI w)), (7, .int (nI N)), (8, .int (nI n)), (9, .int (coins X N)), (10, .int (nI K))] dL_law_310 (by decide) rfl ?_
    refine tt_goto h 1135 dL_law_312 (by decide) ?_
    exact tt_lv (kk _ _ _ _ _ _ (Or.inl he) hW2) [1, 2, 3, 4, 6, 7, 0] rfl
  · clear hp
    refine tt_istore h [(11, .int a307), (0, .ref b), (1, .ref (g.1 144)), (2, .int (nI 1)), (3, .int (nI t)), (4, .int xv), (5, .int (nI v)), (6, .int (nI w)), (7, .int (nI N)), (8, .int (nI n)), (9, .int (coins X N)), (10, .int (nI K))] dL_law_310 (by decide) rfl ?_
    refine tt_goto h 1135 dL_law_312 (by decide) ?_
    exact tt_lv (kk _ _ _ _ _ _ (Or.inr hok) hW1) [1, 2, 3, 4, 6, 7, 0] rfl

set_option maxRecDepth 100000 in
set_option maxHeartbeats 16000000 in
theorem lc_pass {x : Ctx} {g : Geo} {l : Launch} {b t v w n N K B A s n1 n2 : Nat} {M : Nat → Nat → Int32} {P : Nat → Nat} {X : Nat → Int32} {xv : Int32} (hx : x.1.2.1 = l) (h : Tk x g (fun _ => True) n1 n2 cL_law 16 wsL_law RL room_1) (hv : v < 8192) (hw : w < 8192) (hn0 : N = 0 → n = 0) (hn1 : N ≠ 0 → n < N) (hA0 : 100000 ≤ A) (hA1 : A + 1 < 2 ^ 30) (hB1 : B + 9999 < 2 ^ 31) (hW : WI M P N K B A s) (hX : M (P 0) = X)
    (kk : ∀ (r : Int32) (M' : Nat → Nat → Int32) (P' : Nat → Nat) (N' K' s' : Nat), ErrP r ∨ OkP r → WI M' P' N' K' (B + 9999) (A + 1) s' → T x (fun _ => True) n1 n2 1135 [(0, .ref b), (1, .ref (g.1 144)), (2, .int (nI 1)), (3, .int (nI t)), (5, .int (nI v)), (6, .int (nI w)), (11, .int r)] [] M' P') : T x (fun _ => True) n1 n2 1035 [(0, .ref b), (1, .ref (g.1 144)), (2, .int (nI 1)), (3, .int (nI t)), (4, .int xv), (5, .int (nI v)), (6, .int (nI w)), (7, .int (nI N)), (8, .int (nI n)), (9, .int (coins X N)), (10, .int (nI K)), (11, .int (nI 0))] [] M P := by
  have hN6 := hW.N6
  have hK12 := hW.K12
  have hI : InvC X N K B := hX ▸ hW.hI
  have hGd := hI.1.1
  have hnw0 := (show GI X N K B A from hX ▸ hW.hG).2.1
  refine tt_aload_n h 1 dL_law_1035 rfl rfl ?_
  refine tt_iconst h (nI 1) dL_law_1036 (by decide) ?_
  refine tt_iload h 5 dL_law_1037 rfl ?_
  refine tt_iconst h (nI 4) dL_law_1039 (by decide) ?_
  refine tt_irem_n h dL_law_1040 (by first | omega | exact jN_lt | exact cnt_lt31 (by omega) | exact pri_lt hGd | exact Nat.lt_of_lt_of_le (vicE_lt hN6) (by decide)) (by decide) (by decide) ?_
  refine tt_iadd_n h dL_law_1041 ?_
  refine tt_callV h (As := [.int (nI (1 + (v % 4)))]) 1 hx (c_X5_pass hW.hP hW.hI hW.hs hW.hs4) gL_law_X5_pass rfl ⟨rfl, rfl⟩ (by decide +kernel) rfl (by decide) (by decide) E_144 rfl rfl (Nat.le_of_ble_eq_true rfl) dL_law_1042 (fun a1042 M1042_ P1042_ hp => ?_)
  rw [hX] at hp
  rcases tr_step (Q := fun Y r X' => passQ Y (nI (1 + (v % 4))) r X') hW hX hA1 hB1 hp (q_pass hA0 hA1 hB1) with ⟨he, hEr, hPe, hW2, hX2⟩ | ⟨hok, N1, K1, X1, hW1, hX1, hOk⟩
  · subst hPe
    clear hp
    refine tt_istore h [(11, .int a1042), (0, .ref b), (1, .ref (g.1 144)), (2, .int (nI 1)), (3, .int (nI t)), (4, .int xv), (5, .int (nI v)), (6, .int (nI w)), (7, .int (nI N)), (8, .int (nI n)), (9, .int (coins X N)), (10, .int (nI K))] dL_law_1045 (by decide) rfl ?_
    refine tt_goto h 1135 dL_law_1047 (by decide) ?_
    exact tt_lv (kk _ _ _ _ _ _ (Or.inl he) hW2) [1, 2, 3, 4, 6, 7, 0] rfl
  · clear hp
    refine tt_istore h [(11, .int a1042), (0, .ref b), (1, .ref (g.1 144)), (2, .int (nI 1)), (3, .int (nI t)), (4, .int xv), (5, .int (nI v)), (6, .int (nI w)), (7, .int (nI N)), (8, .int (nI n)), (9, .int (coins X N)), (10, .int (nI K))] dL_law_1045 (by decide) rfl ?_
    refine tt_goto h 1135 dL_law_1047 (by decide) ?_
    exact tt_lv (kk _ _ _ _ _ _ (Or.inr hok) hW1) [1, 2, 3, 4, 6, 7, 0] rfl

set_option maxRecDepth 100000 in
set_option maxHeartbeats 16000000 in
theorem lc_set {x : Ctx} {g : Geo} {l : Launch} {b t v w n N K B A s n1 n2 : Nat} {M : Nat → Nat → Int32} {P : Nat → Nat} {X : Nat → Int32} {xv : Int32} (hx : x.1.2.1 = l) (h : Tk x g (fun _ => True) n1 n2 cL_law 16 wsL_law RL room_1) (hv : v < 8192) (hw : w < 8192) (hn0 : N = 0 → n = 0) (hn1 : N ≠ 0 → n < N) (hA0 : 100000 ≤ A) (hA1 : A + 1 < 2 ^ 30) (hB1 : B + 9999 < 2 ^ 31) (hW : WI M P N K B A s) (hX : M (P 0) = X)
    (kk : ∀ (r : Int32) (M' : Nat → Nat → Int32) (P' : Nat → Nat) (N' K' s' : Nat), ErrP r ∨ OkP r → WI M' P' N' K' (B + 9999) (A + 1) s' → T x (fun _ => True) n1 n2 1135 [(0, .ref b), (1, .ref (g.1 144)), (2, .int (nI 1)), (3, .int (nI t)), (5, .int (nI v)), (6, .int (nI w)), (11, .int r)] [] M' P') : T x (fun _ => True) n1 n2 1050 [(0, .ref b), (1, .ref (g.1 144)), (2, .int (nI 1)), (3, .int (nI t)), (4, .int xv), (5, .int (nI v)), (6, .int (nI w)), (7, .int (nI N)), (8, .int (nI n)), (9, .int (coins X N)), (10, .int (nI K)), (11, .int (nI 0))] [] M P := by
  have hN6 := hW.N6
  have hK12 := hW.K12
  have hI : InvC X N K B := hX ▸ hW.hI
  have hGd := hI.1.1
  have hnw0 := (show GI X N K B A from hX ▸ hW.hG).2.1
  refine tt_aload_n h 1 dL_law_1050 rfl rfl ?_
  refine tt_iload h 5 dL_law_1051 rfl ?_
  refine tt_iconst h (nI 4) dL_law_1053 (by decide) ?_
  refine tt_irem_n h dL_law_1054 (by first | omega | exact jN_lt | exact cnt_lt31 (by omega) | exact pri_lt hGd | exact Nat.lt_of_lt_of_le (vicE_lt hN6) (by decide)) (by decide) (by decide) ?_
  refine tt_iload h 5 dL_law_1055 rfl ?_
  refine tt_iconst h (nI 4) dL_law_1057 (by decide) ?_
  refine tt_irem_n h dL_law_1058 (by first | omega | exact jN_lt | exact cnt_lt31 (by omega) | exact pri_lt hGd | exact Nat.lt_of_lt_of_le (vicE_lt hN6) (by decide)) (by decide) (by decide) ?_
  refine tt_if_eq_n h 1070 dL_law_1059 (by decide) (by first | omega | exact jN_lt | exact cnt_lt31 (by omega) | exact pri_lt hGd | exact Nat.lt_of_lt_of_le (vicE_lt hN6) (by decide)) (fun c_1059 => ?_) (fun c_1059 => ?_)
  · -- 1059 true
    refine tt_iconst h (nI 1) dL_law_1070 (by decide) ?_
    refine tt_iload h 6 dL_law_1071 rfl ?_
    refine tt_bipush h (nI 20) dL_law_1073 (by decide) ?_
    refine tt_irem_n h dL_law_1075 (by first | omega | exact jN_lt | exact cnt_lt31 (by omega) | exact pri_lt hGd | exact Nat.lt_of_lt_of_le (vicE_lt hN6) (by decide)) (by decide) (by decide) ?_
    refine tt_iadd_n h dL_law_1076 ?_
    refine tt_goto h 1085 dL_law_1077 (by decide) ?_
    refine tt_callV h (As := [.int (nI (v % 4)), .int (nI (1 + (w % 20)))]) 2 hx (c_X5_set hW.hP hW.hI hW.hs hW.hs4) gL_law_X5_set rfl ⟨rfl, rfl⟩ (by decide +kernel) rfl (by decide) (by decide) E_144 rfl rfl (Nat.le_of_ble_eq_true rfl) dL_law_1085 (fun a1085 M1085_ P1085_ hp => ?_)
    rw [hX] at hp
    rcases tr_step (Q := fun Y r X' => setQ Y (nI (v % 4)) (nI (1 + (w % 20))) r X') hW hX hA1 hB1 hp (q_set hA1 hB1) with ⟨he, hEr, hPe, hW2, hX2⟩ | ⟨hok, N1, K1, X1, hW1, hX1, hOk⟩
    · subst hPe
      clear hp
      refine tt_istore h [(11, .int a1085), (0, .ref b), (1, .ref (g.1 144)), (2, .int (nI 1)), (3, .int (nI t)), (4, .int xv), (5, .int (nI v)), (6, .int (nI w)), (7, .int (nI N)), (8, .int (nI n)), (9, .int (coins X N)), (10, .int (nI K))] dL_law_1088 (by decide) rfl ?_
      refine tt_goto h 1135 dL_law_1090 (by decide) ?_
      exact tt_lv (kk _ _ _ _ _ _ (Or.inl he) hW2) [1, 2, 3, 4, 6, 7, 0] rfl
    · clear hp
      refine tt_istore h [(11, .int a1085), (0, .ref b), (1, .ref (g.1 144)), (2, .int (nI 1)), (3, .int (nI t)), (4, .int xv), (5, .int (nI v)), (6, .int (nI w)), (7, .int (nI N)), (8, .int (nI n)), (9, .int (coins X N)), (10, .int (nI K))] dL_law_1088 (by decide) rfl ?_
      refine tt_goto h 1135 dL_law_1090 (by decide) ?_
      exact tt_lv (kk _ _ _ _ _ _ (Or.inr hok) hW1) [1, 2, 3, 4, 6, 7, 0] rfl
  · -- 1059 false
    refine tt_iload h 5 dL_law_1062 rfl ?_
    refine tt_iconst h (nI 4) dL_law_1064 (by decide) ?_
    refine tt_irem_n h dL_law_1065 (by first | omega | exact jN_lt | exact cnt_lt31 (by omega) | exact pri_lt hGd | exact Nat.lt_of_lt_of_le (vicE_lt hN6) (by decide)) (by decide) (by decide) ?_
    refine tt_iconst h (nI 3) dL_law_1066 (by decide) ?_
    refine tt_icmp_ne_n h 1080 dL_law_1067 (by decide) (by first | omega | exact jN_lt | exact cnt_lt31 (by omega) | exact pri_lt hGd | exact Nat.lt_of_lt_of_le (vicE_lt hN6) (by decide)) (by decide) (fun c_1067 => ?_) (fun c_1067 => ?_)
    · -- 1067 true
      refine tt_iload h 6 dL_law_1080 rfl ?_
      refine tt_bipush h (nI 12) dL_law_1082 (by decide) ?_
      refine tt_irem_n h dL_law_1084 (by first | omega | exact jN_lt | exact cnt_lt31 (by omega) | exact pri_lt hGd | exact Nat.lt_of_lt_of_le (vicE_lt hN6) (by decide)) (by decide) (by decide) ?_
      refine tt_callV h (As := [.int (nI (v % 4)), .int (nI (w % 12))]) 2 hx (c_X5_set hW.hP hW.hI hW.hs hW.hs4) gL_law_X5_set rfl ⟨rfl, rfl⟩ (by decide +kernel) rfl (by decide) (by decide) E_144 rfl rfl (Nat.le_of_ble_eq_true rfl) dL_law_1085 (fun a1085_1 M1085_1_ P1085_1_ hp => ?_)
      rw [hX] at hp
      rcases tr_step (Q := fun Y r X' => setQ Y (nI (v % 4)) (nI (w % 12)) r X') hW hX hA1 hB1 hp (q_set hA1 hB1) with ⟨he, hEr, hPe, hW2, hX2⟩ | ⟨hok, N1, K1, X1, hW1, hX1, hOk⟩
      · subst hPe
        clear hp
        refine tt_istore h [(11, .int a1085_1), (0, .ref b), (1, .ref (g.1 144)), (2, .int (nI 1)), (3, .int (nI t)), (4, .int xv), (5, .int (nI v)), (6, .int (nI w)), (7, .int (nI N)), (8, .int (nI n)), (9, .int (coins X N)), (10, .int (nI K))] dL_law_1088 (by decide) rfl ?_
        refine tt_goto h 1135 dL_law_1090 (by decide) ?_
        exact tt_lv (kk _ _ _ _ _ _ (Or.inl he) hW2) [1, 2, 3, 4, 6, 7, 0] rfl
      · clear hp
        refine tt_istore h [(11, .int a1085_1), (0, .ref b), (1, .ref (g.1 144)), (2, .int (nI 1)), (3, .int (nI t)), (4, .int xv), (5, .int (nI v)), (6, .int (nI w)), (7, .int (nI N)), (8, .int (nI n)), (9, .int (coins X N)), (10, .int (nI K))] dL_law_1088 (by decide) rfl ?_
        refine tt_goto h 1135 dL_law_1090 (by decide) ?_
        exact tt_lv (kk _ _ _ _ _ _ (Or.inr hok) hW1) [1, 2, 3, 4, 6, 7, 0] rfl
    · -- 1067 false
      refine tt_iconst h (nI 1) dL_law_1070 (by decide) ?_
      refine tt_iload h 6 dL_law_1071 rfl ?_
      refine tt_bipush h (nI 20) dL_law_1073 (by decide) ?_
      refine tt_irem_n h dL_law_1075 (by first | omega | exact jN_lt | exact cnt_lt31 (by omega) | exact pri_lt hGd | exact Nat.lt_of_lt_of_le (vicE_lt hN6) (by decide)) (by decide) (by decide) ?_
      refine tt_iadd_n h dL_law_1076 ?_
      refine tt_goto h 1085 dL_law_1077 (by decide) ?_
      refine tt_callV h (As := [.int (nI (v % 4)), .int (nI (1 + (w % 20)))]) 2 hx (c_X5_set hW.hP hW.hI hW.hs hW.hs4) gL_law_X5_set rfl ⟨rfl, rfl⟩ (by decide +kernel) rfl (by decide) (by decide) E_144 rfl rfl (Nat.le_of_ble_eq_true rfl) dL_law_1085 (fun a1085_2 M1085_2_ P1085_2_ hp => ?_)
      rw [hX] at hp
      rcases tr_step (Q := fun Y r X' => setQ Y (nI (v % 4)) (nI (1 + (w % 20))) r X') hW hX hA1 hB1 hp (q_set hA1 hB1) with ⟨he, hEr, hPe, hW2, hX2⟩ | ⟨hok, N1, K1, X1, hW1, hX1, hOk⟩
      · subst hPe
        clear hp
        refine tt_istore h [(11, .int a1085_2), (0, .ref b), (1, .ref (g.1 144)), (2, .int (nI 1)), (3, .int (nI t)), (4, .int xv), (5, .int (nI v)), (6, .int (nI w)), (7, .int (nI N)), (8, .int (nI n)), (9, .int (coins X N)), (10, .int (nI K))] dL_law_1088 (by decide) rfl ?_
        refine tt_goto h 1135 dL_law_1090 (by decide) ?_
        exact tt_lv (kk _ _ _ _ _ _ (Or.inl he) hW2) [1, 2, 3, 4, 6, 7, 0] rfl
      · clear hp
        refine tt_istore h [(11, .int a1085_2), (0, .ref b), (1, .ref (g.1 144)), (2, .int (nI 1)), (3, .int (nI t)), (4, .int xv), (5, .int (nI v)), (6, .int (nI w)), (7, .int (nI N)), (8, .int (nI n)), (9, .int (coins X N)), (10, .int (nI K))] dL_law_1088 (by decide) rfl ?_
        refine tt_goto h 1135 dL_law_1090 (by decide) ?_
        exact tt_lv (kk _ _ _ _ _ _ (Or.inr hok) hW1) [1, 2, 3, 4, 6, 7, 0] rfl

set_option maxRecDepth 100000 in
set_option maxHeartbeats 16000000 in
theorem lc_net {x : Ctx} {g : Geo} {l : Launch} {b t v w n N K B A s n1 n2 : Nat} {M : Nat → Nat → Int32} {P : Nat → Nat} {X : Nat → Int32} {xv : Int32} (hx : x.1.2.1 = l) (h : Tk x g (fun _ => True) n1 n2 cL_law 16 wsL_law RL room_1) (hv : v < 8192) (hw : w < 8192) (hn0 : N = 0 → n = 0) (hn1 : N ≠ 0 → n < N) (hA0 : 100000 ≤ A) (hA1 : A + 1 < 2 ^ 30) (hB1 : B + 9999 < 2 ^ 31) (hW : WI M P N K B A s) (hX : M (P 0) = X)
    (kk : ∀ (r : Int32) (M' : Nat → Nat → Int32) (P' : Nat → Nat) (N' K' s' : Nat), ErrP r ∨ OkP r → WI M' P' N' K' (B + 9999) (A + 1) s' → T x (fun _ => True) n1 n2 1135 [(0, .ref b), (1, .ref (g.1 144)), (2, .int (nI 1)), (3, .int (nI t)), (5, .int (nI v)), (6, .int (nI w)), (11, .int r)] [] M' P') : T x (fun _ => True) n1 n2 315 [(0, .ref b), (1, .ref (g.1 144)), (2, .int (nI 1)), (3, .int (nI t)), (4, .int xv), (5, .int (nI v)), (6, .int (nI w)), (7, .int (nI N)), (8, .int (nI n)), (9, .int (coins X N)), (10, .int (nI K)), (11, .int (nI 0))] [] M P := by
  have hN6 := hW.N6
  have hK12 := hW.K12
  have hI : InvC X N K B := hX ▸ hW.hI
  have hGd := hI.1.1
  have hnw0 := (show GI X N K B A from hX ▸ hW.hG).2.1
  refine tt_aload_n h 1 dL_law_315 rfl rfl ?_
  refine tt_iload h 5 dL_law_316 rfl ?_
  refine tt_bipush h (nI 81) dL_law_318 (by decide) ?_
  refine tt_irem_n h dL_law_320 (by first | omega | exact jN_lt | exact cnt_lt31 (by omega) | exact pri_lt hGd | exact Nat.lt_of_lt_of_le (vicE_lt hN6) (by decide)) (by decide) (by decide) ?_
  refine tt_iload h 6 dL_law_321 rfl ?_
  refine tt_bipush h (nI 81) dL_law_323 (by decide) ?_
  refine tt_irem_n h dL_law_325 (by first | omega | exact jN_lt | exact cnt_lt31 (by omega) | exact pri_lt hGd | exact Nat.lt_of_lt_of_le (vicE_lt hN6) (by decide)) (by decide) (by decide) ?_
  refine tt_iload h 4 dL_law_326 rfl ?_
  refine tt_bipush h (nI 17) dL_law_328 (by decide) ?_
  refine tt_ishr h dL_law_330 ?_
  refine tt_iconst h (nI 3) dL_law_331 (by decide) ?_
  refine tt_callS h (As := [.int (xv >>> ((nI 17) &&& 31)), .int (nI 3)]) 2 hx (c_L_low (m := 3) (by decide) (by decide)) gL_law_L_low rfl ⟨rfl, rfl⟩ (by decide +kernel) rfl (by decide) (Nat.le_of_ble_eq_true rfl) dL_law_332 (fun a332 M' P' hp => ?_)
  obtain ⟨⟨rfl, rfl⟩, z332, hz332, rfl⟩ := hp
  refine tt_if_ne_n h 349 dL_law_335 (by decide) (by first | omega | exact jN_lt | exact cnt_lt31 (by omega) | exact pri_lt hGd | exact Nat.lt_of_lt_of_le (vicE_lt hN6) (by decide)) (fun c_335 => ?_) (fun c_335 => ?_)
  · -- 335 true
    refine tt_iconst h ((-1)) dL_law_349 (by decide) ?_
    refine tt_iload h 5 dL_law_350 rfl ?_
    refine tt_bipush h (nI 10) dL_law_352 (by decide) ?_
    refine tt_irem_n h dL_law_354 (by first | omega | exact jN_lt | exact cnt_lt31 (by omega) | exact pri_lt hGd | exact Nat.lt_of_lt_of_le (vicE_lt hN6) (by decide)) (by decide) (by decide) ?_
    refine tt_bipush h (nI 20) dL_law_355 (by decide) ?_
    refine tt_iload h 6 dL_law_357 rfl ?_
    refine tt_sipush h (nI 200) dL_law_359 (by decide) ?_
    refine tt_irem_n h dL_law_362 (by first | omega | exact jN_lt | exact cnt_lt31 (by omega) | exact pri_lt hGd | exact Nat.lt_of_lt_of_le (vicE_lt hN6) (by decide)) (by decide) (by decide) ?_
    refine tt_iadd_n h dL_law_363 ?_
    refine tt_callV h (As := [.int (nI (v % 81)), .int (nI (w % 81)), .int (-1), .int (nI (v % 10)), .int (nI (20 + (w % 200)))]) 5 hx (c_X5_net hW.hP hW.hI hW.hs hW.hs4) gL_law_X5_net rfl ⟨rfl, rfl⟩ (by decide +kernel) rfl (by decide) (by decide) E_144 rfl rfl (Nat.le_of_ble_eq_true rfl) dL_law_364 (fun a364 M364_ P364_ hp => ?_)
    rw [hX] at hp
    rcases tr_step (Q := fun Y r X' => netQ eC Y N (nI (v % 81)) (nI (w % 81)) (-1) (nI (v % 10)) (nI (20 + (w % 200))) r X') hW hX hA1 hB1 hp (q_net hA1 hB1) with ⟨he, hEr, hPe, hW2, hX2⟩ | ⟨hok, N1, K1, X1, hW1, hX1, hOk⟩
    · subst hPe
      clear hp
      refine tt_istore h [(11, .int a364), (0, .ref b), (1, .ref (g.1 144)), (2, .int (nI 1)), (3, .int (nI t)), (4, .int xv), (5, .int (nI v)), (6, .int (nI w)), (7, .int (nI N)), (8, .int (nI n)), (9, .int (coins X N)), (10, .int (nI K))] dL_law_367 (by decide) rfl ?_
      refine tt_iload h 0 dL_law_369 rfl ?_
      refine tt_if_lt h 403 dL_law_371 (by decide) (fun c_371 => ?_) (fun c_371 => by exfalso; exact c_371 he.neg)
      refine tt_iconst h (nI 1) dL_law_403 (by decide) ?_
      refine tt_goto h 408 dL_law_404 (by decide) ?_
      refine tt_istore_n h [(2, .int (nI 1)), (11, .int a364), (0, .ref b), (1, .ref (g.1 144)), (3, .int (nI t)), (4, .int xv), (5, .int (nI v)), (6, .int (nI w)), (7, .int (nI N)), (8, .int (nI n)), (9, .int (coins X N)), (10, .int (nI K))] dL_law_408 rfl (by decide) rfl ?_
      refine tt_goto h 1135 dL_law_409 (by decide) ?_
      exact tt_lv (kk _ _ _ _ _ _ (Or.inl he) hW2) [2, 3, 0, 4, 6, 7, 1] rfl
    · clear hp
      obtain ⟨rfl, rfl, hpu, hj⟩ := hOk
      have hN7 := hW1.N6
      refine tt_istore h [(11, .int (nI N)), (0, .ref b), (1, .ref (g.1 144)), (2, .int (nI 1)), (3, .int (nI t)), (4, .int xv), (5, .int (nI v)), (6, .int (nI w)), (7, .int (nI N)), (8, .int (nI n)), (9, .int (coins X N)), (10, .int (nI K))] dL_law_367 (by decide) rfl ?_
      refine tt_iload h 0 dL_law_369 rfl ?_
      refine tt_if_lt_n h 403 dL_law_371 (by decide) (by first | omega | exact jN_lt | exact cnt_lt31 (by omega) | exact pri_lt hGd | exact Nat.lt_of_lt_of_le (vicE_lt hN6) (by decide)) ?_
      refine tt_aload_n h 2 dL_law_374 rfl rfl ?_
      refine tt_iload h 0 dL_law_375 rfl ?_
      refine tt_iconst h (nI 5) dL_law_377 (by decide) ?_
      refine tt_callV h (As := [.int (nI N), .int (nI 5)]) 2 hx (c_X5_netOf hW1.hP hW1.hI) gL_law_X5_netOf rfl ⟨rfl, rfl⟩ (by decide +kernel) rfl (by decide) (by decide) E_144 rfl rfl (Nat.le_of_ble_eq_true rfl) dL_law_378 (fun a378 M' P' hp => ?_)
      rw [hX1] at hp
      obtain ⟨⟨rfl, rfl⟩, hQ⟩ := hp
      have hz := (net_at (k := N) (j := 5) hW1.N6 (by omega) (by omega) hQ).trans (fNet5 X1 N)
      clear hQ
      subst hz
      refine tt_top (nI 0) (congrArg nI hj) ?_
      refine tt_if_ne h 407 dL_law_381 (by decide) (fun c => absurd c (by decide)) (fun _ => ?_)
      refine tt_aload_n h 2 dL_law_384 rfl rfl ?_
      refine tt_iload h 0 dL_law_385 rfl ?_
      refine tt_iconst h (nI 4) dL_law_387 (by decide) ?_
      refine tt_callV h (As := [.int (nI N), .int (nI 4)]) 2 hx (c_X5_netOf hW1.hP hW1.hI) gL_law_X5_netOf rfl ⟨rfl, rfl⟩ (by decide +kernel) rfl (by decide) (by decide) E_144 rfl rfl (Nat.le_of_ble_eq_true rfl) dL_law_388 (fun a388 M' P' hp => ?_)
      rw [hX1] at hp
      obtain ⟨⟨rfl, rfl⟩, hQ⟩ := hp
      have hz := (net_at (k := N) (j := 4) hW1.N6 (by omega) (by omega) hQ)
      clear hQ
      subst hz
      refine tt_top (nI (20 + w % 200)) (hpu) ?_
      refine tt_bipush h (nI 20) dL_law_391 (by decide) ?_
      refine tt_iload h 7 dL_law_393 rfl ?_
      refine tt_sipush h (nI 200) dL_law_395 (by decide) ?_
      refine tt_irem_n h dL_law_398 (by first | omega | exact jN_lt | exact cnt_lt31 (by omega) | exact pri_lt hGd | exact Nat.lt_of_lt_of_le (vicE_lt hN6) (by decide)) (by decide) (by decide) ?_
      refine tt_iadd_n h dL_law_399 ?_
      refine tt_icmp_ne_n h 407 dL_law_400 (by decide) (by first | omega | exact jN_lt | exact cnt_lt31 (by omega) | exact pri_lt hGd | exact Nat.lt_of_lt_of_le (vicE_lt hN6) (by decide)) (by first | omega | exact jN_lt | exact cnt_lt31 (by omega) | exact pri_lt hGd | exact Nat.lt_of_lt_of_le (vicE_lt hN6) (by decide)) (fun c_400 => by exfalso; exact c_400 rfl) (fun c_400 => ?_)
      refine tt_iconst h (nI 1) dL_law_403 (by decide) ?_
      refine tt_goto h 408 dL_law_404 (by decide) ?_
      refine tt_istore_n h [(2, .int (nI 1)), (11, .int (nI N)), (0, .ref b), (1, .ref (g.1 144)), (3, .int (nI t)), (4, .int xv), (5, .int (nI v)), (6, .int (nI w)), (7, .int (nI N)), (8, .int (nI n)), (9, .int (coins X N)), (10, .int (nI K))] dL_law_408 rfl (by decide) rfl ?_
      refine tt_goto h 1135 dL_law_409 (by decide) ?_
      exact tt_lv (kk _ _ _ _ _ _ (Or.inr hok) hW1) [2, 3, 0, 4, 6, 7, 1] rfl
  · -- 335 false
    refine tt_iload h 5 dL_law_338 rfl ?_
    refine tt_iload h 6 dL_law_340 rfl ?_
    refine tt_iadd_n h dL_law_342 ?_
    refine tt_bipush h (nI 81) dL_law_343 (by decide) ?_
    refine tt_irem_n h dL_law_345 (by first | omega | exact jN_lt | exact cnt_lt31 (by omega) | exact pri_lt hGd | exact Nat.lt_of_lt_of_le (vicE_lt hN6) (by decide)) (by decide) (by decide) ?_
    refine tt_goto h 350 dL_law_346 (by decide) ?_
    refine tt_iload h 5 dL_law_350 rfl ?_
    refine tt_bipush h (nI 10) dL_law_352 (by decide) ?_
    refine tt_irem_n h dL_law_354 (by first | omega | exact jN_lt | exact cnt_lt31 (by omega) | exact pri_lt hGd | exact Nat.lt_of_lt_of_le (vicE_lt hN6) (by decide)) (by decide) (by decide) ?_
    refine tt_bipush h (nI 20) dL_law_355 (by decide) ?_
    refine tt_iload h 6 dL_law_357 rfl ?_
    refine tt_sipush h (nI 200) dL_law_359 (by decide) ?_
    refine tt_irem_n h dL_law_362 (by first | omega | exact jN_lt | exact cnt_lt31 (by omega) | exact pri_lt hGd | exact Nat.lt_of_lt_of_le (vicE_lt hN6) (by decide)) (by decide) (by decide) ?_
    refine tt_iadd_n h dL_law_363 ?_
    refine tt_callV h (As := [.int (nI (v % 81)), .int (nI (w % 81)), .int (nI ((v + w) % 81)), .int (nI (v % 10)), .int (nI (20 + (w % 200)))]) 5 hx (c_X5_net hW.hP hW.hI hW.hs hW.hs4) gL_law_X5_net rfl ⟨rfl, rfl⟩ (by decide +kernel) rfl (by decide) (by decide) E_144 rfl rfl (Nat.le_of_ble_eq_true rfl) dL_law_364 (fun a364_1 M364_1_ P364_1_ hp => ?_)
    rw [hX] at hp
    rcases tr_step (Q := fun Y r X' => netQ eC Y N (nI (v % 81)) (nI (w % 81)) (nI ((v + w) % 81)) (nI (v % 10)) (nI (20 + (w % 200))) r X') hW hX hA1 hB1 hp (q_net hA1 hB1) with ⟨he, hEr, hPe, hW2, hX2⟩ | ⟨hok, N1, K1, X1, hW1, hX1, hOk⟩
    · subst hPe
      clear hp
      refine tt_istore h [(11, .int a364_1), (0, .ref b), (1, .ref (g.1 144)), (2, .int (nI 1)), (3, .int (nI t)), (4, .int xv), (5, .int (nI v)), (6, .int (nI w)), (7, .int (nI N)), (8, .int (nI n)), (9, .int (coins X N)), (10, .int (nI K))] dL_law_367 (by decide) rfl ?_
      refine tt_iload h 0 dL_law_369 rfl ?_
      refine tt_if_lt h 403 dL_law_371 (by decide) (fun c_371 => ?_) (fun c_371 => by exfalso; exact c_371 he.neg)
      refine tt_iconst h (nI 1) dL_law_403 (by decide) ?_
      refine tt_goto h 408 dL_law_404 (by decide) ?_
      refine tt_istore_n h [(2, .int (nI 1)), (11, .int a364_1), (0, .ref b), (1, .ref (g.1 144)), (3, .int (nI t)), (4, .int xv), (5, .int (nI v)), (6, .int (nI w)), (7, .int (nI N)), (8, .int (nI n)), (9, .int (coins X N)), (10, .int (nI K))] dL_law_408 rfl (by decide) rfl ?_
      refine tt_goto h 1135 dL_law_409 (by decide) ?_
      exact tt_lv (kk _ _ _ _ _ _ (Or.inl he) hW2) [2, 3, 0, 4, 6, 7, 1] rfl
    · clear hp
      obtain ⟨rfl, rfl, hpu, hj⟩ := hOk
      have hN7 := hW1.N6
      refine tt_istore h [(11, .int (nI N)), (0, .ref b), (1, .ref (g.1 144)), (2, .int (nI 1)), (3, .int (nI t)), (4, .int xv), (5, .int (nI v)), (6, .int (nI w)), (7, .int (nI N)), (8, .int (nI n)), (9, .int (coins X N)), (10, .int (nI K))] dL_law_367 (by decide) rfl ?_
      refine tt_iload h 0 dL_law_369 rfl ?_
      refine tt_if_lt_n h 403 dL_law_371 (by decide) (by first | omega | exact jN_lt | exact cnt_lt31 (by omega) | exact pri_lt hGd | exact Nat.lt_of_lt_of_le (vicE_lt hN6) (by decide)) ?_
      refine tt_aload_n h 2 dL_law_374 rfl rfl ?_
      refine tt_iload h 0 dL_law_375 rfl ?_
      refine tt_iconst h (nI 5) dL_law_377 (by decide) ?_
      refine tt_callV h (As := [.int (nI N), .int (nI 5)]) 2 hx (c_X5_netOf hW1.hP hW1.hI) gL_law_X5_netOf rfl ⟨rfl, rfl⟩ (by decide +kernel) rfl (by decide) (by decide) E_144 rfl rfl (Nat.le_of_ble_eq_true rfl) dL_law_378 (fun a378_1 M' P' hp => ?_)
      rw [hX1] at hp
      obtain ⟨⟨rfl, rfl⟩, hQ⟩ := hp
      have hz := (net_at (k := N) (j := 5) hW1.N6 (by omega) (by omega) hQ).trans (fNet5 X1 N)
      clear hQ
      subst hz
      refine tt_top (nI 0) (congrArg nI hj) ?_
      refine tt_if_ne h 407 dL_law_381 (by decide) (fun c => absurd c (by decide)) (fun _ => ?_)
      refine tt_aload_n h 2 dL_law_384 rfl rfl ?_
      refine tt_iload h 0 dL_law_385 rfl ?_
      refine tt_iconst h (nI 4) dL_law_387 (by decide) ?_
      refine tt_callV h (As := [.int (nI N), .int (nI 4)]) 2 hx (c_X5_netOf hW1.hP hW1.hI) gL_law_X5_netOf rfl ⟨rfl, rfl⟩ (by decide +kernel) rfl (by decide) (by decide) E_144 rfl rfl (Nat.le_of_ble_eq_true rfl) dL_law_388 (fun a388_1 M' P' hp => ?_)
      rw [hX1] at hp
      obtain ⟨⟨rfl, rfl⟩, hQ⟩ := hp
      have hz := (net_at (k := N) (j := 4) hW1.N6 (by omega) (by omega) hQ)
      clear hQ
      subst hz
      refine tt_top (nI (20 + w % 200)) (hpu) ?_
      refine tt_bipush h (nI 20) dL_law_391 (by decide) ?_
      refine tt_iload h 7 dL_law_393 rfl ?_
      refine tt_sipush h (nI 200) dL_law_395 (by decide) ?_
      refine tt_irem_n h dL_law_398 (by first | omega | exact jN_lt | exact cnt_lt31 (by omega) | exact pri_lt hGd | exact Nat.lt_of_lt_of_le (vicE_lt hN6) (by decide)) (by decide) (by decide) ?_
      refine tt_iadd_n h dL_law_399 ?_
      refine tt_icmp_ne_n h 407 dL_law_400 (by decide) (by first | omega | exact jN_lt | exact cnt_lt31 (by omega) | exact pri_lt hGd | exact Nat.lt_of_lt_of_le (vicE_lt hN6) (by decide)) (by first | omega | exact jN_lt | exact cnt_lt31 (by omega) | exact pri_lt hGd | exact Nat.lt_of_lt_of_le (vicE_lt hN6) (by decide)) (fun c_400 => by exfalso; exact c_400 rfl) (fun c_400 => ?_)
      refine tt_iconst h (nI 1) dL_law_403 (by decide) ?_
      refine tt_goto h 408 dL_law_404 (by decide) ?_
      refine tt_istore_n h [(2, .int (nI 1)), (11, .int (nI N)), (0, .ref b), (1, .ref (g.1 144)), (3, .int (nI t)), (4, .int xv), (5, .int (nI v)), (6, .int (nI w)), (7, .int (nI N)), (8, .int (nI n)), (9, .int (coins X N)), (10, .int (nI K))] dL_law_408 rfl (by decide) rfl ?_
      refine tt_goto h 1135 dL_law_409 (by decide) ?_
      exact tt_lv (kk _ _ _ _ _ _ (Or.inr hok) hW1) [2, 3, 0, 4, 6, 7, 1] rfl

set_option maxRecDepth 100000 in
set_option maxHeartbeats 16000000 in
theorem lc_rip {x : Ctx} {g : Geo} {l : Launch} {b t v w n N K B A s n1 n2 : Nat} {M : Nat → Nat → Int32} {P : Nat → Nat} {X : Nat → Int32} {xv : Int32} (hx : x.1.2.1 = l) (h : Tk x g (fun _ => True) n1 n2 cL_law 16 wsL_law RL room_1) (hv : v < 8192) (hw : w < 8192) (hn0 : N = 0 → n = 0) (hn1 : N ≠ 0 → n < N) (hA0 : 100000 ≤ A) (hA1 : A + 1 < 2 ^ 30) (hB1 : B + 9999 < 2 ^ 31) (hW : WI M P N K B A s) (hX : M (P 0) = X)
    (kk : ∀ (r : Int32) (M' : Nat → Nat → Int32) (P' : Nat → Nat) (N' K' s' : Nat), ErrP r ∨ OkP r → WI M' P' N' K' (B + 9999) (A + 1) s' → T x (fun _ => True) n1 n2 1135 [(0, .ref b), (1, .ref (g.1 144)), (2, .int (nI 1)), (3, .int (nI t)), (5, .int (nI v)), (6, .int (nI w)), (11, .int r)] [] M' P') : T x (fun _ => True) n1 n2 759 [(0, .ref b), (1, .ref (g.1 144)), (2, .int (nI 1)), (3, .int (nI t)), (4, .int xv), (5, .int (nI v)), (6, .int (nI w)), (7, .int (nI N)), (8, .int (nI n)), (9, .int (coins X N)), (10, .int (nI K)), (11, .int (nI 0))] [] M P := by
  have hN6 := hW.N6
  have hK12 := hW.K12
  have hI : InvC X N K B := hX ▸ hW.hI
  have hGd := hI.1.1
  have hnw0 := (show GI X N K B A from hX ▸ hW.hG).2.1
  refine tt_aload_n h 1 dL_law_759 rfl rfl ?_
  refine tt_iload h 8 dL_law_760 rfl ?_
  refine tt_callV h (As := [.int (nI n)]) 1 hx (c_X5_rip hW.hP hW.hI hW.hs hW.hs4) gL_law_X5_rip rfl ⟨rfl, rfl⟩ (by decide +kernel) rfl (by decide) (by decide) E_144 rfl rfl (Nat.le_of_ble_eq_true rfl) dL_law_762 (fun a762 M762_ P762_ hp => ?_)
  rw [hX] at hp
  rcases tr_step (Q := fun Y r X' => ripQ eC Y N (nI n) r X') hW hX hA1 hB1 hp (q_rip (by omega) hA1 hB1) with ⟨he, hEr, hPe, hW2, hX2⟩ | ⟨hok, N1, K1, X1, hW1, hX1, hOk⟩
  · subst hPe
    clear hp
    refine tt_istore h [(11, .int a762), (0, .ref b), (1, .ref (g.1 144)), (2, .int (nI 1)), (3, .int (nI t)), (4, .int xv), (5, .int (nI v)), (6, .int (nI w)), (7, .int (nI N)), (8, .int (nI n)), (9, .int (coins X N)), (10, .int (nI K))] dL_law_765 (by decide) rfl ?_
    refine tt_iload h 0 dL_law_767 rfl ?_
    refine tt_if_lt h 792 dL_law_769 (by decide) (fun c_769 => ?_) (fun c_769 => by exfalso; exact c_769 he.neg)
    refine tt_iconst h (nI 1) dL_law_792 (by decide) ?_
    refine tt_goto h 797 dL_law_793 (by decide) ?_
    refine tt_istore_n h [(2, .int (nI 1)), (11, .int a762), (0, .ref b), (1, .ref (g.1 144)), (3, .int (nI t)), (4, .int xv), (5, .int (nI v)), (6, .int (nI w)), (7, .int (nI N)), (8, .int (nI n)), (9, .int (coins X N)), (10, .int (nI K))] dL_law_797 rfl (by decide) rfl ?_
    refine tt_goto h 1135 dL_law_798 (by decide) ?_
    exact tt_lv (kk _ _ _ _ _ _ (Or.inl he) hW2) [2, 3, 0, 4, 6, 7, 1] rfl
  · clear hp
    obtain ⟨rfl, rfl, hnN, hj⟩ := hOk
    obtain ⟨q9, hq9, rfl⟩ := id hok
    refine tt_istore h [(11, .int (nI q9)), (0, .ref b), (1, .ref (g.1 144)), (2, .int (nI 1)), (3, .int (nI t)), (4, .int xv), (5, .int (nI v)), (6, .int (nI w)), (7, .int (nI N)), (8, .int (nI n)), (9, .int (coins X N)), (10, .int (nI K))] dL_law_765 (by decide) rfl ?_
    refine tt_iload h 0 dL_law_767 rfl ?_
    refine tt_if_lt_n h 792 dL_law_769 (by decide) (by first | omega | exact jN_lt | exact cnt_lt31 (by omega) | exact pri_lt hGd | exact Nat.lt_of_lt_of_le (vicE_lt hN6) (by decide)) ?_
    refine tt_aload_n h 2 dL_law_772 rfl rfl ?_
    refine tt_iload h 9 dL_law_773 rfl ?_
    refine tt_iconst h (nI 5) dL_law_775 (by decide) ?_
    refine tt_callV h (As := [.int (nI n), .int (nI 5)]) 2 hx (c_X5_netOf hW1.hP hW1.hI) gL_law_X5_netOf rfl ⟨rfl, rfl⟩ (by decide +kernel) rfl (by decide) (by decide) E_144 rfl rfl (Nat.le_of_ble_eq_true rfl) dL_law_776 (fun a776 M' P' hp => ?_)
    rw [hX1] at hp
    obtain ⟨⟨rfl, rfl⟩, hQ⟩ := hp
    have hz := (net_at (k := n) (j := 5) hW1.N6 (by omega) (by omega) hQ).trans (fNet5 X1 n)
    clear hQ
    subst hz
    refine tt_top (nI 0) (congrArg nI hj) ?_
    refine tt_if_ne h 796 dL_law_779 (by decide) (fun c => absurd c (by decide)) (fun _ => ?_)
    refine tt_aload_n h 2 dL_law_782 rfl rfl ?_
    refine tt_iconst h (nI 4) dL_law_783 (by decide) ?_
    refine tt_callV h (As := [.int (nI 4)]) 1 hx (c_X5_count hW1.hP hW1.hI hW1.hs hW1.hs4 hW1.hln) gL_law_X5_count rfl ⟨rfl, rfl⟩ (by decide +kernel) rfl (by decide) (by decide) E_144 rfl rfl (Nat.le_of_ble_eq_true rfl) dL_law_784 (fun a784 M' P' hp => ?_)
    rw [hX1] at hp
    obtain ⟨⟨rfl, rfl⟩, hQ⟩ := hp
    have hz := cnt_at (j := 4) (by omega) (by omega) (by omega) hQ
    clear hQ
    subst hz
    refine tt_iload h 11 dL_law_787 rfl ?_
    refine tt_icmp_ne_n h 796 dL_law_789 (by decide) (by first | omega | exact jN_lt | exact cnt_lt31 (by omega) | exact pri_lt hGd | exact Nat.lt_of_lt_of_le (vicE_lt hN6) (by decide)) (by first | omega | exact jN_lt | exact cnt_lt31 (by omega) | exact pri_lt hGd | exact Nat.lt_of_lt_of_le (vicE_lt hN6) (by decide)) (fun c_789 => by exfalso; exact c_789 rfl) (fun c_789 => ?_)
    refine tt_iconst h (nI 1) dL_law_792 (by decide) ?_
    refine tt_goto h 797 dL_law_793 (by decide) ?_
    refine tt_istore_n h [(2, .int (nI 1)), (11, .int (nI q9)), (0, .ref b), (1, .ref (g.1 144)), (3, .int (nI t)), (4, .int xv), (5, .int (nI v)), (6, .int (nI w)), (7, .int (nI N)), (8, .int (nI n)), (9, .int (coins X N)), (10, .int (nI K))] dL_law_797 rfl (by decide) rfl ?_
    refine tt_goto h 1135 dL_law_798 (by decide) ?_
    exact tt_lv (kk _ _ _ _ _ _ (Or.inr hok) hW1) [2, 3, 0, 4, 6, 7, 1] rfl

set_option maxRecDepth 100000 in
set_option maxHeartbeats 16000000 in
theorem lc_appeal {x : Ctx} {g : Geo} {l : Launch} {b t v w n N K B A s n1 n2 : Nat} {M : Nat → Nat → Int32} {P : Nat → Nat} {X : Nat → Int32} {xv : Int32} (hx : x.1.2.1 = l) (h : Tk x g (fun _ => True) n1 n2 cL_law 16 wsL_law RL room_1) (hv : v < 8192) (hw : w < 8192) (hn0 : N = 0 → n = 0) (hn1 : N ≠ 0 → n < N) (hA0 : 100000 ≤ A) (hA1 : A + 1 < 2 ^ 30) (hB1 : B + 9999 < 2 ^ 31) (hW : WI M P N K B A s) (hX : M (P 0) = X)
    (kk : ∀ (r : Int32) (M' : Nat → Nat → Int32) (P' : Nat → Nat) (N' K' s' : Nat), ErrP r ∨ OkP r → WI M' P' N' K' (B + 9999) (A + 1) s' → T x (fun _ => True) n1 n2 1135 [(0, .ref b), (1, .ref (g.1 144)), (2, .int (nI 1)), (3, .int (nI t)), (5, .int (nI v)), (6, .int (nI w)), (11, .int r)] [] M' P') : T x (fun _ => True) n1 n2 801 [(0, .ref b), (1, .ref (g.1 144)), (2, .int (nI 1)), (3, .int (nI t)), (4, .int xv), (5, .int (nI v)), (6, .int (nI w)), (7, .int (nI N)), (8, .int (nI n)), (9, .int (coins X N)), (10, .int (nI K)), (11, .int (nI 0))] [] M P := by
  have hN6 := hW.N6
  have hK12 := hW.K12
  have hI : InvC X N K B := hX ▸ hW.hI
  have hGd := hI.1.1
  have hnw0 := (show GI X N K B A from hX ▸ hW.hG).2.1
  refine tt_iload h 10 dL_law_801 rfl ?_
  refine tt_if_ne_n h 810 dL_law_803 (by decide) (by first | omega | exact jN_lt | exact cnt_lt31 (by omega) | exact pri_lt hGd | exact Nat.lt_of_lt_of_le (vicE_lt hN6) (by decide)) (fun c_803 => ?_) (fun c_803 => ?_)
  · -- 803 true
    refine tt_aload_n h 1 dL_law_810 rfl rfl ?_
    refine tt_iload h 5 dL_law_811 rfl ?_
    refine tt_iload h 10 dL_law_813 rfl ?_
    have hvK : v % K < K := Nat.mod_lt _ (by omega)
    refine tt_irem_n h dL_law_815 (by first | omega | exact jN_lt | exact cnt_lt31 (by omega) | exact pri_lt hGd | exact Nat.lt_of_lt_of_le (vicE_lt hN6) (by decide)) (by omega) (by omega) ?_
    refine tt_callV h (As := [.int (nI (v % K))]) 1 hx (c_X5_appeal hW.hP hW.hI hW.hs hW.hs4) gL_law_X5_appeal rfl ⟨rfl, rfl⟩ (by decide +kernel) rfl (by decide) (by decide) E_144 rfl rfl (Nat.le_of_ble_eq_true rfl) dL_law_816 (fun a816 M816_ P816_ hp => ?_)
    rw [hX] at hp
    rcases tr_step (Q := fun Y r X' => applQ Y K (nI (v % K)) r X') hW hX hA1 hB1 hp (q_appl (by omega) hA1 hB1) with ⟨he, hEr, hPe, hW2, hX2⟩ | ⟨hok, N1, K1, X1, hW1, hX1, hOk⟩
    · subst hPe
      clear hp
      refine tt_istore h [(11, .int a816), (0, .ref b), (1, .ref (g.1 144)), (2, .int (nI 1)), (3, .int (nI t)), (4, .int xv), (5, .int (nI v)), (6, .int (nI w)), (7, .int (nI N)), (8, .int (nI n)), (9, .int (coins X N)), (10, .int (nI K))] dL_law_819 (by decide) rfl ?_
      refine tt_iload h 0 dL_law_821 rfl ?_
      refine tt_if_lt h 856 dL_law_823 (by decide) (fun c_823 => ?_) (fun c_823 => by exfalso; exact c_823 he.neg)
      refine tt_iconst h (nI 1) dL_law_856 (by decide) ?_
      refine tt_goto h 861 dL_law_857 (by decide) ?_
      refine tt_istore_n h [(2, .int (nI 1)), (11, .int a816), (0, .ref b), (1, .ref (g.1 144)), (3, .int (nI t)), (4, .int xv), (5, .int (nI v)), (6, .int (nI w)), (7, .int (nI N)), (8, .int (nI n)), (9, .int (coins X N)), (10, .int (nI K))] dL_law_861 rfl (by decide) rfl ?_
      refine tt_goto h 1135 dL_law_862 (by decide) ?_
      exact tt_lv (kk _ _ _ _ _ _ (Or.inl he) hW2) [2, 3, 0, 4, 6, 7, 1] rfl
    · clear hp
      obtain ⟨rfl, hiK, h5, rfl⟩ := hOk
      refine tt_istore h [(11, .int (nI (appl X1 K))), (0, .ref b), (1, .ref (g.1 144)), (2, .int (nI 1)), (3, .int (nI t)), (4, .int xv), (5, .int (nI v)), (6, .int (nI w)), (7, .int (nI N)), (8, .int (nI n)), (9, .int (coins X N)), (10, .int (nI K))] dL_law_819 (by decide) rfl ?_
      refine tt_iload h 0 dL_law_821 rfl ?_
      refine tt_if_lt_n h 856 dL_law_823 (by decide) (by first | omega | exact jN_lt | exact cnt_lt31 (by omega) | exact pri_lt hGd | exact Nat.lt_of_lt_of_le (vicE_lt hN6) (by decide)) ?_
      refine tt_iload h 11 dL_law_826 rfl ?_
      refine tt_if_eq_n h 856 dL_law_828 (by decide) (by first | omega | exact jN_lt | exact cnt_lt31 (by omega) | exact pri_lt hGd | exact Nat.lt_of_lt_of_le (vicE_lt hN6) (by decide)) (fun c_828 => by exfalso; omega) (fun c_828 => ?_)
      refine tt_aload_n h 2 dL_law_831 rfl rfl ?_
      refine tt_iload h 6 dL_law_832 rfl ?_
      refine tt_iload h 11 dL_law_834 rfl ?_
      refine tt_irem_n h dL_law_836 (by first | omega | exact jN_lt | exact cnt_lt31 (by omega) | exact pri_lt hGd | exact Nat.lt_of_lt_of_le (vicE_lt hN6) (by decide)) (by omega) (by omega) ?_
      refine tt_bipush h (nI 6) dL_law_837 (by decide) ?_
      refine tt_callV h (As := [.int (nI (v % K)), .int (nI 6)]) 2 hx (c_X5_claimOf hW1.hP hW1.hI) gL_law_X5_claimOf rfl ⟨rfl, rfl⟩ (by decide +kernel) rfl (by decide) (by decide) E_144 rfl rfl (Nat.le_of_ble_eq_true rfl) dL_law_839 (fun a839 M' P' hp => ?_)
      rw [hX1] at hp
      obtain ⟨⟨rfl, rfl⟩, hQ⟩ := hp
      have hz := (clm_at (i := v % K) (j := 6) hW1.K12 hiK (by omega) hQ).trans h5
      clear hQ
      subst hz
      refine tt_iconst h (nI 1) dL_law_842 (by decide) ?_
      refine tt_icmp_ne h 860 dL_law_843 (by decide) (fun c => absurd c (by decide)) (fun _ => ?_)
      refine tt_iload h 0 dL_law_846 rfl ?_
      refine tt_aload_n h 2 dL_law_848 rfl rfl ?_
      refine tt_iconst h (nI 5) dL_law_849 (by decide) ?_
      refine tt_callV h (As := [.int (nI 5)]) 1 hx (c_X5_count hW1.hP hW1.hI hW1.hs hW1.hs4 hW1.hln) gL_law_X5_count rfl ⟨rfl, rfl⟩ (by decide +kernel) rfl (by decide) (by decide) E_144 rfl rfl (Nat.le_of_ble_eq_true rfl) dL_law_850 (fun a850 M' P' hp => ?_)
      rw [hX1] at hp
      obtain ⟨⟨rfl, rfl⟩, hQ⟩ := hp
      have hz := cnt_at (j := 5) (by omega) (by omega) (by omega) hQ
      clear hQ
      subst hz
      refine tt_icmp_ne_n h 860 dL_law_853 (by decide) (by first | omega | exact jN_lt | exact cnt_lt31 (by omega) | exact pri_lt hGd | exact Nat.lt_of_lt_of_le (vicE_lt hN6) (by decide)) (by first | omega | exact jN_lt | exact cnt_lt31 (by omega) | exact pri_lt hGd | exact Nat.lt_of_lt_of_le (vicE_lt hN6) (by decide)) (fun c_853 => by exfalso; exact c_853 rfl) (fun c_853 => ?_)
      refine tt_iconst h (nI 1) dL_law_856 (by decide) ?_
      refine tt_goto h 861 dL_law_857 (by decide) ?_
      refine tt_istore_n h [(2, .int (nI 1)), (11, .int (nI (appl X1 K))), (0, .ref b), (1, .ref (g.1 144)), (3, .int (nI t)), (4, .int xv), (5, .int (nI v)), (6, .int (nI w)), (7, .int (nI N)), (8, .int (nI n)), (9, .int (coins X N)), (10, .int (nI K))] dL_law_861 rfl (by decide) rfl ?_
      refine tt_goto h 1135 dL_law_862 (by decide) ?_
      exact tt_lv (kk _ _ _ _ _ _ (Or.inr hok) hW1) [2, 3, 0, 4, 6, 7, 1] rfl
  · -- 803 false
    refine tt_iconst h (nI 0) dL_law_806 (by decide) ?_
    refine tt_goto h 819 dL_law_807 (by decide) ?_
    refine tt_istore h [(11, .int (nI 0)), (0, .ref b), (1, .ref (g.1 144)), (2, .int (nI 1)), (3, .int (nI t)), (4, .int xv), (5, .int (nI v)), (6, .int (nI w)), (7, .int (nI N)), (8, .int (nI n)), (9, .int (coins X N)), (10, .int (nI K))] dL_law_819 (by decide) rfl ?_
    refine tt_iload h 0 dL_law_821 rfl ?_
    refine tt_if_lt h 856 dL_law_823 (by decide) (fun c => absurd c (by decide)) (fun _ => ?_)
    refine tt_iload h 11 dL_law_826 rfl ?_
    refine tt_if_eq_n h 856 dL_law_828 (by decide) (by first | omega | exact jN_lt | exact cnt_lt31 (by omega) | exact pri_lt hGd | exact Nat.lt_of_lt_of_le (vicE_lt hN6) (by decide)) (fun c_828 => ?_) (fun c_828 => by exfalso; omega)
    refine tt_iconst h (nI 1) dL_law_856 (by decide) ?_
    refine tt_goto h 861 dL_law_857 (by decide) ?_
    refine tt_istore_n h [(2, .int (nI 1)), (11, .int (nI 0)), (0, .ref b), (1, .ref (g.1 144)), (3, .int (nI t)), (4, .int xv), (5, .int (nI v)), (6, .int (nI w)), (7, .int (nI N)), (8, .int (nI n)), (9, .int (coins X N)), (10, .int (nI K))] dL_law_861 rfl (by decide) rfl ?_
    refine tt_goto h 1135 dL_law_862 (by decide) ?_
    exact tt_lv (kk _ _ _ _ _ _ (Or.inr ⟨0, by decide, rfl⟩) (hW.mono (by omega) hB1 (by omega) hA1)) [2, 3, 0, 4, 6, 7, 1] rfl

set_option maxRecDepth 100000 in
set_option maxHeartbeats 16000000 in
theorem lc_lay {x : Ctx} {g : Geo} {l : Launch} {b t v w n N K B A s n1 n2 : Nat} {M : Nat → Nat → Int32} {P : Nat → Nat} {X : Nat → Int32} {xv : Int32} (hx : x.1.2.1 = l) (h : Tk x g (fun _ => True) n1 n2 cL_law 16 wsL_law RL room_1) (hv : v < 8192) (hw : w < 8192) (hn0 : N = 0 → n = 0) (hn1 : N ≠ 0 → n < N) (hA0 : 100000 ≤ A) (hA1 : A + 1 < 2 ^ 30) (hB1 : B + 9999 < 2 ^ 31) (hW : WI M P N K B A s) (hX : M (P 0) = X)
    (kk : ∀ (r : Int32) (M' : Nat → Nat → Int32) (P' : Nat → Nat) (N' K' s' : Nat), ErrP r ∨ OkP r → WI M' P' N' K' (B + 9999) (A + 1) s' → T x (fun _ => True) n1 n2 1135 [(0, .ref b), (1, .ref (g.1 144)), (2, .int (nI 1)), (3, .int (nI t)), (5, .int (nI v)), (6, .int (nI w)), (11, .int r)] [] M' P') : T x (fun _ => True) n1 n2 412 [(0, .ref b), (1, .ref (g.1 144)), (2, .int (nI 1)), (3, .int (nI t)), (4, .int xv), (5, .int (nI v)), (6, .int (nI w)), (7, .int (nI N)), (8, .int (nI n)), (9, .int (coins X N)), (10, .int (nI K)), (11, .int (nI 0))] [] M P := by
  have hN6 := hW.N6
  have hK12 := hW.K12
  have hI : InvC X N K B := hX ▸ hW.hI
  have hGd := hI.1.1
  have hnw0 := (show GI X N K B A from hX ▸ hW.hG).2.1
  refine tt_iload h 7 dL_law_412 rfl ?_
  refine tt_if_ne_n h 422 dL_law_414 (by decide) (by first | omega | exact jN_lt | exact cnt_lt31 (by omega) | exact pri_lt hGd | exact Nat.lt_of_lt_of_le (vicE_lt hN6) (by decide)) (fun c_414 => ?_) (fun c_414 => ?_)
  · -- 414 true
    refine tt_aload_n h 1 dL_law_422 rfl rfl ?_
    refine tt_iload h 8 dL_law_423 rfl ?_
    refine tt_iconst h (nI 0) dL_law_425 (by decide) ?_
    refine tt_callV h (As := [.int (nI n), .int (nI 0)]) 2 hx (c_X5_cost hW.hP hW.hI hW.hNb) gL_law_X5_cost rfl ⟨rfl, rfl⟩ (by decide +kernel) rfl (by decide) (by decide) E_144 rfl rfl (Nat.le_of_ble_eq_true rfl) dL_law_426 (fun a426 M426_ P426_ hp => ?_)
    rw [hX] at hp
    obtain ⟨rfl, hF, hQ⟩ := hp
    have hX0 := (FrS_0 hW (FrS_F hF)).trans hX
    replace hW := WI_fr hW (FrS_F hF)
    clear hF hX
    have hX := hX0
    clear hX0
    have hnN := hn1 c_414
    rcases rt_at (b := 0) hN6 hnN (by decide) hQ with ⟨hjn, rfl⟩ | ⟨hj0, ⟨hno, rfl⟩ | ⟨z, l1, l2, hrt, rfl⟩⟩
    · skip
      refine tt_istore h [(12, .int (-1000002)), (0, .ref b), (1, .ref (g.1 144)), (2, .int (nI 1)), (3, .int (nI t)), (4, .int xv), (5, .int (nI v)), (6, .int (nI w)), (7, .int (nI N)), (8, .int (nI n)), (9, .int (coins X N)), (10, .int (nI K)), (11, .int (nI 0))] dL_law_429 (by decide) rfl ?_
      refine tt_aload_n h 2 dL_law_431 rfl rfl ?_
      refine tt_iload h 9 dL_law_432 rfl ?_
      refine tt_callV h (As := [.int (nI n)]) 1 hx (c_X5_lay hW.hP hW.hI hW.hs hW.hs4 hW.hNb) gL_law_X5_lay rfl ⟨rfl, rfl⟩ (by decide +kernel) rfl (by decide) (by decide) E_144 rfl rfl (Nat.le_of_ble_eq_true rfl) dL_law_434 (fun a434 M434_ P434_ hp => ?_)
      rw [hX] at hp
      rcases tr_step (Q := fun Y r X' => layQ eC Y N (nI n) r X') hW hX hA1 hB1 hp (q_lay (by omega) hA1 hB1) with ⟨he, hEr, hPe, hW2, hX2⟩ | ⟨hok, N1, K1, X1, hW1, hX1, hOk⟩
      · subst hPe
        clear hp
        refine tt_istore h [(11, .int a434), (12, .int (-1000002)), (0, .ref b), (1, .ref (g.1 144)), (2, .int (nI 1)), (3, .int (nI t)), (4, .int xv), (5, .int (nI v)), (6, .int (nI w)), (7, .int (nI N)), (8, .int (nI n)), (9, .int (coins X N)), (10, .int (nI K))] dL_law_437 (by decide) rfl ?_
        refine tt_iload h 0 dL_law_439 rfl ?_
        refine tt_if_ge h 457 dL_law_441 (by decide) (fun c_441 => by exfalso; exact Int32.not_lt.mpr c_441 he.neg) (fun c_441 => ?_)
        refine tt_iload h 1 dL_law_444 rfl ?_
        refine tt_if_ge h 453 dL_law_446 (by decide) (fun c => absurd c (by decide)) (fun _ => ?_)
        refine tt_iconst h (nI 1) dL_law_449 (by decide) ?_
        refine tt_goto h 491 dL_law_450 (by decide) ?_
        refine tt_istore_n h [(2, .int (nI 1)), (11, .int a434), (12, .int (-1000002)), (0, .ref b), (1, .ref (g.1 144)), (3, .int (nI t)), (4, .int xv), (5, .int (nI v)), (6, .int (nI w)), (7, .int (nI N)), (8, .int (nI n)), (9, .int (coins X N)), (10, .int (nI K))] dL_law_491 rfl (by decide) rfl ?_
        refine tt_goto h 1135 dL_law_492 (by decide) ?_
        exact tt_lv (kk _ _ _ _ _ _ (Or.inl he) hW2) [3, 4, 0, 5, 7, 8, 1] rfl
      · clear hp
        obtain ⟨rfl, hnN2, h5, hzz, hj, hco⟩ := hOk
        exact absurd h5 hjn
    · skip
      have hno2 : rtX eC X N n false = none := hno
      refine tt_istore h [(12, .int (-1000004)), (0, .ref b), (1, .ref (g.1 144)), (2, .int (nI 1)), (3, .int (nI t)), (4, .int xv), (5, .int (nI v)), (6, .int (nI w)), (7, .int (nI N)), (8, .int (nI n)), (9, .int (coins X N)), (10, .int (nI K)), (11, .int (nI 0))] dL_law_429 (by decide) rfl ?_
      refine tt_aload_n h 2 dL_law_431 rfl rfl ?_
      refine tt_iload h 9 dL_law_432 rfl ?_
      refine tt_callV h (As := [.int (nI n)]) 1 hx (c_X5_lay hW.hP hW.hI hW.hs hW.hs4 hW.hNb) gL_law_X5_lay rfl ⟨rfl, rfl⟩ (by decide +kernel) rfl (by decide) (by decide) E_144 rfl rfl (Nat.le_of_ble_eq_true rfl) dL_law_434 (fun a434_1 M434_1_ P434_1_ hp => ?_)
      rw [hX] at hp
      rcases tr_step (Q := fun Y r X' => layQ eC Y N (nI n) r X') hW hX hA1 hB1 hp (q_lay (by omega) hA1 hB1) with ⟨he, hEr, hPe, hW2, hX2⟩ | ⟨hok, N1, K1, X1, hW1, hX1, hOk⟩
      · subst hPe
        clear hp
        refine tt_istore h [(11, .int a434_1), (12, .int (-1000004)), (0, .ref b), (1, .ref (g.1 144)), (2, .int (nI 1)), (3, .int (nI t)), (4, .int xv), (5, .int (nI v)), (6, .int (nI w)), (7, .int (nI N)), (8, .int (nI n)), (9, .int (coins X N)), (10, .int (nI K))] dL_law_437 (by decide) rfl ?_
        refine tt_iload h 0 dL_law_439 rfl ?_
        refine tt_if_ge h 457 dL_law_441 (by decide) (fun c_441 => by exfalso; exact Int32.not_lt.mpr c_441 he.neg) (fun c_441 => ?_)
        refine tt_iload h 1 dL_law_444 rfl ?_
        refine tt_if_ge h 453 dL_law_446 (by decide) (fun c => absurd c (by decide)) (fun _ => ?_)
        refine tt_iconst h (nI 1) dL_law_449 (by decide) ?_
        refine tt_goto h 491 dL_law_450 (by decide) ?_
        refine tt_istore_n h [(2, .int (nI 1)), (11, .int a434_1), (12, .int (-1000004)), (0, .ref b), (1, .ref (g.1 144)), (3, .int (nI t)), (4, .int xv), (5, .int (nI v)), (6, .int (nI w)), (7, .int (nI N)), (8, .int (nI n)), (9, .int (coins X N)), (10, .int (nI K))] dL_law_491 rfl (by decide) rfl ?_
        refine tt_goto h 1135 dL_law_492 (by decide) ?_
        exact tt_lv (kk _ _ _ _ _ _ (Or.inl he) hW2) [3, 4, 0, 5, 7, 8, 1] rfl
      · clear hp
        obtain ⟨rfl, hnN2, h5, hzz, hj, hco⟩ := hOk
        obtain ⟨z2, u1, u2, e2, rfl⟩ := hzz hGd
        rw [hno2] at e2
        cases e2
    · skip
      have hrt2 : rtX eC X N n false = some (z, l1, l2) := hrt
      have hzb := rt_z hGd hnN (hnw0 n hnN (hj0.trans nI_0.symm)) hrt2
      refine tt_istore h [(12, .int (nI z)), (0, .ref b), (1, .ref (g.1 144)), (2, .int (nI 1)), (3, .int (nI t)), (4, .int xv), (5, .int (nI v)), (6, .int (nI w)), (7, .int (nI N)), (8, .int (nI n)), (9, .int (coins X N)), (10, .int (nI K)), (11, .int (nI 0))] dL_law_429 (by decide) rfl ?_
      refine tt_aload_n h 2 dL_law_431 rfl rfl ?_
      refine tt_iload h 9 dL_law_432 rfl ?_
      refine tt_callV h (As := [.int (nI n)]) 1 hx (c_X5_lay hW.hP hW.hI hW.hs hW.hs4 hW.hNb) gL_law_X5_lay rfl ⟨rfl, rfl⟩ (by decide +kernel) rfl (by decide) (by decide) E_144 rfl rfl (Nat.le_of_ble_eq_true rfl) dL_law_434 (fun a434_2 M434_2_ P434_2_ hp => ?_)
      rw [hX] at hp
      rcases tr_step (Q := fun Y r X' => layQ eC Y N (nI n) r X') hW hX hA1 hB1 hp (q_lay (by omega) hA1 hB1) with ⟨he, hEr, hPe, hW2, hX2⟩ | ⟨hok, N1, K1, X1, hW1, hX1, hOk⟩
      · subst hPe
        clear hp
        exact ((hEr hnN hGd).elim (fun q => q hj0) (fun q => by rw [q] at hrt2; cases hrt2)).elim
      · clear hp
        obtain ⟨rfl, hnN2, h5, hzz, hj, hco⟩ := hOk
        obtain ⟨z2, u1, u2, e2, rfl⟩ := hzz hGd
        obtain rfl : z = z2 := by rw [hrt2] at e2; cases e2; rfl
        refine tt_istore h [(11, .int (nI z)), (12, .int (nI z)), (0, .ref b), (1, .ref (g.1 144)), (2, .int (nI 1)), (3, .int (nI t)), (4, .int xv), (5, .int (nI v)), (6, .int (nI w)), (7, .int (nI N)), (8, .int (nI n)), (9, .int (coins X N)), (10, .int (nI K))] dL_law_437 (by decide) rfl ?_
        refine tt_iload h 0 dL_law_439 rfl ?_
        refine tt_if_ge_n h 457 dL_law_441 (by decide) (by first | omega | exact jN_lt | exact cnt_lt31 (by omega) | exact pri_lt hGd | exact Nat.lt_of_lt_of_le (vicE_lt hN6) (by decide)) ?_
        refine tt_iload h 0 dL_law_457 rfl ?_
        refine tt_iload h 1 dL_law_459 rfl ?_
        refine tt_icmp_ne_n h 490 dL_law_461 (by decide) (by first | omega | exact jN_lt | exact cnt_lt31 (by omega) | exact pri_lt hGd | exact Nat.lt_of_lt_of_le (vicE_lt hN6) (by decide)) (by first | omega | exact jN_lt | exact cnt_lt31 (by omega) | exact pri_lt hGd | exact Nat.lt_of_lt_of_le (vicE_lt hN6) (by decide)) (fun c_461 => by exfalso; exact c_461 rfl) (fun c_461 => ?_)
        refine tt_aload_n h 3 dL_law_464 rfl rfl ?_
        refine tt_iload h 10 dL_law_465 rfl ?_
        refine tt_iconst h (nI 5) dL_law_467 (by decide) ?_
        refine tt_callV h (As := [.int (nI n), .int (nI 5)]) 2 hx (c_X5_netOf hW1.hP hW1.hI) gL_law_X5_netOf rfl ⟨rfl, rfl⟩ (by decide +kernel) rfl (by decide) (by decide) E_144 rfl rfl (Nat.le_of_ble_eq_true rfl) dL_law_468 (fun a468 M' P' hp => ?_)
        rw [hX1] at hp
        obtain ⟨⟨rfl, rfl⟩, hQ⟩ := hp
        have hz := (net_at (k := n) (j := 5) hW1.N6 (by omega) (by omega) hQ).trans (fNet5 X1 n)
        clear hQ
        subst hz
        refine tt_top (nI 1) (congrArg nI hj) ?_
        refine tt_iconst h (nI 1) dL_law_471 (by decide) ?_
        refine tt_icmp_ne h 490 dL_law_472 (by decide) (fun c => absurd c (by decide)) (fun _ => ?_)
        refine tt_aload_n h 3 dL_law_475 rfl rfl ?_
        refine tt_bipush h (nI 7) dL_law_476 (by decide) ?_
        refine tt_callV h (As := [.int (nI 7)]) 1 hx (c_X5_count hW1.hP hW1.hI hW1.hs hW1.hs4 hW1.hln) gL_law_X5_count rfl ⟨rfl, rfl⟩ (by decide +kernel) rfl (by decide) (by decide) E_144 rfl rfl (Nat.le_of_ble_eq_true rfl) dL_law_478 (fun a478 M' P' hp => ?_)
        rw [hX1] at hp
        obtain ⟨⟨rfl, rfl⟩, hQ⟩ := hp
        have hz := cnt_at (j := 7) (by omega) (by omega) (by omega) hQ
        clear hQ
        subst hz
        refine tt_top (coins X N) (show coins X1 N = coins X N from hco) ?_
        refine tt_iload h 11 dL_law_481 rfl ?_
        refine tt_icmp_ne h 490 dL_law_483 (by decide) (fun c_483 => by exfalso; exact c_483 rfl) (fun c_483 => ?_)
        refine tt_iconst h (nI 1) dL_law_486 (by decide) ?_
        refine tt_goto h 491 dL_law_487 (by decide) ?_
        refine tt_istore_n h [(2, .int (nI 1)), (11, .int (nI z)), (12, .int (nI z)), (0, .ref b), (1, .ref (g.1 144)), (3, .int (nI t)), (4, .int xv), (5, .int (nI v)), (6, .int (nI w)), (7, .int (nI N)), (8, .int (nI n)), (9, .int (coins X N)), (10, .int (nI K))] dL_law_491 rfl (by decide) rfl ?_
        refine tt_goto h 1135 dL_law_492 (by decide) ?_
        exact tt_lv (kk _ _ _ _ _ _ (Or.inr hok) hW1) [3, 4, 0, 5, 7, 8, 1] rfl
  · -- 414 false
    refine tt_ldc h ((-1000001)) (by decide +kernel) dL_law_417 ?_
    refine tt_goto h 429 dL_law_419 (by decide) ?_
    refine tt_istore h [(12, .int (-1000001)), (0, .ref b), (1, .ref (g.1 144)), (2, .int (nI 1)), (3, .int (nI t)), (4, .int xv), (5, .int (nI v)), (6, .int (nI w)), (7, .int (nI N)), (8, .int (nI n)), (9, .int (coins X N)), (10, .int (nI K)), (11, .int (nI 0))] dL_law_429 (by decide) rfl ?_
    refine tt_aload_n h 2 dL_law_431 rfl rfl ?_
    refine tt_iload h 9 dL_law_432 rfl ?_
    refine tt_callV h (As := [.int (nI n)]) 1 hx (c_X5_lay hW.hP hW.hI hW.hs hW.hs4 hW.hNb) gL_law_X5_lay rfl ⟨rfl, rfl⟩ (by decide +kernel) rfl (by decide) (by decide) E_144 rfl rfl (Nat.le_of_ble_eq_true rfl) dL_law_434 (fun a434_3 M434_3_ P434_3_ hp => ?_)
    rw [hX] at hp
    rcases tr_step (Q := fun Y r X' => layQ eC Y N (nI n) r X') hW hX hA1 hB1 hp (q_lay (by omega) hA1 hB1) with ⟨he, hEr, hPe, hW2, hX2⟩ | ⟨hok, N1, K1, X1, hW1, hX1, hOk⟩
    · subst hPe
      clear hp
      refine tt_istore h [(11, .int a434_3), (12, .int (-1000001)), (0, .ref b), (1, .ref (g.1 144)), (2, .int (nI 1)), (3, .int (nI t)), (4, .int xv), (5, .int (nI v)), (6, .int (nI w)), (7, .int (nI N)), (8, .int (nI n)), (9, .int (coins X N)), (10, .int (nI K))] dL_law_437 (by decide) rfl ?_
      refine tt_iload h 0 dL_law_439 rfl ?_
      refine tt_if_ge h 457 dL_law_441 (by decide) (fun c_441 => by exfalso; exact Int32.not_lt.mpr c_441 he.neg) (fun c_441 => ?_)
      refine tt_iload h 1 dL_law_444 rfl ?_
      refine tt_if_ge h 453 dL_law_446 (by decide) (fun c => absurd c (by decide)) (fun _ => ?_)
      refine tt_iconst h (nI 1) dL_law_449 (by decide) ?_
      refine tt_goto h 491 dL_law_450 (by decide) ?_
      refine tt_istore_n h [(2, .int (nI 1)), (11, .int a434_3), (12, .int (-1000001)), (0, .ref b), (1, .ref (g.1 144)), (3, .int (nI t)), (4, .int xv), (5, .int (nI v)), (6, .int (nI w)), (7, .int (nI N)), (8, .int (nI n)), (9, .int (coins X N)), (10, .int (nI K))] dL_law_491 rfl (by decide) rfl ?_
      refine tt_goto h 1135 dL_law_492 (by decide) ?_
      exact tt_lv (kk _ _ _ _ _ _ (Or.inl he) hW2) [3, 4, 0, 5, 7, 8, 1] rfl
    · clear hp
      obtain ⟨rfl, hnN2, h5, hzz, hj, hco⟩ := hOk
      exact absurd hnN2 (by omega)

set_option maxRecDepth 100000 in
set_option maxHeartbeats 16000000 in
theorem lc_dig {x : Ctx} {g : Geo} {l : Launch} {b t v w n N K B A s n1 n2 : Nat} {M : Nat → Nat → Int32} {P : Nat → Nat} {X : Nat → Int32} {xv : Int32} (hx : x.1.2.1 = l) (h : Tk x g (fun _ => True) n1 n2 cL_law 16 wsL_law RL room_1) (hv : v < 8192) (hw : w < 8192) (hn0 : N = 0 → n = 0) (hn1 : N ≠ 0 → n < N) (hA0 : 100000 ≤ A) (hA1 : A + 1 < 2 ^ 30) (hB1 : B + 9999 < 2 ^ 31) (hW : WI M P N K B A s) (hX : M (P 0) = X)
    (kk : ∀ (r : Int32) (M' : Nat → Nat → Int32) (P' : Nat → Nat) (N' K' s' : Nat), ErrP r ∨ OkP r → WI M' P' N' K' (B + 9999) (A + 1) s' → T x (fun _ => True) n1 n2 1135 [(0, .ref b), (1, .ref (g.1 144)), (2, .int (nI 1)), (3, .int (nI t)), (5, .int (nI v)), (6, .int (nI w)), (11, .int r)] [] M' P') : T x (fun _ => True) n1 n2 495 [(0, .ref b), (1, .ref (g.1 144)), (2, .int (nI 1)), (3, .int (nI t)), (4, .int xv), (5, .int (nI v)), (6, .int (nI w)), (7, .int (nI N)), (8, .int (nI n)), (9, .int (coins X N)), (10, .int (nI K)), (11, .int (nI 0))] [] M P := by
  have hN6 := hW.N6
  have hK12 := hW.K12
  have hI : InvC X N K B := hX ▸ hW.hI
  have hGd := hI.1.1
  have hnw0 := (show GI X N K B A from hX ▸ hW.hG).2.1
  refine tt_iload h 7 dL_law_495 rfl ?_
  refine tt_if_ne_n h 505 dL_law_497 (by decide) (by first | omega | exact jN_lt | exact cnt_lt31 (by omega) | exact pri_lt hGd | exact Nat.lt_of_lt_of_le (vicE_lt hN6) (by decide)) (fun c_497 => ?_) (fun c_497 => ?_)
  · -- 497 true
    refine tt_aload_n h 1 dL_law_505 rfl rfl ?_
    refine tt_iload h 8 dL_law_506 rfl ?_
    refine tt_callV h (As := [.int (nI n)]) 1 hx (c_X5_price hW.hP hW.hI hW.hNb) gL_law_X5_price rfl ⟨rfl, rfl⟩ (by decide +kernel) rfl (by decide) (by decide) E_144 rfl rfl (Nat.le_of_ble_eq_true rfl) dL_law_508 (fun a508 M508_ P508_ hp => ?_)
    rw [hX] at hp
    obtain ⟨rfl, hF, hQ⟩ := hp
    have hX0 := (FrS_0 hW (FrS_F hF)).trans hX
    replace hW := WI_fr hW (FrS_F hF)
    clear hF hX
    have hX := hX0
    clear hX0
    have hnN := hn1 c_497
    rcases rt_at (b := 1) hN6 hnN (by decide) hQ with ⟨hjn, rfl⟩ | ⟨hj0, ⟨hno, rfl⟩ | ⟨z, l1, l2, hrt, rfl⟩⟩
    · skip
      have hc : (¬ X (169 + 9 * n + 5) = 0 ∧ (-1000002 : Int32) = -1000002) ∨ (X (169 + 9 * n + 5) = 0 ∧ rtX eC X N n (decide (1 = 1)) = none ∧ (-1000002 : Int32) = -1000004) := Or.inl ⟨hjn, rfl⟩
      refine tt_istore h [(12, .int (-1000002)), (0, .ref b), (1, .ref (g.1 144)), (2, .int (nI 1)), (3, .int (nI t)), (4, .int xv), (5, .int (nI v)), (6, .int (nI w)), (7, .int (nI N)), (8, .int (nI n)), (9, .int (coins X N)), (10, .int (nI K)), (11, .int (nI 0))] dL_law_511 (by decide) rfl ?_
      refine tt_iload h 8 dL_law_513 rfl ?_
      refine tt_if_ne_n h 523 dL_law_515 (by decide) (by first | omega | exact jN_lt | exact cnt_lt31 (by omega) | exact pri_lt hGd | exact Nat.lt_of_lt_of_le (vicE_lt hN6) (by decide)) (fun c_515 => ?_) (fun c_515 => by exfalso; exact c_497 c_515)
      refine tt_aload_n h 2 dL_law_523 rfl rfl ?_
      refine tt_iload h 9 dL_law_524 rfl ?_
      refine tt_callV h (As := [.int (nI n)]) 1 hx (c_X5_victims hW.hP hW.hI hW.hNb) gL_law_X5_victims rfl ⟨rfl, rfl⟩ (by decide +kernel) rfl (by decide) (by decide) E_144 rfl rfl (Nat.le_of_ble_eq_true rfl) dL_law_526 (fun a526 M526_ P526_ hp => ?_)
      rw [hX] at hp
      obtain ⟨rfl, hF, hQ⟩ := hp
      have hX0 := (FrS_0 hW (FrS_F hF)).trans hX
      replace hW := WI_fr hW (FrS_F hF)
      clear hF hX
      have hX := hX0
      clear hX0
      have hz := rt_er (b := 1) hN6 hnN (by decide) hc hQ
      clear hQ
      subst hz
      refine tt_istore h [(13, .int (-1000002)), (12, .int (-1000002)), (0, .ref b), (1, .ref (g.1 144)), (2, .int (nI 1)), (3, .int (nI t)), (4, .int xv), (5, .int (nI v)), (6, .int (nI w)), (7, .int (nI N)), (8, .int (nI n)), (9, .int (coins X N)), (10, .int (nI K)), (11, .int (nI 0))] dL_law_529 (by decide) rfl ?_
      refine tt_aload_n h 3 dL_law_531 rfl rfl ?_
      refine tt_iload h 10 dL_law_532 rfl ?_
      refine tt_callV h (As := [.int (nI n)]) 1 hx (c_X5_dig hW.hP hW.hI hW.hs hW.hs4 hW.hNb) gL_law_X5_dig rfl ⟨rfl, rfl⟩ (by decide +kernel) rfl (by decide) (by decide) E_144 rfl rfl (Nat.le_of_ble_eq_true rfl) dL_law_534 (fun a534 M534_ P534_ hp => ?_)
      rw [hX] at hp
      rcases tr_step (Q := fun Y r X' => digQ finC eC Y N K (nI n) r X') hW hX hA1 hB1 hp (q_dig (by omega) hGd hA1 hB1) with ⟨he, hEr, hPe, hW2, hX2⟩ | ⟨hok, N1, K1, X1, hW1, hX1, hOk⟩
      · subst hPe
        clear hp
        refine tt_istore h [(11, .int a534), (13, .int (-1000002)), (12, .int (-1000002)), (0, .ref b), (1, .ref (g.1 144)), (2, .int (nI 1)), (3, .int (nI t)), (4, .int xv), (5, .int (nI v)), (6, .int (nI w)), (7, .int (nI N)), (8, .int (nI n)), (9, .int (coins X N)), (10, .int (nI K))] dL_law_537 (by decide) rfl ?_
        refine tt_iload h 0 dL_law_539 rfl ?_
        refine tt_if_ge h 576 dL_law_541 (by decide) (fun c_541 => by exfalso; exact Int32.not_lt.mpr c_541 he.neg) (fun c_541 => ?_)
        refine tt_iload h 2 dL_law_544 rfl ?_
        refine tt_if_lt h 568 dL_law_546 (by decide) (fun _ => ?_) (fun c => absurd (by decide) c)
        refine tt_iconst h (nI 1) dL_law_568 (by decide) ?_
        refine tt_goto h 610 dL_law_569 (by decide) ?_
        refine tt_istore_n h [(2, .int (nI 1)), (11, .int a534), (13, .int (-1000002)), (12, .int (-1000002)), (0, .ref b), (1, .ref (g.1 144)), (3, .int (nI t)), (4, .int xv), (5, .int (nI v)), (6, .int (nI w)), (7, .int (nI N)), (8, .int (nI n)), (9, .int (coins X N)), (10, .int (nI K))] dL_law_610 rfl (by decide) rfl ?_
        refine tt_iconst h (nI 0) dL_law_611 (by decide) ?_
        refine tt_istore h [(14, .int (nI 0)), (2, .int (nI 1)), (11, .int a534), (13, .int (-1000002)), (12, .int (-1000002)), (0, .ref b), (1, .ref (g.1 144)), (3, .int (nI t)), (4, .int xv), (5, .int (nI v)), (6, .int (nI w)), (7, .int (nI N)), (8, .int (nI n)), (9, .int (coins X N)), (10, .int (nI K))] dL_law_612 (by decide) rfl ?_
        refine tt_iload h 0 dL_law_614 rfl ?_
        refine tt_iload h 11 dL_law_616 rfl ?_
        refine tt_icmp_ge_n h 731 dL_law_618 (by decide) (by decide) (by first | omega | exact jN_lt | exact cnt_lt31 (by omega) | exact pri_lt hGd | exact Nat.lt_of_lt_of_le (vicE_lt hN6) (by decide)) (fun c_618 => ?_) (fun c_618 => ?_)
        · -- 618 true
          refine tt_iload_n h 1 dL_law_731 rfl rfl ?_
          refine tt_if_eq h 754 dL_law_732 (by decide) (fun c => absurd c (by decide)) (fun _ => ?_)
          refine tt_iload h 2 dL_law_735 rfl ?_
          refine tt_if_lt h 750 dL_law_737 (by decide) (fun c_737 => ?_) (fun c_737 => by exfalso; exact c_737 he.neg)
          refine tt_iconst h (nI 1) dL_law_750 (by decide) ?_
          refine tt_goto h 755 dL_law_751 (by decide) ?_
          refine tt_istore_n h [(2, .int (nI 1)), (14, .int (nI 0)), (11, .int a534), (13, .int (-1000002)), (12, .int (-1000002)), (0, .ref b), (1, .ref (g.1 144)), (3, .int (nI t)), (4, .int xv), (5, .int (nI v)), (6, .int (nI w)), (7, .int (nI N)), (8, .int (nI n)), (9, .int (coins X N)), (10, .int (nI K))] dL_law_755 rfl (by decide) rfl ?_
          refine tt_goto h 1135 dL_law_756 (by decide) ?_
          exact tt_lv (kk _ _ _ _ _ _ (Or.inl he) hW2) [5, 6, 0, 7, 9, 10, 2] rfl
        · -- 618 false
          refine tt_iload_n h 1 dL_law_621 rfl rfl ?_
          refine tt_if_eq h 731 dL_law_622 (by decide) (fun c => absurd c (by decide)) (fun _ => ?_)
          refine tt_iload h 2 dL_law_625 rfl ?_
          refine tt_if_lt h 731 dL_law_627 (by decide) (fun c_627 => ?_) (fun c_627 => by exfalso; exact c_627 he.neg)
          refine tt_iload_n h 1 dL_law_731 rfl rfl ?_
          refine tt_if_eq h 754 dL_law_732 (by decide) (fun c => absurd c (by decide)) (fun _ => ?_)
          refine tt_iload h 2 dL_law_735 rfl ?_
          refine tt_if_lt h 750 dL_law_737 (by decide) (fun c_737 => ?_) (fun c_737 => by exfalso; exact c_737 he.neg)
          refine tt_iconst h (nI 1) dL_law_750 (by decide) ?_
          refine tt_goto h 755 dL_law_751 (by decide) ?_
          refine tt_istore_n h [(2, .int (nI 1)), (14, .int (nI 0)), (11, .int a534), (13, .int (-1000002)), (12, .int (-1000002)), (0, .ref b), (1, .ref (g.1 144)), (3, .int (nI t)), (4, .int xv), (5, .int (nI v)), (6, .int (nI w)), (7, .int (nI N)), (8, .int (nI n)), (9, .int (coins X N)), (10, .int (nI K))] dL_law_755 rfl (by decide) rfl ?_
          refine tt_goto h 1135 dL_law_756 (by decide) ?_
          exact tt_lv (kk _ _ _ _ _ _ (Or.inl he) hW2) [5, 6, 0, 7, 9, 10, 2] rfl
      · clear hp
        obtain ⟨rfl, hnN2, h5, z2, u1, u2, e2, hK1, hKb, hrr, hj, hco, hvw⟩ := hOk
        exact absurd h5 hjn
    · skip
      have hc : (¬ X (169 + 9 * n + 5) = 0 ∧ (-1000004 : Int32) = -1000002) ∨ (X (169 + 9 * n + 5) = 0 ∧ rtX eC X N n (decide (1 = 1)) = none ∧ (-1000004 : Int32) = -1000004) := Or.inr ⟨hj0, hno, rfl⟩
      have hno2 : rtX eC X N n true = none := hno
      refine tt_istore h [(12, .int (-1000004)), (0, .ref b), (1, .ref (g.1 144)), (2, .int (nI 1)), (3, .int (nI t)), (4, .int xv), (5, .int (nI v)), (6, .int (nI w)), (7, .int (nI N)), (8, .int (nI n)), (9, .int (coins X N)), (10, .int (nI K)), (11, .int (nI 0))] dL_law_511 (by decide) rfl ?_
      refine tt_iload h 8 dL_law_513 rfl ?_
      refine tt_if_ne_n h 523 dL_law_515 (by decide) (by first | omega | exact jN_lt | exact cnt_lt31 (by omega) | exact pri_lt hGd | exact Nat.lt_of_lt_of_le (vicE_lt hN6) (by decide)) (fun c_515 => ?_) (fun c_515 => by exfalso; exact c_497 c_515)
      refine tt_aload_n h 2 dL_law_523 rfl rfl ?_
      refine tt_iload h 9 dL_law_524 rfl ?_
      refine tt_callV h (As := [.int (nI n)]) 1 hx (c_X5_victims hW.hP hW.hI hW.hNb) gL_law_X5_victims rfl ⟨rfl, rfl⟩ (by decide +kernel) rfl (by decide) (by decide) E_144 rfl rfl (Nat.le_of_ble_eq_true rfl) dL_law_526 (fun a526_1 M526_1_ P526_1_ hp => ?_)
      rw [hX] at hp
      obtain ⟨rfl, hF, hQ⟩ := hp
      have hX0 := (FrS_0 hW (FrS_F hF)).trans hX
      replace hW := WI_fr hW (FrS_F hF)
      clear hF hX
      have hX := hX0
      clear hX0
      have hz := rt_er (b := 1) hN6 hnN (by decide) hc hQ
      clear hQ
      subst hz
      refine tt_istore h [(13, .int (-1000004)), (12, .int (-1000004)), (0, .ref b), (1, .ref (g.1 144)), (2, .int (nI 1)), (3, .int (nI t)), (4, .int xv), (5, .int (nI v)), (6, .int (nI w)), (7, .int (nI N)), (8, .int (nI n)), (9, .int (coins X N)), (10, .int (nI K)), (11, .int (nI 0))] dL_law_529 (by decide) rfl ?_
      refine tt_aload_n h 3 dL_law_531 rfl rfl ?_
      refine tt_iload h 10 dL_law_532 rfl ?_
      refine tt_callV h (As := [.int (nI n)]) 1 hx (c_X5_dig hW.hP hW.hI hW.hs hW.hs4 hW.hNb) gL_law_X5_dig rfl ⟨rfl, rfl⟩ (by decide +kernel) rfl (by decide) (by decide) E_144 rfl rfl (Nat.le_of_ble_eq_true rfl) dL_law_534 (fun a534_1 M534_1_ P534_1_ hp => ?_)
      rw [hX] at hp
      rcases tr_step (Q := fun Y r X' => digQ finC eC Y N K (nI n) r X') hW hX hA1 hB1 hp (q_dig (by omega) hGd hA1 hB1) with ⟨he, hEr, hPe, hW2, hX2⟩ | ⟨hok, N1, K1, X1, hW1, hX1, hOk⟩
      · subst hPe
        clear hp
        refine tt_istore h [(11, .int a534_1), (13, .int (-1000004)), (12, .int (-1000004)), (0, .ref b), (1, .ref (g.1 144)), (2, .int (nI 1)), (3, .int (nI t)), (4, .int xv), (5, .int (nI v)), (6, .int (nI w)), (7, .int (nI N)), (8, .int (nI n)), (9, .int (coins X N)), (10, .int (nI K))] dL_law_537 (by decide) rfl ?_
        refine tt_iload h 0 dL_law_539 rfl ?_
        refine tt_if_ge h 576 dL_law_541 (by decide) (fun c_541 => by exfalso; exact Int32.not_lt.mpr c_541 he.neg) (fun c_541 => ?_)
        refine tt_iload h 2 dL_law_544 rfl ?_
        refine tt_if_lt h 568 dL_law_546 (by decide) (fun _ => ?_) (fun c => absurd (by decide) c)
        refine tt_iconst h (nI 1) dL_law_568 (by decide) ?_
        refine tt_goto h 610 dL_law_569 (by decide) ?_
        refine tt_istore_n h [(2, .int (nI 1)), (11, .int a534_1), (13, .int (-1000004)), (12, .int (-1000004)), (0, .ref b), (1, .ref (g.1 144)), (3, .int (nI t)), (4, .int xv), (5, .int (nI v)), (6, .int (nI w)), (7, .int (nI N)), (8, .int (nI n)), (9, .int (coins X N)), (10, .int (nI K))] dL_law_610 rfl (by decide) rfl ?_
        refine tt_iconst h (nI 0) dL_law_611 (by decide) ?_
        refine tt_istore h [(14, .int (nI 0)), (2, .int (nI 1)), (11, .int a534_1), (13, .int (-1000004)), (12, .int (-1000004)), (0, .ref b), (1, .ref (g.1 144)), (3, .int (nI t)), (4, .int xv), (5, .int (nI v)), (6, .int (nI w)), (7, .int (nI N)), (8, .int (nI n)), (9, .int (coins X N)), (10, .int (nI K))] dL_law_612 (by decide) rfl ?_
        refine tt_iload h 0 dL_law_614 rfl ?_
        refine tt_iload h 11 dL_law_616 rfl ?_
        refine tt_icmp_ge_n h 731 dL_law_618 (by decide) (by decide) (by first | omega | exact jN_lt | exact cnt_lt31 (by omega) | exact pri_lt hGd | exact Nat.lt_of_lt_of_le (vicE_lt hN6) (by decide)) (fun c_618 => ?_) (fun c_618 => ?_)
        · -- 618 true
          refine tt_iload_n h 1 dL_law_731 rfl rfl ?_
          refine tt_if_eq h 754 dL_law_732 (by decide) (fun c => absurd c (by decide)) (fun _ => ?_)
          refine tt_iload h 2 dL_law_735 rfl ?_
          refine tt_if_lt h 750 dL_law_737 (by decide) (fun c_737 => ?_) (fun c_737 => by exfalso; exact c_737 he.neg)
          refine tt_iconst h (nI 1) dL_law_750 (by decide) ?_
          refine tt_goto h 755 dL_law_751 (by decide) ?_
          refine tt_istore_n h [(2, .int (nI 1)), (14, .int (nI 0)), (11, .int a534_1), (13, .int (-1000004)), (12, .int (-1000004)), (0, .ref b), (1, .ref (g.1 144)), (3, .int (nI t)), (4, .int xv), (5, .int (nI v)), (6, .int (nI w)), (7, .int (nI N)), (8, .int (nI n)), (9, .int (coins X N)), (10, .int (nI K))] dL_law_755 rfl (by decide) rfl ?_
          refine tt_goto h 1135 dL_law_756 (by decide) ?_
          exact tt_lv (kk _ _ _ _ _ _ (Or.inl he) hW2) [5, 6, 0, 7, 9, 10, 2] rfl
        · -- 618 false
          refine tt_iload_n h 1 dL_law_621 rfl rfl ?_
          refine tt_if_eq h 731 dL_law_622 (by decide) (fun c => absurd c (by decide)) (fun _ => ?_)
          refine tt_iload h 2 dL_law_625 rfl ?_
          refine tt_if_lt h 731 dL_law_627 (by decide) (fun c_627 => ?_) (fun c_627 => by exfalso; exact c_627 he.neg)
          refine tt_iload_n h 1 dL_law_731 rfl rfl ?_
          refine tt_if_eq h 754 dL_law_732 (by decide) (fun c => absurd c (by decide)) (fun _ => ?_)
          refine tt_iload h 2 dL_law_735 rfl ?_
          refine tt_if_lt h 750 dL_law_737 (by decide) (fun c_737 => ?_) (fun c_737 => by exfalso; exact c_737 he.neg)
          refine tt_iconst h (nI 1) dL_law_750 (by decide) ?_
          refine tt_goto h 755 dL_law_751 (by decide) ?_
          refine tt_istore_n h [(2, .int (nI 1)), (14, .int (nI 0)), (11, .int a534_1), (13, .int (-1000004)), (12, .int (-1000004)), (0, .ref b), (1, .ref (g.1 144)), (3, .int (nI t)), (4, .int xv), (5, .int (nI v)), (6, .int (nI w)), (7, .int (nI N)), (8, .int (nI n)), (9, .int (coins X N)), (10, .int (nI K))] dL_law_755 rfl (by decide) rfl ?_
          refine tt_goto h 1135 dL_law_756 (by decide) ?_
          exact tt_lv (kk _ _ _ _ _ _ (Or.inl he) hW2) [5, 6, 0, 7, 9, 10, 2] rfl
      · clear hp
        obtain ⟨rfl, hnN2, h5, z2, u1, u2, e2, hK1, hKb, hrr, hj, hco, hvw⟩ := hOk
        rw [hno2] at e2
        cases e2
    · skip
      have hrt2 : rtX eC X N n true = some (z, l1, l2) := hrt
      refine tt_istore h [(12, .int (nI (priE eC X N (l1 ++ l2)))), (0, .ref b), (1, .ref (g.1 144)), (2, .int (nI 1)), (3, .int (nI t)), (4, .int xv), (5, .int (nI v)), (6, .int (nI w)), (7, .int (nI N)), (8, .int (nI n)), (9, .int (coins X N)), (10, .int (nI K)), (11, .int (nI 0))] dL_law_511 (by decide) rfl ?_
      refine tt_iload h 8 dL_law_513 rfl ?_
      refine tt_if_ne_n h 523 dL_law_515 (by decide) (by first | omega | exact jN_lt | exact cnt_lt31 (by omega) | exact pri_lt hGd | exact Nat.lt_of_lt_of_le (vicE_lt hN6) (by decide)) (fun c_515 => ?_) (fun c_515 => by exfalso; exact c_497 c_515)
      refine tt_aload_n h 2 dL_law_523 rfl rfl ?_
      refine tt_iload h 9 dL_law_524 rfl ?_
      refine tt_callV h (As := [.int (nI n)]) 1 hx (c_X5_victims hW.hP hW.hI hW.hNb) gL_law_X5_victims rfl ⟨rfl, rfl⟩ (by decide +kernel) rfl (by decide) (by decide) E_144 rfl rfl (Nat.le_of_ble_eq_true rfl) dL_law_526 (fun a526_2 M526_2_ P526_2_ hp => ?_)
      rw [hX] at hp
      obtain ⟨rfl, hF, hQ⟩ := hp
      have hX0 := (FrS_0 hW (FrS_F hF)).trans hX
      replace hW := WI_fr hW (FrS_F hF)
      clear hF hX
      have hX := hX0
      clear hX0
      have hz := rt_ok (b := 1) hN6 hnN (by decide) hj0 hrt hQ
      clear hQ
      subst hz
      refine tt_istore h [(13, .int (nI (bset (vicE eC X (l1 ++ l2)) N))), (12, .int (nI (priE eC X N (l1 ++ l2)))), (0, .ref b), (1, .ref (g.1 144)), (2, .int (nI 1)), (3, .int (nI t)), (4, .int xv), (5, .int (nI v)), (6, .int (nI w)), (7, .int (nI N)), (8, .int (nI n)), (9, .int (coins X N)), (10, .int (nI K)), (11, .int (nI 0))] dL_law_529 (by decide) rfl ?_
      refine tt_aload_n h 3 dL_law_531 rfl rfl ?_
      refine tt_iload h 10 dL_law_532 rfl ?_
      refine tt_callV h (As := [.int (nI n)]) 1 hx (c_X5_dig hW.hP hW.hI hW.hs hW.hs4 hW.hNb) gL_law_X5_dig rfl ⟨rfl, rfl⟩ (by decide +kernel) rfl (by decide) (by decide) E_144 rfl rfl (Nat.le_of_ble_eq_true rfl) dL_law_534 (fun a534_2 M534_2_ P534_2_ hp => ?_)
      rw [hX] at hp
      rcases tr_step (Q := fun Y r X' => digQ finC eC Y N K (nI n) r X') hW hX hA1 hB1 hp (q_dig (by omega) hGd hA1 hB1) with ⟨he, hEr, hPe, hW2, hX2⟩ | ⟨hok, N1, K1, X1, hW1, hX1, hOk⟩
      · subst hPe
        clear hp
        have hE2 : X (169 + 9 * n + 4) < nI (priE eC X N (l1 ++ l2)) ∨ 12 < K + 6 := by
          rcases hEr hnN with (q | q) | ⟨-, z', u1, u2, e1, q⟩
          · exact absurd hj0 q
          · rw [q] at hrt2; cases hrt2
          · rw [hrt2] at e1
            cases e1
            have hcv := cnt_le (vicE eC X (l1 ++ l2)) N
            exact q.imp id (fun q => by omega)
        refine tt_istore h [(11, .int a534_2), (13, .int (nI (bset (vicE eC X (l1 ++ l2)) N))), (12, .int (nI (priE eC X N (l1 ++ l2)))), (0, .ref b), (1, .ref (g.1 144)), (2, .int (nI 1)), (3, .int (nI t)), (4, .int xv), (5, .int (nI v)), (6, .int (nI w)), (7, .int (nI N)), (8, .int (nI n)), (9, .int (coins X N)), (10, .int (nI K))] dL_law_537 (by decide) rfl ?_
        refine tt_iload h 0 dL_law_539 rfl ?_
        refine tt_if_ge h 576 dL_law_541 (by decide) (fun c_541 => by exfalso; exact Int32.not_lt.mpr c_541 he.neg) (fun c_541 => ?_)
        refine tt_iload h 2 dL_law_544 rfl ?_
        refine tt_if_lt_n h 568 dL_law_546 (by decide) (by first | omega | exact jN_lt | exact cnt_lt31 (by omega) | exact pri_lt hGd | exact Nat.lt_of_lt_of_le (vicE_lt hN6) (by decide)) ?_
        refine tt_iload h 2 dL_law_549 rfl ?_
        refine tt_aload_n h 4 dL_law_551 rfl rfl ?_
        refine tt_iload h 11 dL_law_552 rfl ?_
        refine tt_iconst h (nI 4) dL_law_554 (by decide) ?_
        refine tt_callV h (As := [.int (nI n), .int (nI 4)]) 2 hx (c_X5_netOf hW2.hP hW2.hI) gL_law_X5_netOf rfl ⟨rfl, rfl⟩ (by decide +kernel) rfl (by decide) (by decide) E_144 rfl rfl (Nat.le_of_ble_eq_true rfl) dL_law_555 (fun a555 M' P' hp => ?_)
        rw [hX2] at hp
        obtain ⟨⟨rfl, rfl⟩, hQ⟩ := hp
        have hz := (net_at (k := n) (j := 4) hW2.N6 (by omega) (by omega) hQ)
        clear hQ
        subst hz
        refine tt_icmp_gt h 568 dL_law_558 (by decide) (fun c_558 => ?_) (fun c_558 => ?_)
        · -- 558 true
          refine tt_iconst h (nI 1) dL_law_568 (by decide) ?_
          refine tt_goto h 610 dL_law_569 (by decide) ?_
          refine tt_istore_n h [(2, .int (nI 1)), (11, .int a534_2), (13, .int (nI (bset (vicE eC X (l1 ++ l2)) N))), (12, .int (nI (priE eC X N (l1 ++ l2)))), (0, .ref b), (1, .ref (g.1 144)), (3, .int (nI t)), (4, .int xv), (5, .int (nI v)), (6, .int (nI w)), (7, .int (nI N)), (8, .int (nI n)), (9, .int (coins X N)), (10, .int (nI K))] dL_law_610 rfl (by decide) rfl ?_
          refine tt_iconst h (nI 0) dL_law_611 (by decide) ?_
          refine tt_istore h [(14, .int (nI 0)), (2, .int (nI 1)), (11, .int a534_2), (13, .int (nI (bset (vicE eC X (l1 ++ l2)) N))), (12, .int (nI (priE eC X N (l1 ++ l2)))), (0, .ref b), (1, .ref (g.1 144)), (3, .int (nI t)), (4, .int xv), (5, .int (nI v)), (6, .int (nI w)), (7, .int (nI N)), (8, .int (nI n)), (9, .int (coins X N)), (10, .int (nI K))] dL_law_612 (by decide) rfl ?_
          refine tt_iload h 0 dL_law_614 rfl ?_
          refine tt_iload h 11 dL_law_616 rfl ?_
          refine tt_icmp_ge_n h 731 dL_law_618 (by decide) (by decide) (by first | omega | exact jN_lt | exact cnt_lt31 (by omega) | exact pri_lt hGd | exact Nat.lt_of_lt_of_le (vicE_lt hN6) (by decide)) (fun c_618 => ?_) (fun c_618 => ?_)
          · -- 618 true
            refine tt_iload_n h 1 dL_law_731 rfl rfl ?_
            refine tt_if_eq h 754 dL_law_732 (by decide) (fun c => absurd c (by decide)) (fun _ => ?_)
            refine tt_iload h 2 dL_law_735 rfl ?_
            refine tt_if_lt h 750 dL_law_737 (by decide) (fun c_737 => ?_) (fun c_737 => by exfalso; exact c_737 he.neg)
            refine tt_iconst h (nI 1) dL_law_750 (by decide) ?_
            refine tt_goto h 755 dL_law_751 (by decide) ?_
            refine tt_istore_n h [(2, .int (nI 1)), (14, .int (nI 0)), (11, .int a534_2), (13, .int (nI (bset (vicE eC X (l1 ++ l2)) N))), (12, .int (nI (priE eC X N (l1 ++ l2)))), (0, .ref b), (1, .ref (g.1 144)), (3, .int (nI t)), (4, .int xv), (5, .int (nI v)), (6, .int (nI w)), (7, .int (nI N)), (8, .int (nI n)), (9, .int (coins X N)), (10, .int (nI K))] dL_law_755 rfl (by decide) rfl ?_
            refine tt_goto h 1135 dL_law_756 (by decide) ?_
            exact tt_lv (kk _ _ _ _ _ _ (Or.inl he) hW2) [5, 6, 0, 7, 9, 10, 2] rfl
          · -- 618 false
            refine tt_iload_n h 1 dL_law_621 rfl rfl ?_
            refine tt_if_eq h 731 dL_law_622 (by decide) (fun c => absurd c (by decide)) (fun _ => ?_)
            refine tt_iload h 2 dL_law_625 rfl ?_
            refine tt_if_lt h 731 dL_law_627 (by decide) (fun c_627 => ?_) (fun c_627 => by exfalso; exact c_627 he.neg)
            refine tt_iload_n h 1 dL_law_731 rfl rfl ?_
            refine tt_if_eq h 754 dL_law_732 (by decide) (fun c => absurd c (by decide)) (fun _ => ?_)
            refine tt_iload h 2 dL_law_735 rfl ?_
            refine tt_if_lt h 750 dL_law_737 (by decide) (fun c_737 => ?_) (fun c_737 => by exfalso; exact c_737 he.neg)
            refine tt_iconst h (nI 1) dL_law_750 (by decide) ?_
            refine tt_goto h 755 dL_law_751 (by decide) ?_
            refine tt_istore_n h [(2, .int (nI 1)), (14, .int (nI 0)), (11, .int a534_2), (13, .int (nI (bset (vicE eC X (l1 ++ l2)) N))), (12, .int (nI (priE eC X N (l1 ++ l2)))), (0, .ref b), (1, .ref (g.1 144)), (3, .int (nI t)), (4, .int xv), (5, .int (nI v)), (6, .int (nI w)), (7, .int (nI N)), (8, .int (nI n)), (9, .int (coins X N)), (10, .int (nI K))] dL_law_755 rfl (by decide) rfl ?_
            refine tt_goto h 1135 dL_law_756 (by decide) ?_
            exact tt_lv (kk _ _ _ _ _ _ (Or.inl he) hW2) [5, 6, 0, 7, 9, 10, 2] rfl
        · -- 558 false
          refine tt_iload h 13 dL_law_561 rfl ?_
          refine tt_bipush h (nI 6) dL_law_563 (by decide) ?_
          refine tt_icmp_le_n h 572 dL_law_565 (by decide) (by first | omega | exact jN_lt | exact cnt_lt31 (by omega) | exact pri_lt hGd | exact Nat.lt_of_lt_of_le (vicE_lt hN6) (by decide)) (by decide) (fun c_565 => by exfalso; exact hE2.elim c_558 (fun q => absurd q (by omega))) (fun c_565 => ?_)
          refine tt_iconst h (nI 1) dL_law_568 (by decide) ?_
          refine tt_goto h 610 dL_law_569 (by decide) ?_
          refine tt_istore_n h [(2, .int (nI 1)), (11, .int a534_2), (13, .int (nI (bset (vicE eC X (l1 ++ l2)) N))), (12, .int (nI (priE eC X N (l1 ++ l2)))), (0, .ref b), (1, .ref (g.1 144)), (3, .int (nI t)), (4, .int xv), (5, .int (nI v)), (6, .int (nI w)), (7, .int (nI N)), (8, .int (nI n)), (9, .int (coins X N)), (10, .int (nI K))] dL_law_610 rfl (by decide) rfl ?_
          refine tt_iconst h (nI 0) dL_law_611 (by decide) ?_
          refine tt_istore h [(14, .int (nI 0)), (2, .int (nI 1)), (11, .int a534_2), (13, .int (nI (bset (vicE eC X (l1 ++ l2)) N))), (12, .int (nI (priE eC X N (l1 ++ l2)))), (0, .ref b), (1, .ref (g.1 144)), (3, .int (nI t)), (4, .int xv), (5, .int (nI v)), (6, .int (nI w)), (7, .int (nI N)), (8, .int (nI n)), (9, .int (coins X N)), (10, .int (nI K))] dL_law_612 (by decide) rfl ?_
          refine tt_iload h 0 dL_law_614 rfl ?_
          refine tt_iload h 11 dL_law_616 rfl ?_
          refine tt_icmp_ge_n h 731 dL_law_618 (by decide) (by decide) (by first | omega | exact jN_lt | exact cnt_lt31 (by omega) | exact pri_lt hGd | exact Nat.lt_of_lt_of_le (vicE_lt hN6) (by decide)) (fun c_618 => ?_) (fun c_618 => ?_)
          · -- 618 true
            refine tt_iload_n h 1 dL_law_731 rfl rfl ?_
            refine tt_if_eq h 754 dL_law_732 (by decide) (fun c => absurd c (by decide)) (fun _ => ?_)
            refine tt_iload h 2 dL_law_735 rfl ?_
            refine tt_if_lt h 750 dL_law_737 (by decide) (fun c_737 => ?_) (fun c_737 => by exfalso; exact c_737 he.neg)
            refine tt_iconst h (nI 1) dL_law_750 (by decide) ?_
            refine tt_goto h 755 dL_law_751 (by decide) ?_
            refine tt_istore_n h [(2, .int (nI 1)), (14, .int (nI 0)), (11, .int a534_2), (13, .int (nI (bset (vicE eC X (l1 ++ l2)) N))), (12, .int (nI (priE eC X N (l1 ++ l2)))), (0, .ref b), (1, .ref (g.1 144)), (3, .int (nI t)), (4, .int xv), (5, .int (nI v)), (6, .int (nI w)), (7, .int (nI N)), (8, .int (nI n)), (9, .int (coins X N)), (10, .int (nI K))] dL_law_755 rfl (by decide) rfl ?_
            refine tt_goto h 1135 dL_law_756 (by decide) ?_
            exact tt_lv (kk _ _ _ _ _ _ (Or.inl he) hW2) [5, 6, 0, 7, 9, 10, 2] rfl
          · -- 618 false
            refine tt_iload_n h 1 dL_law_621 rfl rfl ?_
            refine tt_if_eq h 731 dL_law_622 (by decide) (fun c => absurd c (by decide)) (fun _ => ?_)
            refine tt_iload h 2 dL_law_625 rfl ?_
            refine tt_if_lt h 731 dL_law_627 (by decide) (fun c_627 => ?_) (fun c_627 => by exfalso; exact c_627 he.neg)
            refine tt_iload_n h 1 dL_law_731 rfl rfl ?_
            refine tt_if_eq h 754 dL_law_732 (by decide) (fun c => absurd c (by decide)) (fun _ => ?_)
            refine tt_iload h 2 dL_law_735 rfl ?_
            refine tt_if_lt h 750 dL_law_737 (by decide) (fun c_737 => ?_) (fun c_737 => by exfalso; exact c_737 he.neg)
            refine tt_iconst h (nI 1) dL_law_750 (by decide) ?_
            refine tt_goto h 755 dL_law_751 (by decide) ?_
            refine tt_istore_n h [(2, .int (nI 1)), (14, .int (nI 0)), (11, .int a534_2), (13, .int (nI (bset (vicE eC X (l1 ++ l2)) N))), (12, .int (nI (priE eC X N (l1 ++ l2)))), (0, .ref b), (1, .ref (g.1 144)), (3, .int (nI t)), (4, .int xv), (5, .int (nI v)), (6, .int (nI w)), (7, .int (nI N)), (8, .int (nI n)), (9, .int (coins X N)), (10, .int (nI K))] dL_law_755 rfl (by decide) rfl ?_
            refine tt_goto h 1135 dL_law_756 (by decide) ?_
            exact tt_lv (kk _ _ _ _ _ _ (Or.inl he) hW2) [5, 6, 0, 7, 9, 10, 2] rfl
      · clear hp
        obtain ⟨rfl, hnN2, h5, z2, u1, u2, e2, hK1, hKb, hrr, hj, hco, hvw⟩ := hOk
        rw [hrt2] at e2
        cases e2
        subst hrr
        subst hK1
        refine tt_istore h [(11, .int (nI (priE eC X N (l1 ++ l2)))), (13, .int (nI (bset (vicE eC X (l1 ++ l2)) N))), (12, .int (nI (priE eC X N (l1 ++ l2)))), (0, .ref b), (1, .ref (g.1 144)), (2, .int (nI 1)), (3, .int (nI t)), (4, .int xv), (5, .int (nI v)), (6, .int (nI w)), (7, .int (nI N)), (8, .int (nI n)), (9, .int (coins X N)), (10, .int (nI K))] dL_law_537 (by decide) rfl ?_
        refine tt_iload h 0 dL_law_539 rfl ?_
        refine tt_if_ge_n h 576 dL_law_541 (by decide) (by first | omega | exact jN_lt | exact cnt_lt31 (by omega) | exact pri_lt hGd | exact Nat.lt_of_lt_of_le (vicE_lt hN6) (by decide)) ?_
        refine tt_iload h 0 dL_law_576 rfl ?_
        refine tt_iload h 2 dL_law_578 rfl ?_
        refine tt_icmp_ne_n h 609 dL_law_580 (by decide) (by first | omega | exact jN_lt | exact cnt_lt31 (by omega) | exact pri_lt hGd | exact Nat.lt_of_lt_of_le (vicE_lt hN6) (by decide)) (by first | omega | exact jN_lt | exact cnt_lt31 (by omega) | exact pri_lt hGd | exact Nat.lt_of_lt_of_le (vicE_lt hN6) (by decide)) (fun c_580 => by exfalso; exact c_580 rfl) (fun c_580 => ?_)
        refine tt_aload_n h 4 dL_law_583 rfl rfl ?_
        refine tt_iload h 11 dL_law_584 rfl ?_
        refine tt_iconst h (nI 5) dL_law_586 (by decide) ?_
        refine tt_callV h (As := [.int (nI n), .int (nI 5)]) 2 hx (c_X5_netOf hW1.hP hW1.hI) gL_law_X5_netOf rfl ⟨rfl, rfl⟩ (by decide +kernel) rfl (by decide) (by decide) E_144 rfl rfl (Nat.le_of_ble_eq_true rfl) dL_law_587 (fun a587 M' P' hp => ?_)
        rw [hX1] at hp
        obtain ⟨⟨rfl, rfl⟩, hQ⟩ := hp
        have hz := (net_at (k := n) (j := 5) hW1.N6 (by omega) (by omega) hQ).trans (fNet5 X1 n)
        clear hQ
        subst hz
        refine tt_top (nI 1) (congrArg nI hj) ?_
        refine tt_iconst h (nI 1) dL_law_590 (by decide) ?_
        refine tt_icmp_ne h 609 dL_law_591 (by decide) (fun c => absurd c (by decide)) (fun _ => ?_)
        refine tt_aload_n h 4 dL_law_594 rfl rfl ?_
        refine tt_bipush h (nI 7) dL_law_595 (by decide) ?_
        refine tt_callV h (As := [.int (nI 7)]) 1 hx (c_X5_count hW1.hP hW1.hI hW1.hs hW1.hs4 hW1.hln) gL_law_X5_count rfl ⟨rfl, rfl⟩ (by decide +kernel) rfl (by decide) (by decide) E_144 rfl rfl (Nat.le_of_ble_eq_true rfl) dL_law_597 (fun a597 M' P' hp => ?_)
        rw [hX1] at hp
        obtain ⟨⟨rfl, rfl⟩, hQ⟩ := hp
        have hz := cnt_at (j := 7) (by omega) (by omega) (by omega) hQ
        clear hQ
        subst hz
        refine tt_top (coins X N) (show coins X1 N = coins X N from hco) ?_
        refine tt_iload h 12 dL_law_600 rfl ?_
        refine tt_icmp_ne h 609 dL_law_602 (by decide) (fun c_602 => by exfalso; exact c_602 rfl) (fun c_602 => ?_)
        refine tt_iconst h (nI 1) dL_law_605 (by decide) ?_
        refine tt_goto h 610 dL_law_606 (by decide) ?_
        refine tt_istore_n h [(2, .int (nI 1)), (11, .int (nI (priE eC X N (l1 ++ l2)))), (13, .int (nI (bset (vicE eC X (l1 ++ l2)) N))), (12, .int (nI (priE eC X N (l1 ++ l2)))), (0, .ref b), (1, .ref (g.1 144)), (3, .int (nI t)), (4, .int xv), (5, .int (nI v)), (6, .int (nI w)), (7, .int (nI N)), (8, .int (nI n)), (9, .int (coins X N)), (10, .int (nI K))] dL_law_610 rfl (by decide) rfl ?_
        refine tt_iconst h (nI 0) dL_law_611 (by decide) ?_
        refine tt_istore h [(14, .int (nI 0)), (2, .int (nI 1)), (11, .int (nI (priE eC X N (l1 ++ l2)))), (13, .int (nI (bset (vicE eC X (l1 ++ l2)) N))), (12, .int (nI (priE eC X N (l1 ++ l2)))), (0, .ref b), (1, .ref (g.1 144)), (3, .int (nI t)), (4, .int xv), (5, .int (nI v)), (6, .int (nI w)), (7, .int (nI N)), (8, .int (nI n)), (9, .int (coins X N)), (10, .int (nI K))] dL_law_612 (by decide) rfl ?_
        have L614 : ∀ (fu : Nat) (j : Nat) (cl : Nat), (N - j) < fu → (j ≤ N) → (cl = K + cnt (vicE eC X (l1 ++ l2)) j) → T x (fun _ => True) n1 n2 614 [(0, .ref b), (1, .ref (g.1 144)), (2, .int (nI 1)), (3, .int (nI t)), (5, .int (nI v)), (6, .int (nI w)), (7, .int (nI N)), (8, .int (nI n)), (10, .int (nI cl)), (11, .int (nI (priE eC X N (l1 ++ l2)))), (13, .int (nI (bset (vicE eC X (l1 ++ l2)) N))), (14, .int (nI j))] [] M534_2_ P534_2_ := by
          intro fu
          induction fu with
          | zero => intro j cl hmu614; exact absurd hmu614 (Nat.not_lt_zero _)
          | succ fu ih614 =>
            intro j cl hmu614 hj9 hcl
            refine tt_iload h 11 dL_law_614 rfl ?_
            refine tt_iload h 6 dL_law_616 rfl ?_
            refine tt_icmp_ge_n h 731 dL_law_618 (by decide) (by first | omega | exact jN_lt | exact cnt_lt31 (by omega) | exact pri_lt hGd | exact Nat.lt_of_lt_of_le (vicE_lt hN6) (by decide)) (by first | omega | exact jN_lt | exact cnt_lt31 (by omega) | exact pri_lt hGd | exact Nat.lt_of_lt_of_le (vicE_lt hN6) (by decide)) (fun c_618 => ?_) (fun c_618 => ?_)
            · -- 618 true
              obtain rfl : N = j := by omega
              refine tt_iload_n h 2 dL_law_731 rfl rfl ?_
              refine tt_if_eq h 754 dL_law_732 (by decide) (fun c => absurd c (by decide)) (fun _ => ?_)
              refine tt_iload h 9 dL_law_735 rfl ?_
              refine tt_if_lt_n h 750 dL_law_737 (by decide) (by first | omega | exact jN_lt | exact cnt_lt31 (by omega) | exact pri_lt hGd | exact Nat.lt_of_lt_of_le (vicE_lt hN6) (by decide)) ?_
              refine tt_aload_n h 1 dL_law_740 rfl rfl ?_
              refine tt_iconst h (nI 4) dL_law_741 (by decide) ?_
              refine tt_callV h (As := [.int (nI 4)]) 1 hx (c_X5_count hW1.hP hW1.hI hW1.hs hW1.hs4 hW1.hln) gL_law_X5_count rfl ⟨rfl, rfl⟩ (by decide +kernel) rfl (by decide) (by decide) E_144 rfl rfl (Nat.le_of_ble_eq_true rfl) dL_law_742 (fun a742 M' P' hp => ?_)
              rw [hX1] at hp
              obtain ⟨⟨rfl, rfl⟩, hQ⟩ := hp
              have hz := cnt_at (j := 4) (by omega) (by omega) (by omega) hQ
              clear hQ
              subst hz
              refine tt_iload h 8 dL_law_745 rfl ?_
              refine tt_icmp_ne_n h 754 dL_law_747 (by decide) (by first | omega | exact jN_lt | exact cnt_lt31 (by omega) | exact pri_lt hGd | exact Nat.lt_of_lt_of_le (vicE_lt hN6) (by decide)) (by first | omega | exact jN_lt | exact cnt_lt31 (by omega) | exact pri_lt hGd | exact Nat.lt_of_lt_of_le (vicE_lt hN6) (by decide)) (fun c_747 => by exfalso; exact c_747 hcl.symm) (fun c_747 => ?_)
              refine tt_iconst h (nI 1) dL_law_750 (by decide) ?_
              refine tt_goto h 755 dL_law_751 (by decide) ?_
              refine tt_istore_n h [(2, .int (nI 1)), (0, .ref b), (1, .ref (g.1 144)), (3, .int (nI t)), (5, .int (nI v)), (6, .int (nI w)), (7, .int (nI N)), (8, .int (nI n)), (10, .int (nI cl)), (11, .int (nI (priE eC X N (l1 ++ l2)))), (13, .int (nI (bset (vicE eC X (l1 ++ l2)) N))), (14, .int (nI N))] dL_law_755 rfl (by decide) rfl ?_
              refine tt_goto h 1135 dL_law_756 (by decide) ?_
              exact tt_lv (kk _ _ _ _ _ _ (Or.inr hok) hW1) [1, 2, 0, 3, 4, 5, 9] rfl
            · -- 618 false
              have hjN : j < N := by omega
              refine tt_iload_n h 2 dL_law_621 rfl rfl ?_
              refine tt_if_eq h 731 dL_law_622 (by decide) (fun c => absurd c (by decide)) (fun _ => ?_)
              refine tt_iload h 9 dL_law_625 rfl ?_
              refine tt_if_lt_n h 731 dL_law_627 (by decide) (by first | omega | exact jN_lt | exact cnt_lt31 (by omega) | exact pri_lt hGd | exact Nat.lt_of_lt_of_le (vicE_lt hN6) (by decide)) ?_
              refine tt_iload h 10 dL_law_630 rfl ?_
              refine tt_iload h 11 dL_law_632 rfl ?_
              refine tt_ishr h dL_law_634 ?_
              refine tt_iconst h (nI 1) dL_law_635 (by decide) ?_
              refine tt_iand h dL_law_636 ?_
              refine tt_iconst h (nI 1) dL_law_637 (by decide) ?_
              refine tt_icmp_ne h 645 dL_law_638 (by decide) (fun c_638 => ?_) (fun c_638 => ?_)
              · -- 638 true
                have hv0 : ¬ vicE eC X (l1 ++ l2) j = true := fun q => c_638 ((vic_bit hN6 hjN).mpr q)
                refine tt_iconst h (nI 0) dL_law_645 (by decide) ?_
                refine tt_istore h [(15, .int (nI 0)), (0, .ref b), (1, .ref (g.1 144)), (2, .int (nI 1)), (3, .int (nI t)), (5, .int (nI v)), (6, .int (nI w)), (7, .int (nI N)), (8, .int (nI n)), (10, .int (nI cl)), (11, .int (nI (priE eC X N (l1 ++ l2)))), (13, .int (nI (bset (vicE eC X (l1 ++ l2)) N))), (14, .int (nI j))] dL_law_646 (by decide) rfl ?_
                refine tt_iload h 9 dL_law_648 rfl ?_
                refine tt_iload h 0 dL_law_650 rfl ?_
                refine tt_if_eq h 659 dL_law_652 (by decide) (fun _ => ?_) (fun c => absurd (by decide) c)
                refine tt_iconst h (nI 0) dL_law_659 (by decide) ?_
                refine tt_iadd_n h dL_law_660 ?_
                refine tt_istore h [(10, .int (nI (cl + 0))), (15, .int (nI 0)), (0, .ref b), (1, .ref (g.1 144)), (2, .int (nI 1)), (3, .int (nI t)), (5, .int (nI v)), (6, .int (nI w)), (7, .int (nI N)), (8, .int (nI n)), (11, .int (nI (priE eC X N (l1 ++ l2)))), (13, .int (nI (bset (vicE eC X (l1 ++ l2)) N))), (14, .int (nI j))] dL_law_661 (by decide) rfl ?_
                refine tt_iload h 1 dL_law_663 rfl ?_
                refine tt_if_eq h 719 dL_law_665 (by decide) (fun _ => ?_) (fun c => absurd (by decide) c)
                refine tt_iconst h (nI 1) dL_law_719 (by decide) ?_
                refine tt_goto h 724 dL_law_720 (by decide) ?_
                refine tt_istore_n h [(2, .int (nI 1)), (10, .int (nI (cl + 0))), (15, .int (nI 0)), (0, .ref b), (1, .ref (g.1 144)), (3, .int (nI t)), (5, .int (nI v)), (6, .int (nI w)), (7, .int (nI N)), (8, .int (nI n)), (11, .int (nI (priE eC X N (l1 ++ l2)))), (13, .int (nI (bset (vicE eC X (l1 ++ l2)) N))), (14, .int (nI j))] dL_law_724 rfl (by decide) rfl ?_
                refine tt_iinc_n h 12 (n := 1) [(14, .int (nI (j + 1))), (2, .int (nI 1)), (10, .int (nI (cl + 0))), (15, .int (nI 0)), (0, .ref b), (1, .ref (g.1 144)), (3, .int (nI t)), (5, .int (nI v)), (6, .int (nI w)), (7, .int (nI N)), (8, .int (nI n)), (11, .int (nI (priE eC X N (l1 ++ l2)))), (13, .int (nI (bset (vicE eC X (l1 ++ l2)) N)))] dL_law_725 rfl (by decide) rfl ?_
                refine tt_goto h 614 dL_law_728 (by decide) ?_
                exact tt_lv (ih614 (j + 1) (cl + 0) (by omega) (by omega) (by first | (have := kc_y (p := vicE eC X (l1 ++ l2)) (a := j) hv1 rfl; omega) | (have := kc_n (p := vicE eC X (l1 ++ l2)) (a := j) (by simpa using hv0) rfl; omega))) [4, 5, 1, 6, 7, 8, 9, 10, 2, 11, 12, 0] rfl
              · -- 638 false
                have hv1 : vicE eC X (l1 ++ l2) j = true := (vic_bit hN6 hjN).mp c_638
                obtain ⟨hw0, hw1, hw2, hw3⟩ := hvw j hjN hv1
                refine tt_iconst h (nI 1) dL_law_641 (by decide) ?_
                refine tt_goto h 646 dL_law_642 (by decide) ?_
                refine tt_istore h [(15, .int (nI 1)), (0, .ref b), (1, .ref (g.1 144)), (2, .int (nI 1)), (3, .int (nI t)), (5, .int (nI v)), (6, .int (nI w)), (7, .int (nI N)), (8, .int (nI n)), (10, .int (nI cl)), (11, .int (nI (priE eC X N (l1 ++ l2)))), (13, .int (nI (bset (vicE eC X (l1 ++ l2)) N))), (14, .int (nI j))] dL_law_646 (by decide) rfl ?_
                refine tt_iload h 9 dL_law_648 rfl ?_
                refine tt_iload h 0 dL_law_650 rfl ?_
                refine tt_if_eq h 659 dL_law_652 (by decide) (fun c => absurd c (by decide)) (fun _ => ?_)
                refine tt_iconst h (nI 1) dL_law_655 (by decide) ?_
                refine tt_goto h 660 dL_law_656 (by decide) ?_
                refine tt_iadd_n h dL_law_660 ?_
                refine tt_istore h [(10, .int (nI (cl + 1))), (15, .int (nI 1)), (0, .ref b), (1, .ref (g.1 144)), (2, .int (nI 1)), (3, .int (nI t)), (5, .int (nI v)), (6, .int (nI w)), (7, .int (nI N)), (8, .int (nI n)), (11, .int (nI (priE eC X N (l1 ++ l2)))), (13, .int (nI (bset (vicE eC X (l1 ++ l2)) N))), (14, .int (nI j))] dL_law_661 (by decide) rfl ?_
                refine tt_iload h 1 dL_law_663 rfl ?_
                refine tt_if_eq h 719 dL_law_665 (by decide) (fun c => absurd c (by decide)) (fun _ => ?_)
                refine tt_aload_n h 3 dL_law_668 rfl rfl ?_
                refine tt_iload h 12 dL_law_669 rfl ?_
                refine tt_iconst h (nI 5) dL_law_671 (by decide) ?_
                refine tt_callV h (As := [.int (nI j), .int (nI 5)]) 2 hx (c_X5_netOf hW1.hP hW1.hI) gL_law_X5_netOf rfl ⟨rfl, rfl⟩ (by decide +kernel) rfl (by decide) (by decide) E_144 rfl rfl (Nat.le_of_ble_eq_true rfl) dL_law_672 (fun a672 M' P' hp => ?_)
                rw [hX1] at hp
                obtain ⟨⟨rfl, rfl⟩, hQ⟩ := hp
                have hz := (net_at (k := j) (j := 5) hW1.N6 (by omega) (by omega) hQ).trans (fNet5 X1 j)
                clear hQ
                subst hz
                refine tt_top (nI 0) (congrArg nI hw0) ?_
                refine tt_if_ne h 723 dL_law_675 (by decide) (fun c => absurd c (by decide)) (fun _ => ?_)
                refine tt_aload_n h 3 dL_law_678 rfl rfl ?_
                refine tt_iload h 0 dL_law_679 rfl ?_
                refine tt_iconst h (nI 1) dL_law_681 (by decide) ?_
                refine tt_isub_n h dL_law_682 (by omega) ?_
                refine tt_top (nI (K + cnt (vicE eC X (l1 ++ l2)) j)) (congrArg nI (by omega)) ?_
                refine tt_iconst h (nI 0) dL_law_683 (by decide) ?_
                refine tt_callV h (As := [.int (nI (K + cnt (vicE eC X (l1 ++ l2)) j)), .int (nI 0)]) 2 hx (c_X5_claimOf hW1.hP hW1.hI) gL_law_X5_claimOf rfl ⟨rfl, rfl⟩ (by decide +kernel) rfl (by decide) (by decide) E_144 rfl rfl (Nat.le_of_ble_eq_true rfl) dL_law_684 (fun a684 M' P' hp => ?_)
                rw [hX1] at hp
                obtain ⟨⟨rfl, rfl⟩, hQ⟩ := hp
                have hz := (clm_at (i := K + cnt (vicE eC X (l1 ++ l2)) j) (j := 0) hW1.K12 (by have := cnt_lt2 (p := vicE eC X (l1 ++ l2)) hjN hv1; omega) (by omega) hQ).trans (hw1)
                clear hQ
                subst hz
                refine tt_iload h 12 dL_law_687 rfl ?_
                refine tt_icmp_ne_n h 723 dL_law_689 (by decide) (by first | omega | exact jN_lt | exact cnt_lt31 (by omega) | exact pri_lt hGd | exact Nat.lt_of_lt_of_le (vicE_lt hN6) (by decide)) (by first | omega | exact jN_lt | exact cnt_lt31 (by omega) | exact pri_lt hGd | exact Nat.lt_of_lt_of_le (vicE_lt hN6) (by decide)) (fun c_689 => by exfalso; exact c_689 rfl) (fun c_689 => ?_)
                refine tt_aload_n h 3 dL_law_692 rfl rfl ?_
                refine tt_iload h 0 dL_law_693 rfl ?_
                refine tt_iconst h (nI 1) dL_law_695 (by decide) ?_
                refine tt_isub_n h dL_law_696 (by omega) ?_
                refine tt_top (nI (K + cnt (vicE eC X (l1 ++ l2)) j)) (congrArg nI (by omega)) ?_
                refine tt_iconst h (nI 1) dL_law_697 (by decide) ?_
                refine tt_callV h (As := [.int (nI (K + cnt (vicE eC X (l1 ++ l2)) j)), .int (nI 1)]) 2 hx (c_X5_claimOf hW1.hP hW1.hI) gL_law_X5_claimOf rfl ⟨rfl, rfl⟩ (by decide +kernel) rfl (by decide) (by decide) E_144 rfl rfl (Nat.le_of_ble_eq_true rfl) dL_law_698 (fun a698 M' P' hp => ?_)
                rw [hX1] at hp
                obtain ⟨⟨rfl, rfl⟩, hQ⟩ := hp
                have hz := (clm_at (i := K + cnt (vicE eC X (l1 ++ l2)) j) (j := 1) hW1.K12 (by have := cnt_lt2 (p := vicE eC X (l1 ++ l2)) hjN hv1; omega) (by omega) hQ).trans (hw2)
                clear hQ
                subst hz
                refine tt_iload h 9 dL_law_701 rfl ?_
                refine tt_icmp_ne_n h 723 dL_law_703 (by decide) (by first | omega | exact jN_lt | exact cnt_lt31 (by omega) | exact pri_lt hGd | exact Nat.lt_of_lt_of_le (vicE_lt hN6) (by decide)) (by first | omega | exact jN_lt | exact cnt_lt31 (by omega) | exact pri_lt hGd | exact Nat.lt_of_lt_of_le (vicE_lt hN6) (by decide)) (fun c_703 => by exfalso; exact c_703 rfl) (fun c_703 => ?_)
                refine tt_aload_n h 3 dL_law_706 rfl rfl ?_
                refine tt_iload h 0 dL_law_707 rfl ?_
                refine tt_iconst h (nI 1) dL_law_709 (by decide) ?_
                refine tt_isub_n h dL_law_710 (by omega) ?_
                refine tt_top (nI (K + cnt (vicE eC X (l1 ++ l2)) j)) (congrArg nI (by omega)) ?_
                refine tt_bipush h (nI 6) dL_law_711 (by decide) ?_
                refine tt_callV h (As := [.int (nI (K + cnt (vicE eC X (l1 ++ l2)) j)), .int (nI 6)]) 2 hx (c_X5_claimOf hW1.hP hW1.hI) gL_law_X5_claimOf rfl ⟨rfl, rfl⟩ (by decide +kernel) rfl (by decide) (by decide) E_144 rfl rfl (Nat.le_of_ble_eq_true rfl) dL_law_713 (fun a713 M' P' hp => ?_)
                rw [hX1] at hp
                obtain ⟨⟨rfl, rfl⟩, hQ⟩ := hp
                have hz := (clm_at (i := K + cnt (vicE eC X (l1 ++ l2)) j) (j := 6) hW1.K12 (by have := cnt_lt2 (p := vicE eC X (l1 ++ l2)) hjN hv1; omega) (by omega) hQ).trans (hw3)
                clear hQ
                subst hz
                refine tt_if_ne h 723 dL_law_716 (by decide) (fun c => absurd c (by decide)) (fun _ => ?_)
                refine tt_iconst h (nI 1) dL_law_719 (by decide) ?_
                refine tt_goto h 724 dL_law_720 (by decide) ?_
                refine tt_istore_n h [(2, .int (nI 1)), (10, .int (nI (cl + 1))), (15, .int (nI 1)), (0, .ref b), (1, .ref (g.1 144)), (3, .int (nI t)), (5, .int (nI v)), (6, .int (nI w)), (7, .int (nI N)), (8, .int (nI n)), (11, .int (nI (priE eC X N (l1 ++ l2)))), (13, .int (nI (bset (vicE eC X (l1 ++ l2)) N))), (14, .int (nI j))] dL_law_724 rfl (by decide) rfl ?_
                refine tt_iinc_n h 12 (n := 1) [(14, .int (nI (j + 1))), (2, .int (nI 1)), (10, .int (nI (cl + 1))), (15, .int (nI 1)), (0, .ref b), (1, .ref (g.1 144)), (3, .int (nI t)), (5, .int (nI v)), (6, .int (nI w)), (7, .int (nI N)), (8, .int (nI n)), (11, .int (nI (priE eC X N (l1 ++ l2)))), (13, .int (nI (bset (vicE eC X (l1 ++ l2)) N)))] dL_law_725 rfl (by decide) rfl ?_
                refine tt_goto h 614 dL_law_728 (by decide) ?_
                exact tt_lv (ih614 (j + 1) (cl + 1) (by omega) (by omega) (by first | (have := kc_y (p := vicE eC X (l1 ++ l2)) (a := j) hv1 rfl; omega) | (have := kc_n (p := vicE eC X (l1 ++ l2)) (a := j) (by simpa using hv0) rfl; omega))) [4, 5, 1, 6, 7, 8, 9, 10, 2, 11, 12, 0] rfl
        exact tt_lv (L614 _ 0 K (Nat.lt_succ_self _) (by omega) (by rfl)) [5, 6, 1, 7, 9, 10, 11, 12, 14, 2, 3, 0] rfl
  · -- 497 false
    refine tt_ldc h ((-1000001)) (by decide +kernel) dL_law_500 ?_
    refine tt_goto h 511 dL_law_502 (by decide) ?_
    refine tt_istore h [(12, .int (-1000001)), (0, .ref b), (1, .ref (g.1 144)), (2, .int (nI 1)), (3, .int (nI t)), (4, .int xv), (5, .int (nI v)), (6, .int (nI w)), (7, .int (nI N)), (8, .int (nI n)), (9, .int (coins X N)), (10, .int (nI K)), (11, .int (nI 0))] dL_law_511 (by decide) rfl ?_
    refine tt_iload h 8 dL_law_513 rfl ?_
    refine tt_if_ne_n h 523 dL_law_515 (by decide) (by first | omega | exact jN_lt | exact cnt_lt31 (by omega) | exact pri_lt hGd | exact Nat.lt_of_lt_of_le (vicE_lt hN6) (by decide)) (fun c_515 => by exfalso; exact c_515 c_497) (fun c_515 => ?_)
    refine tt_ldc h ((-1000001)) (by decide +kernel) dL_law_518 ?_
    refine tt_goto h 529 dL_law_520 (by decide) ?_
    refine tt_istore h [(13, .int (-1000001)), (12, .int (-1000001)), (0, .ref b), (1, .ref (g.1 144)), (2, .int (nI 1)), (3, .int (nI t)), (4, .int xv), (5, .int (nI v)), (6, .int (nI w)), (7, .int (nI N)), (8, .int (nI n)), (9, .int (coins X N)), (10, .int (nI K)), (11, .int (nI 0))] dL_law_529 (by decide) rfl ?_
    refine tt_aload_n h 3 dL_law_531 rfl rfl ?_
    refine tt_iload h 10 dL_law_532 rfl ?_
    refine tt_callV h (As := [.int (nI n)]) 1 hx (c_X5_dig hW.hP hW.hI hW.hs hW.hs4 hW.hNb) gL_law_X5_dig rfl ⟨rfl, rfl⟩ (by decide +kernel) rfl (by decide) (by decide) E_144 rfl rfl (Nat.le_of_ble_eq_true rfl) dL_law_534 (fun a534_3 M534_3_ P534_3_ hp => ?_)
    rw [hX] at hp
    rcases tr_step (Q := fun Y r X' => digQ finC eC Y N K (nI n) r X') hW hX hA1 hB1 hp (q_dig (by omega) hGd hA1 hB1) with ⟨he, hEr, hPe, hW2, hX2⟩ | ⟨hok, N1, K1, X1, hW1, hX1, hOk⟩
    · subst hPe
      clear hp
      refine tt_istore h [(11, .int a534_3), (13, .int (-1000001)), (12, .int (-1000001)), (0, .ref b), (1, .ref (g.1 144)), (2, .int (nI 1)), (3, .int (nI t)), (4, .int xv), (5, .int (nI v)), (6, .int (nI w)), (7, .int (nI N)), (8, .int (nI n)), (9, .int (coins X N)), (10, .int (nI K))] dL_law_537 (by decide) rfl ?_
      refine tt_iload h 0 dL_law_539 rfl ?_
      refine tt_if_ge h 576 dL_law_541 (by decide) (fun c_541 => by exfalso; exact Int32.not_lt.mpr c_541 he.neg) (fun c_541 => ?_)
      refine tt_iload h 2 dL_law_544 rfl ?_
      refine tt_if_lt h 568 dL_law_546 (by decide) (fun _ => ?_) (fun c => absurd (by decide) c)
      refine tt_iconst h (nI 1) dL_law_568 (by decide) ?_
      refine tt_goto h 610 dL_law_569 (by decide) ?_
      refine tt_istore_n h [(2, .int (nI 1)), (11, .int a534_3), (13, .int (-1000001)), (12, .int (-1000001)), (0, .ref b), (1, .ref (g.1 144)), (3, .int (nI t)), (4, .int xv), (5, .int (nI v)), (6, .int (nI w)), (7, .int (nI N)), (8, .int (nI n)), (9, .int (coins X N)), (10, .int (nI K))] dL_law_610 rfl (by decide) rfl ?_
      refine tt_iconst h (nI 0) dL_law_611 (by decide) ?_
      refine tt_istore h [(14, .int (nI 0)), (2, .int (nI 1)), (11, .int a534_3), (13, .int (-1000001)), (12, .int (-1000001)), (0, .ref b), (1, .ref (g.1 144)), (3, .int (nI t)), (4, .int xv), (5, .int (nI v)), (6, .int (nI w)), (7, .int (nI N)), (8, .int (nI n)), (9, .int (coins X N)), (10, .int (nI K))] dL_law_612 (by decide) rfl ?_
      refine tt_iload h 0 dL_law_614 rfl ?_
      refine tt_iload h 11 dL_law_616 rfl ?_
      refine tt_icmp_ge_n h 731 dL_law_618 (by decide) (by decide) (by first | omega | exact jN_lt | exact cnt_lt31 (by omega) | exact pri_lt hGd | exact Nat.lt_of_lt_of_le (vicE_lt hN6) (by decide)) (fun c_618 => ?_) (fun c_618 => ?_)
      · -- 618 true
        refine tt_iload_n h 1 dL_law_731 rfl rfl ?_
        refine tt_if_eq h 754 dL_law_732 (by decide) (fun c => absurd c (by decide)) (fun _ => ?_)
        refine tt_iload h 2 dL_law_735 rfl ?_
        refine tt_if_lt h 750 dL_law_737 (by decide) (fun c_737 => ?_) (fun c_737 => by exfalso; exact c_737 he.neg)
        refine tt_iconst h (nI 1) dL_law_750 (by decide) ?_
        refine tt_goto h 755 dL_law_751 (by decide) ?_
        refine tt_istore_n h [(2, .int (nI 1)), (14, .int (nI 0)), (11, .int a534_3), (13, .int (-1000001)), (12, .int (-1000001)), (0, .ref b), (1, .ref (g.1 144)), (3, .int (nI t)), (4, .int xv), (5, .int (nI v)), (6, .int (nI w)), (7, .int (nI N)), (8, .int (nI n)), (9, .int (coins X N)), (10, .int (nI K))] dL_law_755 rfl (by decide) rfl ?_
        refine tt_goto h 1135 dL_law_756 (by decide) ?_
        exact tt_lv (kk _ _ _ _ _ _ (Or.inl he) hW2) [5, 6, 0, 7, 9, 10, 2] rfl
      · -- 618 false
        refine tt_iload_n h 1 dL_law_621 rfl rfl ?_
        refine tt_if_eq h 731 dL_law_622 (by decide) (fun c => absurd c (by decide)) (fun _ => ?_)
        refine tt_iload h 2 dL_law_625 rfl ?_
        refine tt_if_lt h 731 dL_law_627 (by decide) (fun c_627 => ?_) (fun c_627 => by exfalso; exact c_627 he.neg)
        refine tt_iload_n h 1 dL_law_731 rfl rfl ?_
        refine tt_if_eq h 754 dL_law_732 (by decide) (fun c => absurd c (by decide)) (fun _ => ?_)
        refine tt_iload h 2 dL_law_735 rfl ?_
        refine tt_if_lt h 750 dL_law_737 (by decide) (fun c_737 => ?_) (fun c_737 => by exfalso; exact c_737 he.neg)
        refine tt_iconst h (nI 1) dL_law_750 (by decide) ?_
        refine tt_goto h 755 dL_law_751 (by decide) ?_
        refine tt_istore_n h [(2, .int (nI 1)), (14, .int (nI 0)), (11, .int a534_3), (13, .int (-1000001)), (12, .int (-1000001)), (0, .ref b), (1, .ref (g.1 144)), (3, .int (nI t)), (4, .int xv), (5, .int (nI v)), (6, .int (nI w)), (7, .int (nI N)), (8, .int (nI n)), (9, .int (coins X N)), (10, .int (nI K))] dL_law_755 rfl (by decide) rfl ?_
        refine tt_goto h 1135 dL_law_756 (by decide) ?_
        exact tt_lv (kk _ _ _ _ _ _ (Or.inl he) hW2) [5, 6, 0, 7, 9, 10, 2] rfl
    · clear hp
      obtain ⟨rfl, hnN2, h5, z2, u1, u2, e2, hK1, hKb, hrr, hj, hco, hvw⟩ := hOk
      exact absurd hnN2 (by omega)

set_option maxRecDepth 100000 in
set_option maxHeartbeats 16000000 in
theorem lc_hear {x : Ctx} {g : Geo} {l : Launch} {b t v w n N K B A s n1 n2 : Nat} {M : Nat → Nat → Int32} {P : Nat → Nat} {X : Nat → Int32} {xv : Int32} (hx : x.1.2.1 = l) (h : Tk x g (fun _ => True) n1 n2 cL_law 16 wsL_law RL room_1) (hv : v < 8192) (hw : w < 8192) (hn0 : N = 0 → n = 0) (hn1 : N ≠ 0 → n < N) (hA0 : 100000 ≤ A) (hA1 : A + 1 < 2 ^ 30) (hB1 : B + 9999 < 2 ^ 31) (hW : WI M P N K B A s) (hX : M (P 0) = X)
    (kk : ∀ (r : Int32) (M' : Nat → Nat → Int32) (P' : Nat → Nat) (N' K' s' : Nat), ErrP r ∨ OkP r → WI M' P' N' K' (B + 9999) (A + 1) s' → T x (fun _ => True) n1 n2 1135 [(0, .ref b), (1, .ref (g.1 144)), (2, .int (nI 1)), (3, .int (nI t)), (5, .int (nI v)), (6, .int (nI w)), (11, .int r)] [] M' P') : T x (fun _ => True) n1 n2 865 [(0, .ref b), (1, .ref (g.1 144)), (2, .int (nI 1)), (3, .int (nI t)), (4, .int xv), (5, .int (nI v)), (6, .int (nI w)), (7, .int (nI N)), (8, .int (nI n)), (9, .int (coins X N)), (10, .int (nI K)), (11, .int (nI 0))] [] M P := by
  have hN6 := hW.N6
  have hK12 := hW.K12
  have hI : InvC X N K B := hX ▸ hW.hI
  have hGd := hI.1.1
  have hnw0 := (show GI X N K B A from hX ▸ hW.hG).2.1
  refine tt_aload_n h 1 dL_law_865 rfl rfl ?_
  refine tt_iconst h (nI 0) dL_law_866 (by decide) ?_
  refine tt_callV h (As := [.int (nI 0)]) 1 hx (c_X5_docketAt hW.hP hW.hI) gL_law_X5_docketAt rfl ⟨rfl, rfl⟩ (by decide +kernel) rfl (by decide) (by decide) E_144 rfl rfl (Nat.le_of_ble_eq_true rfl) dL_law_867 (fun a867 M' P' hp => ?_)
  rw [hX] at hp
  obtain ⟨⟨rfl, rfl⟩, hQ⟩ := hp
  have hQ := dk_at (by decide) hQ
  cases hh : hd1 X K (nI 0) with
  | none =>
    rw [hh] at hQ
    subst hQ
    refine tt_istore h [(12, .int (-1000004)), (0, .ref b), (1, .ref (g.1 144)), (2, .int (nI 1)), (3, .int (nI t)), (4, .int xv), (5, .int (nI v)), (6, .int (nI w)), (7, .int (nI N)), (8, .int (nI n)), (9, .int (coins X N)), (10, .int (nI K)), (11, .int (nI 0))] dL_law_870 (by decide) rfl ?_
    refine tt_iload h 0 dL_law_872 rfl ?_
    refine tt_if_ge h 881 dL_law_874 (by decide) (fun c => absurd c (by decide)) (fun _ => ?_)
    refine tt_iconst h (nI 0) dL_law_877 (by decide) ?_
    refine tt_goto h 888 dL_law_878 (by decide) ?_
    refine tt_istore h [(13, .int (nI 0)), (12, .int (-1000004)), (0, .ref b), (1, .ref (g.1 144)), (2, .int (nI 1)), (3, .int (nI t)), (4, .int xv), (5, .int (nI v)), (6, .int (nI w)), (7, .int (nI N)), (8, .int (nI n)), (9, .int (coins X N)), (10, .int (nI K)), (11, .int (nI 0))] dL_law_888 (by decide) rfl ?_
    refine tt_iload h 1 dL_law_890 rfl ?_
    refine tt_if_ge h 899 dL_law_892 (by decide) (fun c => absurd c (by decide)) (fun _ => ?_)
    refine tt_iconst h (nI 0) dL_law_895 (by decide) ?_
    refine tt_goto h 914 dL_law_896 (by decide) ?_
    refine tt_istore h [(14, .int (nI 0)), (13, .int (nI 0)), (12, .int (-1000004)), (0, .ref b), (1, .ref (g.1 144)), (2, .int (nI 1)), (3, .int (nI t)), (4, .int xv), (5, .int (nI v)), (6, .int (nI w)), (7, .int (nI N)), (8, .int (nI n)), (9, .int (coins X N)), (10, .int (nI K)), (11, .int (nI 0))] dL_law_914 (by decide) rfl ?_
    refine tt_iload h 2 dL_law_916 rfl ?_
    refine tt_if_ge h 925 dL_law_918 (by decide) (fun c => absurd c (by decide)) (fun _ => ?_)
    refine tt_iconst h (nI 0) dL_law_921 (by decide) ?_
    refine tt_goto h 932 dL_law_922 (by decide) ?_
    refine tt_istore h [(15, .int (nI 0)), (14, .int (nI 0)), (13, .int (nI 0)), (12, .int (-1000004)), (0, .ref b), (1, .ref (g.1 144)), (2, .int (nI 1)), (3, .int (nI t)), (4, .int xv), (5, .int (nI v)), (6, .int (nI w)), (7, .int (nI N)), (8, .int (nI n)), (9, .int (coins X N)), (10, .int (nI K)), (11, .int (nI 0))] dL_law_932 (by decide) rfl ?_
    refine tt_aload_n h 5 dL_law_934 rfl rfl ?_
    refine tt_callV h (As := []) 0 hx (c_X5_hear hW.hP hW.hI hW.hs hW.hs4) gL_law_X5_hear rfl ⟨rfl, rfl⟩ (by decide +kernel) rfl (by decide) (by decide) E_144 rfl rfl (Nat.le_of_ble_eq_true rfl) dL_law_935 (fun a935 M935_ P935_ hp => ?_)
    rw [hX] at hp
    rcases tr_step (Q := fun Y r X' => hearQ bC eC Y N K r X') hW hX hA1 hB1 hp (q_hear hA1 hB1) with ⟨he, hEr, hPe, hW2, hX2⟩ | ⟨hok, N1, K1, X1, hW1, hX1, hOk⟩
    · subst hPe
      clear hp
      refine tt_istore h [(11, .int a935), (15, .int (nI 0)), (14, .int (nI 0)), (13, .int (nI 0)), (12, .int (-1000004)), (0, .ref b), (1, .ref (g.1 144)), (2, .int (nI 1)), (3, .int (nI t)), (4, .int xv), (5, .int (nI v)), (6, .int (nI w)), (7, .int (nI N)), (8, .int (nI n)), (9, .int (coins X N)), (10, .int (nI K))] dL_law_938 (by decide) rfl ?_
      refine tt_iload h 0 dL_law_940 rfl ?_
      refine tt_if_ge h 958 dL_law_942 (by decide) (fun c_942 => by exfalso; exact Int32.not_lt.mpr c_942 he.neg) (fun c_942 => ?_)
      refine tt_iload h 4 dL_law_945 rfl ?_
      refine tt_if_ge h 954 dL_law_947 (by decide) (fun c => absurd c (by decide)) (fun _ => ?_)
      refine tt_iconst h (nI 1) dL_law_950 (by decide) ?_
      refine tt_goto h 1031 dL_law_951 (by decide) ?_
      refine tt_istore_n h [(2, .int (nI 1)), (11, .int a935), (15, .int (nI 0)), (14, .int (nI 0)), (13, .int (nI 0)), (12, .int (-1000004)), (0, .ref b), (1, .ref (g.1 144)), (3, .int (nI t)), (4, .int xv), (5, .int (nI v)), (6, .int (nI w)), (7, .int (nI N)), (8, .int (nI n)), (9, .int (coins X N)), (10, .int (nI K))] dL_law_1031 rfl (by decide) rfl ?_
      refine tt_goto h 1135 dL_law_1032 (by decide) ?_
      exact tt_lv (kk _ _ _ _ _ _ (Or.inl he) hW2) [6, 7, 0, 8, 10, 11, 1] rfl
    · clear hp
      obtain ⟨rfl, rfl, i2, d2, h1, hi2, ed2, hd2, hr, h2, h3, hco⟩ := hOk
      rw [hh] at h1
      cases h1
  | some i =>
    rw [hh] at hQ
    subst hQ
    have hiK := hd1_lt hh
    obtain ⟨p9, d, c9, q9, -, ed, -, hdN, -⟩ := (show GI X N K B A from hX ▸ hW.hG).2.2.1.choose_spec.2.2.2 i hiK
    obtain ⟨pu, hpu, hpB⟩ := hI.1.2.2.2.2.1
    have hBB := hI.1.2.2.2.2.2
    have hpd := le_sumN (f := pu) hdN
    refine tt_istore h [(12, .int (nI i)), (0, .ref b), (1, .ref (g.1 144)), (2, .int (nI 1)), (3, .int (nI t)), (4, .int xv), (5, .int (nI v)), (6, .int (nI w)), (7, .int (nI N)), (8, .int (nI n)), (9, .int (coins X N)), (10, .int (nI K)), (11, .int (nI 0))] dL_law_870 (by decide) rfl ?_
    refine tt_iload h 0 dL_law_872 rfl ?_
    refine tt_if_ge_n h 881 dL_law_874 (by decide) (by first | omega | exact jN_lt | exact cnt_lt31 (by omega) | exact pri_lt hGd | exact Nat.lt_of_lt_of_le (vicE_lt hN6) (by decide)) ?_
    refine tt_aload_n h 2 dL_law_881 rfl rfl ?_
    refine tt_iload h 0 dL_law_882 rfl ?_
    refine tt_iconst h (nI 1) dL_law_884 (by decide) ?_
    refine tt_callV h (As := [.int (nI i), .int (nI 1)]) 2 hx (c_X5_claimOf hW.hP hW.hI) gL_law_X5_claimOf rfl ⟨rfl, rfl⟩ (by decide +kernel) rfl (by decide) (by decide) E_144 rfl rfl (Nat.le_of_ble_eq_true rfl) dL_law_885 (fun a885 M' P' hp => ?_)
    rw [hX] at hp
    obtain ⟨⟨rfl, rfl⟩, hQ⟩ := hp
    have hz := (clm_at (i := i) (j := 1) hK12 hiK (by omega) hQ).trans ed
    clear hQ
    subst hz
    refine tt_istore h [(13, .int (nI d)), (12, .int (nI i)), (0, .ref b), (1, .ref (g.1 144)), (2, .int (nI 1)), (3, .int (nI t)), (4, .int xv), (5, .int (nI v)), (6, .int (nI w)), (7, .int (nI N)), (8, .int (nI n)), (9, .int (coins X N)), (10, .int (nI K)), (11, .int (nI 0))] dL_law_888 (by decide) rfl ?_
    refine tt_iload h 1 dL_law_890 rfl ?_
    refine tt_if_ge_n h 899 dL_law_892 (by decide) (by first | omega | exact jN_lt | exact cnt_lt31 (by omega) | exact pri_lt hGd | exact Nat.lt_of_lt_of_le (vicE_lt hN6) (by decide)) ?_
    refine tt_aload_n h 3 dL_law_899 rfl rfl ?_
    refine tt_iload h 1 dL_law_900 rfl ?_
    refine tt_iconst h (nI 5) dL_law_902 (by decide) ?_
    refine tt_callV h (As := [.int (nI i), .int (nI 5)]) 2 hx (c_X5_claimOf hW.hP hW.hI) gL_law_X5_claimOf rfl ⟨rfl, rfl⟩ (by decide +kernel) rfl (by decide) (by decide) E_144 rfl rfl (Nat.le_of_ble_eq_true rfl) dL_law_903 (fun a903 M' P' hp => ?_)
    rw [hX] at hp
    obtain ⟨⟨rfl, rfl⟩, hQ⟩ := hp
    have hz := clm_at (i := i) (j := 5) hK12 hiK (by omega) hQ
    clear hQ
    subst hz
    refine tt_aload_n h 3 dL_law_906 rfl rfl ?_
    refine tt_iload h 1 dL_law_907 rfl ?_
    refine tt_iconst h (nI 4) dL_law_909 (by decide) ?_
    refine tt_callV h (As := [.int (nI i), .int (nI 4)]) 2 hx (c_X5_claimOf hW.hP hW.hI) gL_law_X5_claimOf rfl ⟨rfl, rfl⟩ (by decide +kernel) rfl (by decide) (by decide) E_144 rfl rfl (Nat.le_of_ble_eq_true rfl) dL_law_910 (fun a910 M' P' hp => ?_)
    rw [hX] at hp
    obtain ⟨⟨rfl, rfl⟩, hQ⟩ := hp
    have hz := clm_at (i := i) (j := 4) hK12 hiK (by omega) hQ
    clear hQ
    subst hz
    refine tt_isub h dL_law_913 ?_
    refine tt_istore h [(14, .int ((lossX X i) - (X (223 + 13 * i + 4)))), (13, .int (nI d)), (12, .int (nI i)), (0, .ref b), (1, .ref (g.1 144)), (2, .int (nI 1)), (3, .int (nI t)), (4, .int xv), (5, .int (nI v)), (6, .int (nI w)), (7, .int (nI N)), (8, .int (nI n)), (9, .int (coins X N)), (10, .int (nI K)), (11, .int (nI 0))] dL_law_914 (by decide) rfl ?_
    refine tt_iload h 2 dL_law_916 rfl ?_
    refine tt_if_ge_n h 925 dL_law_918 (by decide) (by first | omega | exact jN_lt | exact cnt_lt31 (by omega) | exact pri_lt hGd | exact Nat.lt_of_lt_of_le (vicE_lt hN6) (by decide)) ?_
    refine tt_aload_n h 4 dL_law_925 rfl rfl ?_
    refine tt_iload h 1 dL_law_926 rfl ?_
    refine tt_iconst h (nI 4) dL_law_928 (by decide) ?_
    refine tt_callV h (As := [.int (nI d), .int (nI 4)]) 2 hx (c_X5_netOf hW.hP hW.hI) gL_law_X5_netOf rfl ⟨rfl, rfl⟩ (by decide +kernel) rfl (by decide) (by decide) E_144 rfl rfl (Nat.le_of_ble_eq_true rfl) dL_law_929 (fun a929 M' P' hp => ?_)
    rw [hX] at hp
    obtain ⟨⟨rfl, rfl⟩, hQ⟩ := hp
    have hz := (net_at (k := d) (j := 4) hN6 hdN (by omega) hQ).trans (hpu d hdN)
    clear hQ
    subst hz
    refine tt_istore h [(15, .int (nI (pu d))), (14, .int ((lossX X i) - (X (223 + 13 * i + 4)))), (13, .int (nI d)), (12, .int (nI i)), (0, .ref b), (1, .ref (g.1 144)), (2, .int (nI 1)), (3, .int (nI t)), (4, .int xv), (5, .int (nI v)), (6, .int (nI w)), (7, .int (nI N)), (8, .int (nI n)), (9, .int (coins X N)), (10, .int (nI K)), (11, .int (nI 0))] dL_law_932 (by decide) rfl ?_
    refine tt_aload_n h 5 dL_law_934 rfl rfl ?_
    refine tt_callV h (As := []) 0 hx (c_X5_hear hW.hP hW.hI hW.hs hW.hs4) gL_law_X5_hear rfl ⟨rfl, rfl⟩ (by decide +kernel) rfl (by decide) (by decide) E_144 rfl rfl (Nat.le_of_ble_eq_true rfl) dL_law_935 (fun a935_1 M935_1_ P935_1_ hp => ?_)
    rw [hX] at hp
    rcases tr_step (Q := fun Y r X' => hearQ bC eC Y N K r X') hW hX hA1 hB1 hp (q_hear hA1 hB1) with ⟨he, hEr, hPe, hW2, hX2⟩ | ⟨hok, N1, K1, X1, hW1, hX1, hOk⟩
    · subst hPe
      clear hp
      rw [hh] at hEr
      cases hEr
    · clear hp
      obtain ⟨rfl, rfl, i2, d2, h1, hi2, ed2, hd2, hr, h2, h3, hco⟩ := hOk
      rw [hh] at h1
      obtain rfl : i = i2 := Option.some.inj h1
      obtain rfl : d = d2 := (nI_eq (by omega) (by omega)).mp (ed.symm.trans ed2)
      rw [hpu d hdN] at hr
      refine tt_istore h [(11, .int a935_1), (15, .int (nI (pu d))), (14, .int ((lossX X i) - (X (223 + 13 * i + 4)))), (13, .int (nI d)), (12, .int (nI i)), (0, .ref b), (1, .ref (g.1 144)), (2, .int (nI 1)), (3, .int (nI t)), (4, .int xv), (5, .int (nI v)), (6, .int (nI w)), (7, .int (nI N)), (8, .int (nI n)), (9, .int (coins X N)), (10, .int (nI K))] dL_law_938 (by decide) rfl ?_
      refine tt_iload h 0 dL_law_940 rfl ?_
      refine tt_if_ge h 958 dL_law_942 (by decide) (fun c_942 => ?_) (fun c_942 => by exfalso; exact hok.pos (Int32.not_le.mp c_942))
      refine tt_iload h 0 dL_law_958 rfl ?_
      refine tt_iload h 2 dL_law_960 rfl ?_
      refine tt_if_ge h 969 dL_law_962 (by decide) (fun c_962 => ?_) (fun c_962 => ?_)
      · -- 962 true
        refine tt_iload h 2 dL_law_969 rfl ?_
        refine tt_iload h 1 dL_law_971 rfl ?_
        refine tt_icmp_ge h 981 dL_law_973 (by decide) (fun c_973 => ?_) (fun c_973 => ?_)
        · -- 973 true
          refine tt_iload h 1 dL_law_981 rfl ?_
          refine tt_icmp_ne h 1030 dL_law_983 (by decide) (fun c_983 => by exfalso; exact c_983 (hr.trans (pay_hi (nI_pos (by omega)) (Int32.not_lt.mpr c_962) (Int32.not_lt.mpr c_973)))) (fun c_983 => ?_)
          refine tt_aload_n h 6 dL_law_986 rfl rfl ?_
          refine tt_iload h 4 dL_law_987 rfl ?_
          refine tt_bipush h (nI 6) dL_law_989 (by decide) ?_
          refine tt_callV h (As := [.int (nI i), .int (nI 6)]) 2 hx (c_X5_claimOf hW1.hP hW1.hI) gL_law_X5_claimOf rfl ⟨rfl, rfl⟩ (by decide +kernel) rfl (by decide) (by decide) E_144 rfl rfl (Nat.le_of_ble_eq_true rfl) dL_law_991 (fun a991 M' P' hp => ?_)
          rw [hX1] at hp
          obtain ⟨⟨rfl, rfl⟩, hQ⟩ := hp
          have hz := (clm_at (i := i) (j := 6) hK12 hiK (by omega) hQ).trans h2
          clear hQ
          subst hz
          refine tt_iconst h (nI 2) dL_law_994 (by decide) ?_
          refine tt_icmp_ne h 1030 dL_law_995 (by decide) (fun c => absurd c (by decide)) (fun _ => ?_)
          refine tt_iload h 0 dL_law_998 rfl ?_
          refine tt_iload h 2 dL_law_1000 rfl ?_
          refine tt_icmp_ge h 1015 dL_law_1002 (by decide) (fun c_1002 => ?_) (fun c_1002 => ?_)
          · -- 1002 true
            refine tt_aload_n h 6 dL_law_1015 rfl rfl ?_
            refine tt_bipush h (nI 7) dL_law_1016 (by decide) ?_
            refine tt_callV h (As := [.int (nI 7)]) 1 hx (c_X5_count hW1.hP hW1.hI hW1.hs hW1.hs4 hW1.hln) gL_law_X5_count rfl ⟨rfl, rfl⟩ (by decide +kernel) rfl (by decide) (by decide) E_144 rfl rfl (Nat.le_of_ble_eq_true rfl) dL_law_1018 (fun a1018 M' P' hp => ?_)
            rw [hX1] at hp
            obtain ⟨⟨rfl, rfl⟩, hQ⟩ := hp
            have hz := cnt_at (j := 7) (by omega) (by omega) (by omega) hQ
            clear hQ
            subst hz
            refine tt_top (coins X N) (show coins X1 N = coins X N from hco) ?_
            refine tt_iload h 14 dL_law_1021 rfl ?_
            refine tt_icmp_ne h 1030 dL_law_1023 (by decide) (fun c_1023 => by exfalso; exact c_1023 rfl) (fun c_1023 => ?_)
            refine tt_iconst h (nI 1) dL_law_1026 (by decide) ?_
            refine tt_goto h 1031 dL_law_1027 (by decide) ?_
            refine tt_istore_n h [(2, .int (nI 1)), (11, .int a935_1), (15, .int (nI (pu d))), (14, .int ((lossX X i) - (X (223 + 13 * i + 4)))), (13, .int (nI d)), (12, .int (nI i)), (0, .ref b), (1, .ref (g.1 144)), (3, .int (nI t)), (4, .int xv), (5, .int (nI v)), (6, .int (nI w)), (7, .int (nI N)), (8, .int (nI n)), (9, .int (coins X N)), (10, .int (nI K))] dL_law_1031 rfl (by decide) rfl ?_
            refine tt_goto h 1135 dL_law_1032 (by decide) ?_
            exact tt_lv (kk _ _ _ _ _ _ (Or.inr hok) hW1) [6, 7, 0, 8, 10, 11, 1] rfl
          · -- 1002 false
            refine tt_aload_n h 6 dL_law_1005 rfl rfl ?_
            refine tt_iload h 3 dL_law_1006 rfl ?_
            refine tt_iconst h (nI 5) dL_law_1008 (by decide) ?_
            refine tt_callV h (As := [.int (nI d), .int (nI 5)]) 2 hx (c_X5_netOf hW1.hP hW1.hI) gL_law_X5_netOf rfl ⟨rfl, rfl⟩ (by decide +kernel) rfl (by decide) (by decide) E_144 rfl rfl (Nat.le_of_ble_eq_true rfl) dL_law_1009 (fun a1009 M' P' hp => ?_)
            rw [hX1] at hp
            obtain ⟨⟨rfl, rfl⟩, hQ⟩ := hp
            have hz := (net_at (k := d) (j := 5) hW1.N6 (by omega) (by omega) hQ).trans (fNet5 X1 d)
            clear hQ
            subst hz
            refine tt_if_ne_n h 1030 dL_law_1012 (by decide) (by first | omega | exact jN_lt | exact cnt_lt31 (by omega) | exact pri_lt hGd | exact Nat.lt_of_lt_of_le (vicE_lt hN6) (by decide)) (fun c_1012 => by exfalso; exact h3.elim (fun q => q (Int32.not_le.mp c_1002)) c_1012) (fun c_1012 => ?_)
            refine tt_aload_n h 6 dL_law_1015 rfl rfl ?_
            refine tt_bipush h (nI 7) dL_law_1016 (by decide) ?_
            refine tt_callV h (As := [.int (nI 7)]) 1 hx (c_X5_count hW1.hP hW1.hI hW1.hs hW1.hs4 hW1.hln) gL_law_X5_count rfl ⟨rfl, rfl⟩ (by decide +kernel) rfl (by decide) (by decide) E_144 rfl rfl (Nat.le_of_ble_eq_true rfl) dL_law_1018 (fun a1018_1 M' P' hp => ?_)
            rw [hX1] at hp
            obtain ⟨⟨rfl, rfl⟩, hQ⟩ := hp
            have hz := cnt_at (j := 7) (by omega) (by omega) (by omega) hQ
            clear hQ
            subst hz
            refine tt_top (coins X N) (show coins X1 N = coins X N from hco) ?_
            refine tt_iload h 14 dL_law_1021 rfl ?_
            refine tt_icmp_ne h 1030 dL_law_1023 (by decide) (fun c_1023 => by exfalso; exact c_1023 rfl) (fun c_1023 => ?_)
            refine tt_iconst h (nI 1) dL_law_1026 (by decide) ?_
            refine tt_goto h 1031 dL_law_1027 (by decide) ?_
            refine tt_istore_n h [(2, .int (nI 1)), (11, .int a935_1), (15, .int (nI (pu d))), (14, .int ((lossX X i) - (X (223 + 13 * i + 4)))), (13, .int (nI d)), (12, .int (nI i)), (0, .ref b), (1, .ref (g.1 144)), (3, .int (nI t)), (4, .int xv), (5, .int (nI v)), (6, .int (nI w)), (7, .int (nI N)), (8, .int (nI n)), (9, .int (coins X N)), (10, .int (nI K))] dL_law_1031 rfl (by decide) rfl ?_
            refine tt_goto h 1135 dL_law_1032 (by decide) ?_
            exact tt_lv (kk _ _ _ _ _ _ (Or.inr hok) hW1) [6, 7, 0, 8, 10, 11, 1] rfl
        · -- 973 false
          refine tt_iload h 2 dL_law_976 rfl ?_
          refine tt_goto h 983 dL_law_978 (by decide) ?_
          refine tt_icmp_ne h 1030 dL_law_983 (by decide) (fun c_983 => by exfalso; exact c_983 (hr.trans (pay_mid (Int32.not_lt.mpr c_962) (Int32.not_le.mp c_973)))) (fun c_983 => ?_)
          refine tt_aload_n h 6 dL_law_986 rfl rfl ?_
          refine tt_iload h 4 dL_law_987 rfl ?_
          refine tt_bipush h (nI 6) dL_law_989 (by decide) ?_
          refine tt_callV h (As := [.int (nI i), .int (nI 6)]) 2 hx (c_X5_claimOf hW1.hP hW1.hI) gL_law_X5_claimOf rfl ⟨rfl, rfl⟩ (by decide +kernel) rfl (by decide) (by decide) E_144 rfl rfl (Nat.le_of_ble_eq_true rfl) dL_law_991 (fun a991_1 M' P' hp => ?_)
          rw [hX1] at hp
          obtain ⟨⟨rfl, rfl⟩, hQ⟩ := hp
          have hz := (clm_at (i := i) (j := 6) hK12 hiK (by omega) hQ).trans h2
          clear hQ
          subst hz
          refine tt_iconst h (nI 2) dL_law_994 (by decide) ?_
          refine tt_icmp_ne h 1030 dL_law_995 (by decide) (fun c => absurd c (by decide)) (fun _ => ?_)
          refine tt_iload h 0 dL_law_998 rfl ?_
          refine tt_iload h 2 dL_law_1000 rfl ?_
          refine tt_icmp_ge h 1015 dL_law_1002 (by decide) (fun c_1002 => ?_) (fun c_1002 => ?_)
          · -- 1002 true
            refine tt_aload_n h 6 dL_law_1015 rfl rfl ?_
            refine tt_bipush h (nI 7) dL_law_1016 (by decide) ?_
            refine tt_callV h (As := [.int (nI 7)]) 1 hx (c_X5_count hW1.hP hW1.hI hW1.hs hW1.hs4 hW1.hln) gL_law_X5_count rfl ⟨rfl, rfl⟩ (by decide +kernel) rfl (by decide) (by decide) E_144 rfl rfl (Nat.le_of_ble_eq_true rfl) dL_law_1018 (fun a1018_2 M' P' hp => ?_)
            rw [hX1] at hp
            obtain ⟨⟨rfl, rfl⟩, hQ⟩ := hp
            have hz := cnt_at (j := 7) (by omega) (by omega) (by omega) hQ
            clear hQ
            subst hz
            refine tt_top (coins X N) (show coins X1 N = coins X N from hco) ?_
            refine tt_iload h 14 dL_law_1021 rfl ?_
            refine tt_icmp_ne h 1030 dL_law_1023 (by decide) (fun c_1023 => by exfalso; exact c_1023 rfl) (fun c_1023 => ?_)
            refine tt_iconst h (nI 1) dL_law_1026 (by decide) ?_
            refine tt_goto h 1031 dL_law_1027 (by decide) ?_
            refine tt_istore_n h [(2, .int (nI 1)), (11, .int a935_1), (15, .int (nI (pu d))), (14, .int ((lossX X i) - (X (223 + 13 * i + 4)))), (13, .int (nI d)), (12, .int (nI i)), (0, .ref b), (1, .ref (g.1 144)), (3, .int (nI t)), (4, .int xv), (5, .int (nI v)), (6, .int (nI w)), (7, .int (nI N)), (8, .int (nI n)), (9, .int (coins X N)), (10, .int (nI K))] dL_law_1031 rfl (by decide) rfl ?_
            refine tt_goto h 1135 dL_law_1032 (by decide) ?_
            exact tt_lv (kk _ _ _ _ _ _ (Or.inr hok) hW1) [6, 7, 0, 8, 10, 11, 1] rfl
          · -- 1002 false
            refine tt_aload_n h 6 dL_law_1005 rfl rfl ?_
            refine tt_iload h 3 dL_law_1006 rfl ?_
            refine tt_iconst h (nI 5) dL_law_1008 (by decide) ?_
            refine tt_callV h (As := [.int (nI d), .int (nI 5)]) 2 hx (c_X5_netOf hW1.hP hW1.hI) gL_law_X5_netOf rfl ⟨rfl, rfl⟩ (by decide +kernel) rfl (by decide) (by decide) E_144 rfl rfl (Nat.le_of_ble_eq_true rfl) dL_law_1009 (fun a1009_1 M' P' hp => ?_)
            rw [hX1] at hp
            obtain ⟨⟨rfl, rfl⟩, hQ⟩ := hp
            have hz := (net_at (k := d) (j := 5) hW1.N6 (by omega) (by omega) hQ).trans (fNet5 X1 d)
            clear hQ
            subst hz
            refine tt_if_ne_n h 1030 dL_law_1012 (by decide) (by first | omega | exact jN_lt | exact cnt_lt31 (by omega) | exact pri_lt hGd | exact Nat.lt_of_lt_of_le (vicE_lt hN6) (by decide)) (fun c_1012 => by exfalso; exact h3.elim (fun q => q (Int32.not_le.mp c_1002)) c_1012) (fun c_1012 => ?_)
            refine tt_aload_n h 6 dL_law_1015 rfl rfl ?_
            refine tt_bipush h (nI 7) dL_law_1016 (by decide) ?_
            refine tt_callV h (As := [.int (nI 7)]) 1 hx (c_X5_count hW1.hP hW1.hI hW1.hs hW1.hs4 hW1.hln) gL_law_X5_count rfl ⟨rfl, rfl⟩ (by decide +kernel) rfl (by decide) (by decide) E_144 rfl rfl (Nat.le_of_ble_eq_true rfl) dL_law_1018 (fun a1018_3 M' P' hp => ?_)
            rw [hX1] at hp
            obtain ⟨⟨rfl, rfl⟩, hQ⟩ := hp
            have hz := cnt_at (j := 7) (by omega) (by omega) (by omega) hQ
            clear hQ
            subst hz
            refine tt_top (coins X N) (show coins X1 N = coins X N from hco) ?_
            refine tt_iload h 14 dL_law_1021 rfl ?_
            refine tt_icmp_ne h 1030 dL_law_1023 (by decide) (fun c_1023 => by exfalso; exact c_1023 rfl) (fun c_1023 => ?_)
            refine tt_iconst h (nI 1) dL_law_1026 (by decide) ?_
            refine tt_goto h 1031 dL_law_1027 (by decide) ?_
            refine tt_istore_n h [(2, .int (nI 1)), (11, .int a935_1), (15, .int (nI (pu d))), (14, .int ((lossX X i) - (X (223 + 13 * i + 4)))), (13, .int (nI d)), (12, .int (nI i)), (0, .ref b), (1, .ref (g.1 144)), (3, .int (nI t)), (4, .int xv), (5, .int (nI v)), (6, .int (nI w)), (7, .int (nI N)), (8, .int (nI n)), (9, .int (coins X N)), (10, .int (nI K))] dL_law_1031 rfl (by decide) rfl ?_
            refine tt_goto h 1135 dL_law_1032 (by decide) ?_
            exact tt_lv (kk _ _ _ _ _ _ (Or.inr hok) hW1) [6, 7, 0, 8, 10, 11, 1] rfl
      · -- 962 false
        refine tt_iconst h (nI 0) dL_law_965 (by decide) ?_
        refine tt_goto h 983 dL_law_966 (by decide) ?_
        refine tt_icmp_ne h 1030 dL_law_983 (by decide) (fun c_983 => by exfalso; exact c_983 (hr.trans ((pay_lo (Int32.not_le.mp c_962)).trans nI_0.symm))) (fun c_983 => ?_)
        refine tt_aload_n h 6 dL_law_986 rfl rfl ?_
        refine tt_iload h 4 dL_law_987 rfl ?_
        refine tt_bipush h (nI 6) dL_law_989 (by decide) ?_
        refine tt_callV h (As := [.int (nI i), .int (nI 6)]) 2 hx (c_X5_claimOf hW1.hP hW1.hI) gL_law_X5_claimOf rfl ⟨rfl, rfl⟩ (by decide +kernel) rfl (by decide) (by decide) E_144 rfl rfl (Nat.le_of_ble_eq_true rfl) dL_law_991 (fun a991_2 M' P' hp => ?_)
        rw [hX1] at hp
        obtain ⟨⟨rfl, rfl⟩, hQ⟩ := hp
        have hz := (clm_at (i := i) (j := 6) hK12 hiK (by omega) hQ).trans h2
        clear hQ
        subst hz
        refine tt_iconst h (nI 2) dL_law_994 (by decide) ?_
        refine tt_icmp_ne h 1030 dL_law_995 (by decide) (fun c => absurd c (by decide)) (fun _ => ?_)
        refine tt_iload h 0 dL_law_998 rfl ?_
        refine tt_iload h 2 dL_law_1000 rfl ?_
        refine tt_icmp_ge h 1015 dL_law_1002 (by decide) (fun c_1002 => ?_) (fun c_1002 => ?_)
        · -- 1002 true
          refine tt_aload_n h 6 dL_law_1015 rfl rfl ?_
          refine tt_bipush h (nI 7) dL_law_1016 (by decide) ?_
          refine tt_callV h (As := [.int (nI 7)]) 1 hx (c_X5_count hW1.hP hW1.hI hW1.hs hW1.hs4 hW1.hln) gL_law_X5_count rfl ⟨rfl, rfl⟩ (by decide +kernel) rfl (by decide) (by decide) E_144 rfl rfl (Nat.le_of_ble_eq_true rfl) dL_law_1018 (fun a1018_4 M' P' hp => ?_)
          rw [hX1] at hp
          obtain ⟨⟨rfl, rfl⟩, hQ⟩ := hp
          have hz := cnt_at (j := 7) (by omega) (by omega) (by omega) hQ
          clear hQ
          subst hz
          refine tt_top (coins X N) (show coins X1 N = coins X N from hco) ?_
          refine tt_iload h 14 dL_law_1021 rfl ?_
          refine tt_icmp_ne h 1030 dL_law_1023 (by decide) (fun c_1023 => by exfalso; exact c_1023 rfl) (fun c_1023 => ?_)
          refine tt_iconst h (nI 1) dL_law_1026 (by decide) ?_
          refine tt_goto h 1031 dL_law_1027 (by decide) ?_
          refine tt_istore_n h [(2, .int (nI 1)), (11, .int a935_1), (15, .int (nI (pu d))), (14, .int ((lossX X i) - (X (223 + 13 * i + 4)))), (13, .int (nI d)), (12, .int (nI i)), (0, .ref b), (1, .ref (g.1 144)), (3, .int (nI t)), (4, .int xv), (5, .int (nI v)), (6, .int (nI w)), (7, .int (nI N)), (8, .int (nI n)), (9, .int (coins X N)), (10, .int (nI K))] dL_law_1031 rfl (by decide) rfl ?_
          refine tt_goto h 1135 dL_law_1032 (by decide) ?_
          exact tt_lv (kk _ _ _ _ _ _ (Or.inr hok) hW1) [6, 7, 0, 8, 10, 11, 1] rfl
        · -- 1002 false
          refine tt_aload_n h 6 dL_law_1005 rfl rfl ?_
          refine tt_iload h 3 dL_law_1006 rfl ?_
          refine tt_iconst h (nI 5) dL_law_1008 (by decide) ?_
          refine tt_callV h (As := [.int (nI d), .int (nI 5)]) 2 hx (c_X5_netOf hW1.hP hW1.hI) gL_law_X5_netOf rfl ⟨rfl, rfl⟩ (by decide +kernel) rfl (by decide) (by decide) E_144 rfl rfl (Nat.le_of_ble_eq_true rfl) dL_law_1009 (fun a1009_2 M' P' hp => ?_)
          rw [hX1] at hp
          obtain ⟨⟨rfl, rfl⟩, hQ⟩ := hp
          have hz := (net_at (k := d) (j := 5) hW1.N6 (by omega) (by omega) hQ).trans (fNet5 X1 d)
          clear hQ
          subst hz
          refine tt_if_ne_n h 1030 dL_law_1012 (by decide) (by first | omega | exact jN_lt | exact cnt_lt31 (by omega) | exact pri_lt hGd | exact Nat.lt_of_lt_of_le (vicE_lt hN6) (by decide)) (fun c_1012 => by exfalso; exact h3.elim (fun q => q (Int32.not_le.mp c_1002)) c_1012) (fun c_1012 => ?_)
          refine tt_aload_n h 6 dL_law_1015 rfl rfl ?_
          refine tt_bipush h (nI 7) dL_law_1016 (by decide) ?_
          refine tt_callV h (As := [.int (nI 7)]) 1 hx (c_X5_count hW1.hP hW1.hI hW1.hs hW1.hs4 hW1.hln) gL_law_X5_count rfl ⟨rfl, rfl⟩ (by decide +kernel) rfl (by decide) (by decide) E_144 rfl rfl (Nat.le_of_ble_eq_true rfl) dL_law_1018 (fun a1018_5 M' P' hp => ?_)
          rw [hX1] at hp
          obtain ⟨⟨rfl, rfl⟩, hQ⟩ := hp
          have hz := cnt_at (j := 7) (by omega) (by omega) (by omega) hQ
          clear hQ
          subst hz
          refine tt_top (coins X N) (show coins X1 N = coins X N from hco) ?_
          refine tt_iload h 14 dL_law_1021 rfl ?_
          refine tt_icmp_ne h 1030 dL_law_1023 (by decide) (fun c_1023 => by exfalso; exact c_1023 rfl) (fun c_1023 => ?_)
          refine tt_iconst h (nI 1) dL_law_1026 (by decide) ?_
          refine tt_goto h 1031 dL_law_1027 (by decide) ?_
          refine tt_istore_n h [(2, .int (nI 1)), (11, .int a935_1), (15, .int (nI (pu d))), (14, .int ((lossX X i) - (X (223 + 13 * i + 4)))), (13, .int (nI d)), (12, .int (nI i)), (0, .ref b), (1, .ref (g.1 144)), (3, .int (nI t)), (4, .int xv), (5, .int (nI v)), (6, .int (nI w)), (7, .int (nI N)), (8, .int (nI n)), (9, .int (coins X N)), (10, .int (nI K))] dL_law_1031 rfl (by decide) rfl ?_
          refine tt_goto h 1135 dL_law_1032 (by decide) ?_
          exact tt_lv (kk _ _ _ _ _ _ (Or.inr hok) hW1) [6, 7, 0, 8, 10, 11, 1] rfl

set_option maxRecDepth 100000 in
set_option maxHeartbeats 16000000 in
theorem lc_undo {x : Ctx} {g : Geo} {l : Launch} {b t v w n N K B A s n1 n2 : Nat} {M : Nat → Nat → Int32} {P : Nat → Nat} {X : Nat → Int32} {xv : Int32} (hx : x.1.2.1 = l) (h : Tk x g (fun _ => True) n1 n2 cL_law 16 wsL_law RL room_1) (hv : v < 8192) (hw : w < 8192) (hn0 : N = 0 → n = 0) (hn1 : N ≠ 0 → n < N) (hA0 : 100000 ≤ A) (hA1 : A + 1 < 2 ^ 30) (hB1 : B + 9999 < 2 ^ 31) (hW : WI M P N K B A s) (hX : M (P 0) = X)
    (kk : ∀ (r : Int32) (M' : Nat → Nat → Int32) (P' : Nat → Nat) (N' K' s' : Nat), ErrP r ∨ OkP r → WI M' P' N' K' (B + 9999) (A + 1) s' → T x (fun _ => True) n1 n2 1135 [(0, .ref b), (1, .ref (g.1 144)), (2, .int (nI 1)), (3, .int (nI t)), (5, .int (nI v)), (6, .int (nI w)), (11, .int r)] [] M' P') : T x (fun _ => True) n1 n2 1093 [(0, .ref b), (1, .ref (g.1 144)), (2, .int (nI 1)), (3, .int (nI t)), (4, .int xv), (5, .int (nI v)), (6, .int (nI w)), (7, .int (nI N)), (8, .int (nI n)), (9, .int (coins X N)), (10, .int (nI K)), (11, .int (nI 0))] [] M P := by
  have hN6 := hW.N6
  have hK12 := hW.K12
  have hI : InvC X N K B := hX ▸ hW.hI
  have hGd := hI.1.1
  have hnw0 := (show GI X N K B A from hX ▸ hW.hG).2.1
  refine tt_aload_n h 1 dL_law_1093 rfl rfl ?_
  have hs4 := hW.hs4
  refine tt_bipush h (nI 10) dL_law_1094 (by decide) ?_
  refine tt_callV h (As := [.int (nI 10)]) 1 hx (c_X5_count hW.hP hW.hI hW.hs hW.hs4 hW.hln) gL_law_X5_count rfl ⟨rfl, rfl⟩ (by decide +kernel) rfl (by decide) (by decide) E_144 rfl rfl (Nat.le_of_ble_eq_true rfl) dL_law_1096 (fun a1096 M' P' hp => ?_)
  rw [hX] at hp
  obtain ⟨⟨rfl, rfl⟩, hQ⟩ := hp
  have hz := cnt_10 hQ
  clear hQ
  subst hz
  refine tt_istore h [(12, .int (nI s)), (0, .ref b), (1, .ref (g.1 144)), (2, .int (nI 1)), (3, .int (nI t)), (4, .int xv), (5, .int (nI v)), (6, .int (nI w)), (7, .int (nI N)), (8, .int (nI n)), (9, .int (coins X N)), (10, .int (nI K)), (11, .int (nI 0))] dL_law_1099 (by decide) rfl ?_
  refine tt_aload_n h 2 dL_law_1101 rfl rfl ?_
  refine tt_callV h (As := []) 0 hx (c_X5_undo hW.hP hW.hs hW.hs4) gL_law_X5_undo rfl ⟨rfl, rfl⟩ (by decide +kernel) rfl (by decide) (by decide) E_144 rfl rfl (Nat.le_of_ble_eq_true rfl) dL_law_1102 (fun a1102 M1102_ P1102_ hp => ?_)
  rcases hp with ⟨hs0, rfl, hPe, hMe⟩ | ⟨hs0, rfl, hPe, hMe⟩
  · subst hPe
    subst hMe
    refine tt_istore h [(11, .int (-1000002)), (12, .int (nI s)), (0, .ref b), (1, .ref (g.1 144)), (2, .int (nI 1)), (3, .int (nI t)), (4, .int xv), (5, .int (nI v)), (6, .int (nI w)), (7, .int (nI N)), (8, .int (nI n)), (9, .int (coins X N)), (10, .int (nI K))] dL_law_1105 (by decide) rfl ?_
    refine tt_iload h 0 dL_law_1107 rfl ?_
    refine tt_iload h 1 dL_law_1109 rfl ?_
    refine tt_if_ne_n h 1119 dL_law_1111 (by decide) (by first | omega | exact jN_lt | exact cnt_lt31 (by omega) | exact pri_lt hGd | exact Nat.lt_of_lt_of_le (vicE_lt hN6) (by decide)) (fun c_1111 => by exfalso; omega) (fun c_1111 => ?_)
    refine tt_ldc h ((-1000002)) (by decide +kernel) dL_law_1114 ?_
    refine tt_goto h 1123 dL_law_1116 (by decide) ?_
    refine tt_icmp_ne h 1130 dL_law_1123 (by decide) (fun c => absurd c (by decide)) (fun _ => ?_)
    refine tt_iconst h (nI 1) dL_law_1126 (by decide) ?_
    refine tt_goto h 1131 dL_law_1127 (by decide) ?_
    refine tt_istore_n h [(2, .int (nI 1)), (11, .int (-1000002)), (12, .int (nI s)), (0, .ref b), (1, .ref (g.1 144)), (3, .int (nI t)), (4, .int xv), (5, .int (nI v)), (6, .int (nI w)), (7, .int (nI N)), (8, .int (nI n)), (9, .int (coins X N)), (10, .int (nI K))] dL_law_1131 rfl (by decide) rfl ?_
    refine tt_goto h 1135 dL_law_1132 (by decide) ?_
    exact tt_lv (kk _ _ _ _ _ _ (Or.inl (Or.inr (Or.inl rfl))) (hW.mono (by omega) hB1 (by omega) hA1)) [3, 4, 0, 5, 7, 8, 1] rfl
  · subst hPe
    subst hMe
    obtain ⟨N2, K2, hW2⟩ := WI_undo hW hs0
    refine tt_istore h [(11, .int (nI (s - 1))), (12, .int (nI s)), (0, .ref b), (1, .ref (g.1 144)), (2, .int (nI 1)), (3, .int (nI t)), (4, .int xv), (5, .int (nI v)), (6, .int (nI w)), (7, .int (nI N)), (8, .int (nI n)), (9, .int (coins X N)), (10, .int (nI K))] dL_law_1105 (by decide) rfl ?_
    refine tt_iload h 0 dL_law_1107 rfl ?_
    refine tt_iload h 1 dL_law_1109 rfl ?_
    refine tt_if_ne_n h 1119 dL_law_1111 (by decide) (by first | omega | exact jN_lt | exact cnt_lt31 (by omega) | exact pri_lt hGd | exact Nat.lt_of_lt_of_le (vicE_lt hN6) (by decide)) (fun c_1111 => ?_) (fun c_1111 => by exfalso; omega)
    refine tt_iload h 1 dL_law_1119 rfl ?_
    refine tt_iconst h (nI 1) dL_law_1121 (by decide) ?_
    refine tt_isub_n h dL_law_1122 (by omega) ?_
    refine tt_icmp_ne_n h 1130 dL_law_1123 (by decide) (by first | omega | exact jN_lt | exact cnt_lt31 (by omega) | exact pri_lt hGd | exact Nat.lt_of_lt_of_le (vicE_lt hN6) (by decide)) (by first | omega | exact jN_lt | exact cnt_lt31 (by omega) | exact pri_lt hGd | exact Nat.lt_of_lt_of_le (vicE_lt hN6) (by decide)) (fun c_1123 => by exfalso; exact c_1123 rfl) (fun c_1123 => ?_)
    refine tt_iconst h (nI 1) dL_law_1126 (by decide) ?_
    refine tt_goto h 1131 dL_law_1127 (by decide) ?_
    refine tt_istore_n h [(2, .int (nI 1)), (11, .int (nI (s - 1))), (12, .int (nI s)), (0, .ref b), (1, .ref (g.1 144)), (3, .int (nI t)), (4, .int xv), (5, .int (nI v)), (6, .int (nI w)), (7, .int (nI N)), (8, .int (nI n)), (9, .int (coins X N)), (10, .int (nI K))] dL_law_1131 rfl (by decide) rfl ?_
    refine tt_goto h 1135 dL_law_1132 (by decide) ?_
    exact tt_lv (kk _ _ _ _ _ _ (Or.inr ⟨s - 1, by omega, rfl⟩) (hW2.mono (by omega) hB1 (by omega) hA1)) [3, 4, 0, 5, 7, 8, 1] rfl
