set_option maxRecDepth 100000 in
set_option maxHeartbeats 16000000 in
theorem lz_3 {x : Ctx} {g : Geo} {l : Launch} {b t v w N K B A s n1 n2 : Nat} {M : Nat → Nat → Int32} {P : Nat → Nat} (hx : x.1.2.1 = l) (h : Tk x g (fun _ => True) n1 n2 cL_law 16 wsL_law RL room_1) (ht : t < 26) (hW : WI M P N K B A s) (kk : ∀ M', WI M' P N K B A s → T x (fun _ => True) n1 n2 103 [(0, .ref b), (1, .ref (g.1 144)), (2, .int (nI 1)), (3, .int (nI (t + 1)))] [] M' P) : T x (fun _ => True) n1 n2 1213 [(0, .ref b), (1, .ref (g.1 144)), (3, .int (nI t))] [] M P := by
  refine tt_iload_n h 2 dL_law_1213 rfl rfl ?_
  refine tt_bipush h (nI 9) dL_law_1214 (by decide) ?_
  refine tt_irem_n h dL_law_1216 (by omega) (by decide) (by decide) ?_
  refine tt_iconst h (nI 4) dL_law_1217 (by decide) ?_
  refine tt_icmp_ne_n h 1228 dL_law_1218 (by decide) (by omega) (by decide) (fun c_1218 => ?_) (fun c_1218 => ?_)
  · -- 1218 true
    refine tt_iconst h (nI 1) dL_law_1228 (by decide) ?_
    refine tt_goto h 1233 dL_law_1229 (by decide) ?_
    refine tt_istore_n h [(2, .int (nI 1)), (0, .ref b), (1, .ref (g.1 144)), (3, .int (nI t))] dL_law_1233 rfl (by decide) rfl ?_
    refine tt_iinc_n h 3 (n := 1) [(3, .int (nI (t + 1))), (2, .int (nI 1)), (0, .ref b), (1, .ref (g.1 144))] dL_law_1234 rfl (by decide) rfl ?_
    refine tt_goto h 103 dL_law_1237 (by decide) ?_
    exact tt_lv (kk _ hW) [2, 3, 1, 0] rfl
  · -- 1218 false
    refine tt_aload_n h 1 dL_law_1221 rfl rfl ?_
    refine tt_callS h (As := [.ref (g.1 144)]) 1 hx (c_L_refused hW) gL_law_L_refused rfl ⟨rfl, rfl⟩ (by decide +kernel) rfl (by decide) (Nat.le_of_ble_eq_true rfl) dL_law_1222 (fun a1222 M1222_ P1222_ hp => ?_)
    obtain ⟨rfl, hF, rfl⟩ := hp
    replace hW := WI_fr hW hF
    clear hF
    refine tt_if_eq h 1232 dL_law_1225 (by decide) (fun c => absurd c (by decide)) (fun _ => ?_)
    refine tt_iconst h (nI 1) dL_law_1228 (by decide) ?_
    refine tt_goto h 1233 dL_law_1229 (by decide) ?_
    refine tt_istore_n h [(2, .int (nI 1)), (0, .ref b), (1, .ref (g.1 144)), (3, .int (nI t))] dL_law_1233 rfl (by decide) rfl ?_
    refine tt_iinc_n h 3 (n := 1) [(3, .int (nI (t + 1))), (2, .int (nI 1)), (0, .ref b), (1, .ref (g.1 144))] dL_law_1234 rfl (by decide) rfl ?_
    refine tt_goto h 103 dL_law_1237 (by decide) ?_
    exact tt_lv (kk _ hW) [2, 3, 1, 0] rfl

set_option maxRecDepth 100000 in
set_option maxHeartbeats 16000000 in
theorem lz_2 {x : Ctx} {g : Geo} {l : Launch} {b t v w N K B A s n1 n2 : Nat} {M : Nat → Nat → Int32} {P : Nat → Nat} (hx : x.1.2.1 = l) {r : Int32} (h : Tk x g (fun _ => True) n1 n2 cL_law 16 wsL_law RL room_1) (h2 : Tk x g (fun _ => True) (n1 + 1) (n2 + 6) cL_law 16 wsL_law RL room_1) (ht : t < 26) (hv : v < 8192) (hw : w < 8192) (hr : ErrP r ∨ OkP r) (hW : WI M P N K B A s) (kk3 : ∀ M', WI M' P N K B A s → T x (fun _ => True) (n1 + 1) (n2 + 6) 1213 [(0, .ref b), (1, .ref (g.1 144)), (3, .int (nI t))] [] M' P) : T x (fun _ => True) n1 n2 1135 [(0, .ref b), (1, .ref (g.1 144)), (2, .int (nI 1)), (3, .int (nI t)), (5, .int (nI v)), (6, .int (nI w)), (11, .int r)] [] M P := by
  have hN6 := hW.N6
  have J1165 : T x (fun _ => True) n1 n2 1165 [(0, .ref b), (1, .ref (g.1 144)), (3, .int (nI t)), (5, .int (nI v)), (6, .int (nI w))] [] M P := by
    have J1179 : T x (fun _ => True) n1 n2 1179 [(0, .ref b), (1, .ref (g.1 144)), (3, .int (nI t)), (5, .int (nI v)), (6, .int (nI w))] [] M P := by
      refine tt_iload_n h 2 dL_law_1179 rfl rfl ?_
      refine tt_iconst h (nI 4) dL_law_1180 (by decide) ?_
      refine tt_irem_n h dL_law_1181 (by omega) (by decide) (by decide) ?_
      refine tt_iconst h (nI 1) dL_law_1182 (by decide) ?_
      refine tt_icmp_ne_n h 1213 dL_law_1183 (by decide) (by omega) (by decide) (fun c_1183 => ?_) (fun c_1183 => ?_)
      · -- 1183 true
        refine tt_widen (k1 := n1 + 1) (k2 := n2 + 6) (Nat.le_succ _) (Nat.le_add_right _ _) ?_
        exact tt_lv (kk3 _ hW) [0, 1, 2] rfl
      · -- 1183 false
        refine tt_aload_n h 1 dL_law_1186 rfl rfl ?_
        refine tt_iconst h (nI 0) dL_law_1187 (by decide) ?_
        refine tt_callV h (As := [.int (nI 0)]) 1 hx (c_X5_count hW.hP hW.hI hW.hs hW.hs4 hW.hln) gL_law_X5_count rfl ⟨rfl, rfl⟩ (by decide +kernel) rfl (by decide) (by decide) E_144 rfl rfl (Nat.le_of_ble_eq_true rfl) dL_law_1188 (fun a1188 M' P' hp => ?_)
        obtain ⟨⟨rfl, rfl⟩, hQ⟩ := hp
        have hz := cnt_at (j := 0) (by omega) (by omega) (by omega) hQ
        clear hQ
        subst hz
        refine tt_if_eq_n h 1213 dL_law_1191 (by decide) (by omega) (fun c_1191 => ?_) (fun c_1191 => ?_)
        · -- 1191 true
          refine tt_widen (k1 := n1 + 1) (k2 := n2 + 6) (Nat.le_succ _) (Nat.le_add_right _ _) ?_
          exact tt_lv (kk3 _ hW) [0, 1, 2] rfl
        · -- 1191 false
          refine tt_aload_n h 1 dL_law_1194 rfl rfl ?_
          refine tt_iload h 4 dL_law_1195 rfl ?_
          refine tt_aload_n h 1 dL_law_1197 rfl rfl ?_
          refine tt_iconst h (nI 0) dL_law_1198 (by decide) ?_
          refine tt_callV h (As := [.int (nI 0)]) 1 hx (c_X5_count hW.hP hW.hI hW.hs hW.hs4 hW.hln) gL_law_X5_count rfl ⟨rfl, rfl⟩ (by decide +kernel) rfl (by decide) (by decide) E_144 rfl rfl (Nat.le_of_ble_eq_true rfl) dL_law_1199 (fun a1199 M' P' hp => ?_)
          obtain ⟨⟨rfl, rfl⟩, hQ⟩ := hp
          have hz := cnt_at (j := 0) (by omega) (by omega) (by omega) hQ
          clear hQ
          subst hz
          refine tt_irem_n h dL_law_1202 (by omega) (by omega) (by omega) ?_
          refine tt_iload h 3 dL_law_1203 rfl ?_
          refine tt_iconst h (nI 2) dL_law_1205 (by decide) ?_
          refine tt_irem_n h dL_law_1206 (by omega) (by decide) (by decide) ?_
          refine tt_route h (As := [.ref (g.1 144), .int (nI (w % N)), .int (nI (v % 2))]) hx (fun sz => c_L_isRoute (n := w % N) (b := v % 2) (sz := sz) hW (Nat.mod_lt _ (by omega)) (by omega)) gL_law_L_isRoute rfl (by decide) (Nat.le_of_ble_eq_true rfl) h2.2.2.1 h2.2.2.2 dL_law_1207 (fun rr M9 P9 hp => ?_)
          obtain ⟨rfl, hF, rfl⟩ := hp
          replace hW := WI_fr hW hF
          clear hF
          have h := h2
          refine tt_if_eq h 1232 dL_law_1210 (by decide) (fun c => absurd c (by decide)) (fun _ => ?_)
          exact tt_lv (kk3 _ hW) [0, 1, 2] rfl
    refine tt_iload_n h 2 dL_law_1165 rfl rfl ?_
    refine tt_iconst h (nI 3) dL_law_1166 (by decide) ?_
    refine tt_irem_n h dL_law_1167 (by omega) (by decide) (by decide) ?_
    refine tt_iconst h (nI 2) dL_law_1168 (by decide) ?_
    refine tt_icmp_ne_n h 1179 dL_law_1169 (by decide) (by omega) (by decide) (fun c_1169 => ?_) (fun c_1169 => ?_)
    · -- 1169 true
      exact tt_lv (J1179) [0, 1, 2, 3, 4] rfl
    · -- 1169 false
      refine tt_aload_n h 1 dL_law_1172 rfl rfl ?_
      refine tt_callS h (As := [.ref (g.1 144)]) 1 hx (c_L_isChip hW) gL_law_L_isChip rfl ⟨rfl, rfl⟩ (by decide +kernel) rfl (by decide) (Nat.le_of_ble_eq_true rfl) dL_law_1173 (fun a1173 M' P' hp => ?_)
      obtain ⟨⟨rfl, rfl⟩, rfl⟩ := hp
      refine tt_if_eq h 1232 dL_law_1176 (by decide) (fun c => absurd c (by decide)) (fun _ => ?_)
      exact tt_lv (J1179) [0, 1, 2, 3, 4] rfl
  rcases hr with (rfl | rfl | rfl) | ⟨q, hq, rfl⟩
  · skip
    refine tt_iload_n h 2 dL_law_1135 rfl rfl ?_
    refine tt_if_eq h 1232 dL_law_1136 (by decide) (fun c => absurd c (by decide)) (fun _ => ?_)
    refine tt_iload h 6 dL_law_1139 rfl ?_
    refine tt_if_ge h 1165 dL_law_1141 (by decide) (fun c => absurd c (by decide)) (fun _ => ?_)
    refine tt_iload h 6 dL_law_1144 rfl ?_
    refine tt_ldc h ((-1000001)) (by decide +kernel) dL_law_1146 ?_
    refine tt_icmp_eq h 1165 dL_law_1148 (by decide) (fun _ => ?_) (fun c => absurd (by decide) c)
    exact tt_lv (J1165) [0, 1, 3, 4, 5] rfl
  · skip
    refine tt_iload_n h 2 dL_law_1135 rfl rfl ?_
    refine tt_if_eq h 1232 dL_law_1136 (by decide) (fun c => absurd c (by decide)) (fun _ => ?_)
    refine tt_iload h 6 dL_law_1139 rfl ?_
    refine tt_if_ge h 1165 dL_law_1141 (by decide) (fun c => absurd c (by decide)) (fun _ => ?_)
    refine tt_iload h 6 dL_law_1144 rfl ?_
    refine tt_ldc h ((-1000001)) (by decide +kernel) dL_law_1146 ?_
    refine tt_icmp_eq h 1165 dL_law_1148 (by decide) (fun c => absurd c (by decide)) (fun _ => ?_)
    refine tt_iload h 6 dL_law_1151 rfl ?_
    refine tt_ldc h ((-1000002)) (by decide +kernel) dL_law_1153 ?_
    refine tt_icmp_eq h 1165 dL_law_1155 (by decide) (fun _ => ?_) (fun c => absurd (by decide) c)
    exact tt_lv (J1165) [0, 1, 3, 4, 5] rfl
  · skip
    refine tt_iload_n h 2 dL_law_1135 rfl rfl ?_
    refine tt_if_eq h 1232 dL_law_1136 (by decide) (fun c => absurd c (by decide)) (fun _ => ?_)
    refine tt_iload h 6 dL_law_1139 rfl ?_
    refine tt_if_ge h 1165 dL_law_1141 (by decide) (fun c => absurd c (by decide)) (fun _ => ?_)
    refine tt_iload h 6 dL_law_1144 rfl ?_
    refine tt_ldc h ((-1000001)) (by decide +kernel) dL_law_1146 ?_
    refine tt_icmp_eq h 1165 dL_law_1148 (by decide) (fun c => absurd c (by decide)) (fun _ => ?_)
    refine tt_iload h 6 dL_law_1151 rfl ?_
    refine tt_ldc h ((-1000002)) (by decide +kernel) dL_law_1153 ?_
    refine tt_icmp_eq h 1165 dL_law_1155 (by decide) (fun c => absurd c (by decide)) (fun _ => ?_)
    refine tt_iload h 6 dL_law_1158 rfl ?_
    refine tt_ldc h ((-1000003)) (by decide +kernel) dL_law_1160 ?_
    refine tt_icmp_ne h 1232 dL_law_1162 (by decide) (fun c => absurd c (by decide)) (fun _ => ?_)
    exact tt_lv (J1165) [0, 1, 3, 4, 5] rfl
  · skip
    refine tt_iload_n h 2 dL_law_1135 rfl rfl ?_
    refine tt_if_eq h 1232 dL_law_1136 (by decide) (fun c => absurd c (by decide)) (fun _ => ?_)
    refine tt_iload h 6 dL_law_1139 rfl ?_
    refine tt_if_ge_n h 1165 dL_law_1141 (by decide) (by omega) ?_
    exact tt_lv (J1165) [0, 1, 3, 4, 5] rfl

set_option maxRecDepth 100000 in
set_option maxHeartbeats 16000000 in
theorem l_iter {x : Ctx} {g : Geo} {l : Launch} {b L t N K B A s : Nat} {xs : Nat → Int32} {M : Nat → Nat → Int32} {P : Nat → Nat} (hx : x.1.2.1 = l) (h : Tk x g (fun _ => True) (158 + t) (4672 + 6 * t) cL_law 16 wsL_law RL room_1) (h2 : Tk x g (fun _ => True) (158 + t + 1) (4672 + 6 * t + 6) cL_law 16 wsL_law RL room_1) (hc : LC x b L xs) (hL : L ≤ 260) (ht : t < 26) (hA0 : 100000 ≤ A) (hA1 : A + 1 < 2 ^ 30) (hB1 : B + 9999 < 2 ^ 31) (hW : WI M P N K B A s) (kk : ∀ M' P' N' K' s', WI M' P' N' K' (B + 9999) (A + 1) s' → T x (fun _ => True) (158 + t + 1) (4672 + 6 * t + 6) 103 [(0, .ref b), (1, .ref (g.1 144)), (2, .int (nI 1)), (3, .int (nI (t + 1)))] [] M' P') : T x (fun _ => True) (158 + t) (4672 + 6 * t) 109 [(0, .ref b), (1, .ref (g.1 144)), (2, .int (nI 1)), (3, .int (nI t))] [] M P := by
  have hN6 := hW.N6
  have hK12 := hW.K12
  obtain ⟨X, hX⟩ : ∃ X, M (P 0) = X := ⟨_, rfl⟩
  refine tt_iload_n h 2 dL_law_109 rfl rfl ?_
  refine tt_if_eq h 1240 dL_law_110 (by decide) (fun c => absurd c (by decide)) (fun _ => ?_)
  refine tt_aload_n h 0 dL_law_113 rfl rfl ?_
  refine tt_iload_n h 3 dL_law_114 rfl rfl ?_
  refine tt_cell h hc (k := t) (by omega) (by omega) gL_law_L_cell (by decide) (Nat.le_of_ble_eq_true rfl) dL_law_115 (fun xv => ?_)
  refine tt_istore h [(4, .int xv), (0, .ref b), (1, .ref (g.1 144)), (2, .int (nI 1)), (3, .int (nI t))] dL_law_118 (by decide) rfl ?_
  refine tt_iload h 0 dL_law_120 rfl ?_
  refine tt_iconst h (nI 5) dL_law_122 (by decide) ?_
  refine tt_ishr h dL_law_123 ?_
  refine tt_sipush h (nI 8192) dL_law_124 (by decide) ?_
  refine tt_callS h (As := [.int (xv >>> ((nI 5) &&& 31)), .int (nI 8192)]) 2 hx (c_L_low (m := 8192) (by decide) (by decide)) gL_law_L_low rfl ⟨rfl, rfl⟩ (by decide +kernel) rfl (by decide) (Nat.le_of_ble_eq_true rfl) dL_law_127 (fun a127 M' P' hp => ?_)
  obtain ⟨⟨rfl, rfl⟩, v, hv, rfl⟩ := hp
  refine tt_istore h [(5, .int (nI v)), (4, .int xv), (0, .ref b), (1, .ref (g.1 144)), (2, .int (nI 1)), (3, .int (nI t))] dL_law_130 (by decide) rfl ?_
  refine tt_iload h 1 dL_law_132 rfl ?_
  refine tt_bipush h (nI 11) dL_law_134 (by decide) ?_
  refine tt_ishr h dL_law_136 ?_
  refine tt_sipush h (nI 8192) dL_law_137 (by decide) ?_
  refine tt_callS h (As := [.int (xv >>> ((nI 11) &&& 31)), .int (nI 8192)]) 2 hx (c_L_low (m := 8192) (by decide) (by decide)) gL_law_L_low rfl ⟨rfl, rfl⟩ (by decide +kernel) rfl (by decide) (Nat.le_of_ble_eq_true rfl) dL_law_140 (fun a140 M' P' hp => ?_)
  obtain ⟨⟨rfl, rfl⟩, w, hw, rfl⟩ := hp
  refine tt_istore h [(6, .int (nI w)), (5, .int (nI v)), (4, .int xv), (0, .ref b), (1, .ref (g.1 144)), (2, .int (nI 1)), (3, .int (nI t))] dL_law_143 (by decide) rfl ?_
  have KK : ∀ (r : Int32) (M' : Nat → Nat → Int32) (P' : Nat → Nat) (N' K' s' : Nat), ErrP r ∨ OkP r → WI M' P' N' K' (B + 9999) (A + 1) s' → T x (fun _ => True) (158 + t) (4672 + 6 * t) 1135 [(0, .ref b), (1, .ref (g.1 144)), (2, .int (nI 1)), (3, .int (nI t)), (5, .int (nI v)), (6, .int (nI w)), (11, .int r)] [] M' P' := fun r M' P' N' K' s' hr hW' => lz_2 hx h h2 ht hv hw hr hW' (fun M2 hW2 => lz_3 (v := 0) (w := 0) hx h2 ht hW2 (fun M3 hW3 => kk M3 P' N' K' s' hW3))
  refine tt_aload_n h 4 dL_law_145 rfl rfl ?_
  refine tt_iconst h (nI 0) dL_law_146 (by decide) ?_
  refine tt_callV h (As := [.int (nI 0)]) 1 hx (c_X5_count hW.hP hW.hI hW.hs hW.hs4 hW.hln) gL_law_X5_count rfl ⟨rfl, rfl⟩ (by decide +kernel) rfl (by decide) (by decide) E_144 rfl rfl (Nat.le_of_ble_eq_true rfl) dL_law_147 (fun a147 M' P' hp => ?_)
  rw [hX] at hp
  obtain ⟨⟨rfl, rfl⟩, hQ⟩ := hp
  have hz := cnt_at (j := 0) (by omega) (by omega) (by omega) hQ
  clear hQ
  subst hz
  refine tt_istore h [(7, .int (nI N)), (6, .int (nI w)), (5, .int (nI v)), (4, .int xv), (0, .ref b), (1, .ref (g.1 144)), (2, .int (nI 1)), (3, .int (nI t))] dL_law_150 (by decide) rfl ?_
  have J168 : ∀ (n : Nat), (N = 0 → n = 0) → (N ≠ 0 → n < N) → T x (fun _ => True) (158 + t) (4672 + 6 * t) 168 [(0, .ref b), (1, .ref (g.1 144)), (2, .int (nI 1)), (3, .int (nI t)), (4, .int xv), (5, .int (nI v)), (6, .int (nI w)), (7, .int (nI N)), (8, .int (nI n))] [] M P := by
    intro n hn0 hn1
    refine tt_aload_n h 1 dL_law_168 rfl rfl ?_
    refine tt_bipush h (nI 7) dL_law_169 (by decide) ?_
    refine tt_callV h (As := [.int (nI 7)]) 1 hx (c_X5_count hW.hP hW.hI hW.hs hW.hs4 hW.hln) gL_law_X5_count rfl ⟨rfl, rfl⟩ (by decide +kernel) rfl (by decide) (by decide) E_144 rfl rfl (Nat.le_of_ble_eq_true rfl) dL_law_171 (fun a171 M' P' hp => ?_)
    rw [hX] at hp
    obtain ⟨⟨rfl, rfl⟩, hQ⟩ := hp
    have hz := cnt_at (j := 7) (by omega) (by omega) (by omega) hQ
    clear hQ
    subst hz
    refine tt_top (coins X N) rfl ?_
    refine tt_istore h [(9, .int (coins X N)), (0, .ref b), (1, .ref (g.1 144)), (2, .int (nI 1)), (3, .int (nI t)), (4, .int xv), (5, .int (nI v)), (6, .int (nI w)), (7, .int (nI N)), (8, .int (nI n))] dL_law_174 (by decide) rfl ?_
    refine tt_aload_n h 2 dL_law_176 rfl rfl ?_
    refine tt_iconst h (nI 4) dL_law_177 (by decide) ?_
    refine tt_callV h (As := [.int (nI 4)]) 1 hx (c_X5_count hW.hP hW.hI hW.hs hW.hs4 hW.hln) gL_law_X5_count rfl ⟨rfl, rfl⟩ (by decide +kernel) rfl (by decide) (by decide) E_144 rfl rfl (Nat.le_of_ble_eq_true rfl) dL_law_178 (fun a178 M' P' hp => ?_)
    rw [hX] at hp
    obtain ⟨⟨rfl, rfl⟩, hQ⟩ := hp
    have hz := cnt_at (j := 4) (by omega) (by omega) (by omega) hQ
    clear hQ
    subst hz
    refine tt_istore h [(10, .int (nI K)), (9, .int (coins X N)), (0, .ref b), (1, .ref (g.1 144)), (2, .int (nI 1)), (3, .int (nI t)), (4, .int xv), (5, .int (nI v)), (6, .int (nI w)), (7, .int (nI N)), (8, .int (nI n))] dL_law_181 (by decide) rfl ?_
    refine tt_iconst h (nI 0) dL_law_183 (by decide) ?_
    refine tt_istore h [(11, .int (nI 0)), (10, .int (nI K)), (9, .int (coins X N)), (0, .ref b), (1, .ref (g.1 144)), (2, .int (nI 1)), (3, .int (nI t)), (4, .int xv), (5, .int (nI v)), (6, .int (nI w)), (7, .int (nI N)), (8, .int (nI n))] dL_law_184 (by decide) rfl ?_
    have J202 : ∀ (z : Nat), (z < 22) → T x (fun _ => True) (158 + t) (4672 + 6 * t) 202 [(0, .ref b), (1, .ref (g.1 144)), (2, .int (nI 1)), (3, .int (nI t)), (4, .int xv), (5, .int (nI v)), (6, .int (nI w)), (7, .int (nI N)), (8, .int (nI n)), (9, .int (coins X N)), (10, .int (nI K)), (11, .int (nI 0))] [.int (nI z)] M P := by
      intro z hz
      rcases (show z = 0 ∨ z = 1 ∨ z = 2 ∨ z = 3 ∨ z = 4 ∨ z = 5 ∨ z = 6 ∨ z = 7 ∨ z = 8 ∨ z = 9 ∨ z = 10 ∨ z = 11 ∨ z = 12 ∨ z = 13 ∨ z = 14 ∨ z = 15 ∨ z = 16 ∨ z = 17 ∨ z = 18 ∨ z = 19 ∨ z = 20 ∨ z = 21 by omega) with rfl | rfl | rfl | rfl | rfl | rfl | rfl | rfl | rfl | rfl | rfl | rfl | rfl | rfl | rfl | rfl | rfl | rfl | rfl | rfl | rfl | rfl
      · exact tt_tin h (98) 300 dL_law_202 (by decide) (by decide) rfl (by decide) (tt_lv (lc_block hx h hv hw hn0 hn1 hA0 hA1 hB1 hW hX KK) [0, 1, 2, 3, 4, 5, 6, 7, 8, 9, 10, 11] rfl)
      · exact tt_tin h (113) 315 dL_law_202 (by decide) (by decide) rfl (by decide) (tt_lv (lc_net hx h hv hw hn0 hn1 hA0 hA1 hB1 hW hX KK) [0, 1, 2, 3, 4, 5, 6, 7, 8, 9, 10, 11] rfl)
      · exact tt_tin h (113) 315 dL_law_202 (by decide) (by decide) rfl (by decide) (tt_lv (lc_net hx h hv hw hn0 hn1 hA0 hA1 hB1 hW hX KK) [0, 1, 2, 3, 4, 5, 6, 7, 8, 9, 10, 11] rfl)
      · exact tt_tin h (113) 315 dL_law_202 (by decide) (by decide) rfl (by decide) (tt_lv (lc_net hx h hv hw hn0 hn1 hA0 hA1 hB1 hW hX KK) [0, 1, 2, 3, 4, 5, 6, 7, 8, 9, 10, 11] rfl)
      · exact tt_tin h (210) 412 dL_law_202 (by decide) (by decide) rfl (by decide) (tt_lv (lc_lay hx h hv hw hn0 hn1 hA0 hA1 hB1 hW hX KK) [0, 1, 2, 3, 4, 5, 6, 7, 8, 9, 10, 11] rfl)
      · exact tt_tin h (210) 412 dL_law_202 (by decide) (by decide) rfl (by decide) (tt_lv (lc_lay hx h hv hw hn0 hn1 hA0 hA1 hB1 hW hX KK) [0, 1, 2, 3, 4, 5, 6, 7, 8, 9, 10, 11] rfl)
      · exact tt_tin h (210) 412 dL_law_202 (by decide) (by decide) rfl (by decide) (tt_lv (lc_lay hx h hv hw hn0 hn1 hA0 hA1 hB1 hW hX KK) [0, 1, 2, 3, 4, 5, 6, 7, 8, 9, 10, 11] rfl)
      · exact tt_tin h (210) 412 dL_law_202 (by decide) (by decide) rfl (by decide) (tt_lv (lc_lay hx h hv hw hn0 hn1 hA0 hA1 hB1 hW hX KK) [0, 1, 2, 3, 4, 5, 6, 7, 8, 9, 10, 11] rfl)
      · exact tt_tin h (210) 412 dL_law_202 (by decide) (by decide) rfl (by decide) (tt_lv (lc_lay hx h hv hw hn0 hn1 hA0 hA1 hB1 hW hX KK) [0, 1, 2, 3, 4, 5, 6, 7, 8, 9, 10, 11] rfl)
      · exact tt_tin h (293) 495 dL_law_202 (by decide) (by decide) rfl (by decide) (tt_lv (lc_dig hx h hv hw hn0 hn1 hA0 hA1 hB1 hW hX KK) [0, 1, 2, 3, 4, 5, 6, 7, 8, 9, 10, 11] rfl)
      · exact tt_tin h (293) 495 dL_law_202 (by decide) (by decide) rfl (by decide) (tt_lv (lc_dig hx h hv hw hn0 hn1 hA0 hA1 hB1 hW hX KK) [0, 1, 2, 3, 4, 5, 6, 7, 8, 9, 10, 11] rfl)
      · exact tt_tin h (293) 495 dL_law_202 (by decide) (by decide) rfl (by decide) (tt_lv (lc_dig hx h hv hw hn0 hn1 hA0 hA1 hB1 hW hX KK) [0, 1, 2, 3, 4, 5, 6, 7, 8, 9, 10, 11] rfl)
      · exact tt_tin h (293) 495 dL_law_202 (by decide) (by decide) rfl (by decide) (tt_lv (lc_dig hx h hv hw hn0 hn1 hA0 hA1 hB1 hW hX KK) [0, 1, 2, 3, 4, 5, 6, 7, 8, 9, 10, 11] rfl)
      · exact tt_tin h (293) 495 dL_law_202 (by decide) (by decide) rfl (by decide) (tt_lv (lc_dig hx h hv hw hn0 hn1 hA0 hA1 hB1 hW hX KK) [0, 1, 2, 3, 4, 5, 6, 7, 8, 9, 10, 11] rfl)
      · exact tt_tin h (557) 759 dL_law_202 (by decide) (by decide) rfl (by decide) (tt_lv (lc_rip hx h hv hw hn0 hn1 hA0 hA1 hB1 hW hX KK) [0, 1, 2, 3, 4, 5, 6, 7, 8, 9, 10, 11] rfl)
      · exact tt_tin h (599) 801 dL_law_202 (by decide) (by decide) rfl (by decide) (tt_lv (lc_appeal hx h hv hw hn0 hn1 hA0 hA1 hB1 hW hX KK) [0, 1, 2, 3, 4, 5, 6, 7, 8, 9, 10, 11] rfl)
      · exact tt_tin h (599) 801 dL_law_202 (by decide) (by decide) rfl (by decide) (tt_lv (lc_appeal hx h hv hw hn0 hn1 hA0 hA1 hB1 hW hX KK) [0, 1, 2, 3, 4, 5, 6, 7, 8, 9, 10, 11] rfl)
      · exact tt_tin h (663) 865 dL_law_202 (by decide) (by decide) rfl (by decide) (tt_lv (lc_hear hx h hv hw hn0 hn1 hA0 hA1 hB1 hW hX KK) [0, 1, 2, 3, 4, 5, 6, 7, 8, 9, 10, 11] rfl)
      · exact tt_tin h (663) 865 dL_law_202 (by decide) (by decide) rfl (by decide) (tt_lv (lc_hear hx h hv hw hn0 hn1 hA0 hA1 hB1 hW hX KK) [0, 1, 2, 3, 4, 5, 6, 7, 8, 9, 10, 11] rfl)
      · exact tt_tin h (833) 1035 dL_law_202 (by decide) (by decide) rfl (by decide) (tt_lv (lc_pass hx h hv hw hn0 hn1 hA0 hA1 hB1 hW hX KK) [0, 1, 2, 3, 4, 5, 6, 7, 8, 9, 10, 11] rfl)
      · exact tt_tin h (848) 1050 dL_law_202 (by decide) (by decide) rfl (by decide) (tt_lv (lc_set hx h hv hw hn0 hn1 hA0 hA1 hB1 hW hX KK) [0, 1, 2, 3, 4, 5, 6, 7, 8, 9, 10, 11] rfl)
      · exact tt_tout h 1093 dL_law_202 (by decide) (by decide) (tt_lv (lc_undo hx h hv hw hn0 hn1 hA0 hA1 hB1 hW hX KK) [0, 1, 2, 3, 4, 5, 6, 7, 8, 9, 10, 11] rfl)
    refine tt_iload_n h 6 dL_law_186 rfl rfl ?_
    refine tt_iconst h (nI 3) dL_law_187 (by decide) ?_
    refine tt_icmp_ge_n h 195 dL_law_188 (by decide) (by omega) (by decide) (fun c_188 => ?_) (fun c_188 => ?_)
    · -- 188 true
      refine tt_iload h 7 dL_law_195 rfl ?_
      refine tt_bipush h (nI 22) dL_law_197 (by decide) ?_
      refine tt_callS h (As := [.int xv, .int (nI 22)]) 2 hx (c_L_low (m := 22) (by decide) (by decide)) gL_law_L_low rfl ⟨rfl, rfl⟩ (by decide +kernel) rfl (by decide) (Nat.le_of_ble_eq_true rfl) dL_law_199 (fun a199 M' P' hp => ?_)
      obtain ⟨⟨rfl, rfl⟩, z, hz, rfl⟩ := hp
      exact tt_lv (J202 z (by first | omega | exact hz | decide)) [3, 4, 5, 6, 7, 8, 9, 10, 11, 2, 1, 0] rfl
    · -- 188 false
      refine tt_iconst h (nI 1) dL_law_191 (by decide) ?_
      refine tt_goto h 202 dL_law_192 (by decide) ?_
      exact tt_lv (J202 1 (by first | omega | exact hz | decide)) [3, 4, 5, 6, 7, 8, 9, 10, 11, 2, 1, 0] rfl
  refine tt_iload h 0 dL_law_152 rfl ?_
  refine tt_if_ne_n h 161 dL_law_154 (by decide) (by omega) (fun c_154 => ?_) (fun c_154 => ?_)
  · -- 154 true
    refine tt_iload h 2 dL_law_161 rfl ?_
    refine tt_iload h 0 dL_law_163 rfl ?_
    refine tt_irem_n h dL_law_165 (by omega) (by omega) (by omega) ?_
    refine tt_istore h [(8, .int (nI (v % N))), (7, .int (nI N)), (6, .int (nI w)), (5, .int (nI v)), (4, .int xv), (0, .ref b), (1, .ref (g.1 144)), (2, .int (nI 1)), (3, .int (nI t))] dL_law_166 (by decide) rfl ?_
    exact tt_lv (J168 (v % N) (by first | exact fun _ => rfl | exact fun q => absurd q c_154) (by first | exact fun q => absurd c_154 q | exact fun _ => Nat.mod_lt _ (by omega))) [5, 6, 7, 8, 4, 3, 2, 1, 0] rfl
  · -- 154 false
    refine tt_iconst h (nI 0) dL_law_157 (by decide) ?_
    refine tt_goto h 166 dL_law_158 (by decide) ?_
    refine tt_istore h [(8, .int (nI 0)), (7, .int (nI N)), (6, .int (nI w)), (5, .int (nI v)), (4, .int xv), (0, .ref b), (1, .ref (g.1 144)), (2, .int (nI 1)), (3, .int (nI t))] dL_law_166 (by decide) rfl ?_
    exact tt_lv (J168 0 (by first | exact fun _ => rfl | exact fun q => absurd q c_154) (by first | exact fun q => absurd c_154 q | exact fun _ => Nat.mod_lt _ (by omega))) [5, 6, 7, 8, 4, 3, 2, 1, 0] rfl

set_option maxRecDepth 100000 in
set_option maxHeartbeats 16000000 in
theorem l_end {x : Ctx} {g : Geo} {l : Launch} {b L N K B A s : Nat} {xs : Nat → Int32} {M : Nat → Nat → Int32} {P : Nat → Nat} (hx : x.1.2.1 = l) (h : Tk x g (fun _ => True) (158 + 26) (4672 + 6 * 26) cL_law 16 wsL_law RL room_1) (hc : LC x b L xs) (hW : WI M P N K B A s) : T x (fun _ => True) (158 + 26) (4672 + 6 * 26) 1240 [(0, .ref b), (1, .ref (g.1 144)), (2, .int (nI 1)), (3, .int (nI 26))] [] M P := by
  have hN6 := hW.N6
  have hK12 := hW.K12
  obtain ⟨X, hX⟩ : ∃ X, M (P 0) = X := ⟨_, rfl⟩
  have hlen : (wlN X N).length ≤ 3 := wlN_3
  have hwj := wl_j (X := X) N
  refine tt_iload_n h 2 dL_law_1240 rfl rfl ?_
  refine tt_if_eq h 1290 dL_law_1241 (by decide) (fun c => absurd c (by decide)) (fun _ => ?_)
  refine tt_aload_n h 1 dL_law_1244 rfl rfl ?_
  refine tt_callS h (As := [.ref (g.1 144)]) 1 hx (c_L_isChip hW) gL_law_L_isChip rfl ⟨rfl, rfl⟩ (by decide +kernel) rfl (by decide) (Nat.le_of_ble_eq_true rfl) dL_law_1245 (fun a1245 M' P' hp => ?_)
  obtain ⟨⟨rfl, rfl⟩, rfl⟩ := hp
  refine tt_if_eq h 1290 dL_law_1248 (by decide) (fun c => absurd c (by decide)) (fun _ => ?_)
  refine tt_aload_n h 1 dL_law_1251 rfl rfl ?_
  refine tt_iconst h ((-1)) dL_law_1252 (by decide) ?_
  refine tt_callV h (As := [.int (-1)]) 1 hx (c_X5_bestOrder hW.hP hW.hI hW.hNb) gL_law_X5_bestOrder rfl ⟨rfl, rfl⟩ (by decide +kernel) rfl (by decide) (by decide) E_144 rfl rfl (Nat.le_of_ble_eq_true rfl) dL_law_1253 (fun a1253 M1253_ P1253_ hp => ?_)
  rw [hX] at hp
  obtain ⟨rfl, hF, hQ⟩ := hp
  have hF := FrS_B hW.hP hF
  have hX0 := (FrS_0 hW hF).trans hX
  replace hW := WI_fr hW hF
  clear hF hX
  have hX := hX0
  clear hX0
  have hb1253 := (bo_m1 hQ).1
  clear hQ
  refine tt_aload_n h 1 dL_law_1256 rfl rfl ?_
  refine tt_iconst h (nI 0) dL_law_1257 (by decide) ?_
  refine tt_callV h (As := [.int (nI 0)]) 1 hx (c_X5_count hW.hP hW.hI hW.hs hW.hs4 hW.hln) gL_law_X5_count rfl ⟨rfl, rfl⟩ (by decide +kernel) rfl (by decide) (by decide) E_144 rfl rfl (Nat.le_of_ble_eq_true rfl) dL_law_1258 (fun a1258 M' P' hp => ?_)
  rw [hX] at hp
  obtain ⟨⟨rfl, rfl⟩, hQ⟩ := hp
  have hz := cnt_at (j := 0) (by omega) (by omega) (by omega) hQ
  clear hQ
  subst hz
  refine tt_aload_n h 1 dL_law_1261 rfl rfl ?_
  refine tt_iconst h (nI 1) dL_law_1262 (by decide) ?_
  refine tt_callV h (As := [.int (nI 1)]) 1 hx (c_X5_count hW.hP hW.hI hW.hs hW.hs4 hW.hln) gL_law_X5_count rfl ⟨rfl, rfl⟩ (by decide +kernel) rfl (by decide) (by decide) E_144 rfl rfl (Nat.le_of_ble_eq_true rfl) dL_law_1263 (fun a1263 M' P' hp => ?_)
  rw [hX] at hp
  obtain ⟨⟨rfl, rfl⟩, hQ⟩ := hp
  have hz := cnt_at (j := 1) (by omega) (by omega) (by omega) hQ
  clear hQ
  subst hz
  refine tt_isub_n h dL_law_1266 (by exact joinedN_le) ?_
  refine tt_icmp_gt h 1290 dL_law_1267 (by decide) (fun c_1267 => by exfalso; exact Int32.not_lt.mpr (Int32.le_trans hb1253 (nI_le (by omega) (by omega))) c_1267) (fun c_1267 => ?_)
  refine tt_aload_n h 1 dL_law_1270 rfl rfl ?_
  refine tt_iconst h ((-1)) dL_law_1271 (by decide) ?_
  refine tt_callV h (As := [.int (-1)]) 1 hx (c_X5_bestOrder hW.hP hW.hI hW.hNb) gL_law_X5_bestOrder rfl ⟨rfl, rfl⟩ (by decide +kernel) rfl (by decide) (by decide) E_144 rfl rfl (Nat.le_of_ble_eq_true rfl) dL_law_1272 (fun a1272 M1272_ P1272_ hp => ?_)
  rw [hX] at hp
  obtain ⟨rfl, hF, hQ⟩ := hp
  have hF := FrS_B hW.hP hF
  have hX0 := (FrS_0 hW hF).trans hX
  replace hW := WI_fr hW hF
  clear hF hX
  have hX := hX0
  clear hX0
  have hb1272 := (bo_m1 hQ).1
  clear hQ
  refine tt_iconst h (nI 3) dL_law_1275 (by decide) ?_
  refine tt_icmp_gt h 1290 dL_law_1276 (by decide) (fun c_1276 => by exfalso; exact Int32.not_lt.mpr (Int32.le_trans hb1272 (nI_le hlen (by decide))) c_1276) (fun c_1276 => ?_)
  refine tt_aload_n h 1 dL_law_1279 rfl rfl ?_
  refine tt_callS h (As := [.ref (g.1 144)]) 1 hx (c_L_refused hW) gL_law_L_refused rfl ⟨rfl, rfl⟩ (by decide +kernel) rfl (by decide) (Nat.le_of_ble_eq_true rfl) dL_law_1280 (fun a1280 M1280_ P1280_ hp => ?_)
  obtain ⟨rfl, hF, rfl⟩ := hp
  replace hW := WI_fr hW hF
  clear hF
  refine tt_if_eq h 1290 dL_law_1283 (by decide) (fun c => absurd c (by decide)) (fun _ => ?_)
  refine tt_iconst h (nI 1) dL_law_1286 (by decide) ?_
  refine tt_goto h 1291 dL_law_1287 (by decide) ?_
  exact tt_ret h hc (by decide) (by decide) dL_law_1291

theorem l_loop {x : Ctx} {g : Geo} {l : Launch} {b L : Nat} {xs : Nat → Int32} (hx : x.1.2.1 = l) (hh : ∀ j, j ≤ 26 → Tk x g (fun _ => True) (158 + j) (4672 + 6 * j) cL_law 16 wsL_law RL room_1) (hc : LC x b L xs) (hL : L ≤ 260) : ∀ (k t N K s : Nat) (M : Nat → Nat → Int32) (P : Nat → Nat), t + k = 26 → WI M P N K (9999 * t) (100000 + t) s → T x (fun _ => True) (158 + t) (4672 + 6 * t) 103 [(0, .ref b), (1, .ref (g.1 144)), (2, .int (nI 1)), (3, .int (nI t))] [] M P := by
  intro k
  induction k with
  | zero =>
    intro t N K s M P ht hW
    obtain rfl : t = 26 := by omega
    have h := hh 26 (Nat.le_refl _)
    refine tt_iload_n h 3 dL_law_103 rfl rfl ?_
    refine tt_bipush h (nI 26) dL_law_104 (by decide) ?_
    refine tt_icmp_ge h 1240 dL_law_106 (by decide) (fun _ => ?_) (fun c => absurd (by decide) c)
    exact l_end hx h hc hW
  | succ k ih =>
    intro t N K s M P ht hW
    have h := hh t (by omega)
    refine tt_iload_n h 3 dL_law_103 rfl rfl ?_
    refine tt_bipush h (nI 26) dL_law_104 (by decide) ?_
    refine tt_icmp_ge_n h 1240 dL_law_106 (by decide) (by omega) (by decide) (fun c => absurd c (by omega)) (fun _ => ?_)
    refine l_iter hx h (hh (t + 1) (by omega)) hc hL (by omega) (by omega) (by omega) (by omega) hW (fun M' P' N' K' s' hW' => ih (t + 1) N' K' s' M' P' (by omega) ?_)
    rw [show 9999 * (t + 1) = 9999 * t + 9999 by omega, show 100000 + (t + 1) = 100000 + t + 1 by omega]
    exact hW'
