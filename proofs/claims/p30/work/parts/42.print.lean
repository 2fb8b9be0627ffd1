set_option maxRecDepth 20000 in
theorem ggL_print_X5_count : GoodIn wsL_print wsX5_count := goodIn_r _ [7, 8, 9, 10, 11, 12, 13, 14, 15, 16, 17, 18, 19, 20, 21, 22, 23, 24, 25, 26, 27, 28, 29, 30, 31, 32, 33, 34, 35, 36, 37, 38, 39, 40, 41, 42, 43, 44, 45, 46, 47, 48, 49, 50, 51, 52, 53, 54, 55, 56, 57, 58, 59, 109, 110, 111, 112, 113, 114, 115, 116, 117, 118, 119, 120, 121, 122, 123, 124, 125, 126, 127, 128, 129, 130, 131, 132, 133, 134, 135, 136, 137, 138, 139, 140, 141, 142, 143, 144] (by decide +kernel) (by decide +kernel)
set_option maxRecDepth 20000 in
theorem gL_print_X5_count : GoodIn wsL_print (wsV RL 13 RX5 yX5_count wsX5_count) := goodIn_app (goodIn_of _ (by decide +kernel)) ggL_print_X5_count
set_option maxRecDepth 20000 in
theorem ggL_print_X5_cellOf : GoodIn wsL_print wsX5_cellOf := goodIn_r _ [63, 64, 11, 65, 66, 109, 110, 111, 112, 113, 114, 115, 121, 122, 123, 124, 125, 126, 127, 128] (by decide +kernel) (by decide +kernel)
set_option maxRecDepth 20000 in
theorem gL_print_X5_cellOf : GoodIn wsL_print (wsV RL 19 RX5 yX5_cellOf wsX5_cellOf) := goodIn_app (goodIn_of _ (by decide +kernel)) ggL_print_X5_cellOf
set_option maxRecDepth 20000 in
theorem ggL_print_X5_netOf : GoodIn wsL_print wsX5_netOf := goodIn_r _ [70, 11, 71, 72, 73, 15, 74, 21, 26, 75, 76, 77, 78, 79, 47, 27, 80, 81, 82, 52, 53, 54, 55, 17, 32, 33, 34, 35, 36, 83, 84, 85, 86, 109, 110, 111, 112, 113, 114, 115, 121, 122, 123, 124, 125, 126, 127, 128, 129, 130, 131, 132, 133, 134, 135, 136, 137] (by decide +kernel) (by decide +kernel)
set_option maxRecDepth 20000 in
theorem gL_print_X5_netOf : GoodIn wsL_print (wsV RL 22 RX5 yX5_netOf wsX5_netOf) := goodIn_app (goodIn_of _ (by decide +kernel)) ggL_print_X5_netOf
set_option maxRecDepth 20000 in
theorem ggL_print_X5_claimOf : GoodIn wsL_print wsX5_claimOf := goodIn_r _ [90, 11, 91, 92, 93, 15, 94, 21, 41, 95, 96, 97, 98, 99, 42, 19, 100, 101, 102, 103, 104, 18, 105, 106, 107, 108, 20, 109, 110, 111, 112, 113, 114, 115, 121, 122, 123, 124, 125, 126, 127, 128, 138, 139, 140, 141, 142, 143, 144] (by decide +kernel) (by decide +kernel)
set_option maxRecDepth 20000 in
theorem gL_print_X5_claimOf : GoodIn wsL_print (wsV RL 26 RX5 yX5_claimOf wsX5_claimOf) := goodIn_app (goodIn_of _ (by decide +kernel)) ggL_print_X5_claimOf
theorem dL_print_0 : decode cL_print 0 = .ok (.ldc2_w 9, 3) := by decide +kernel
theorem dL_print_3 : decode cL_print 3 = .ok (.lstore_n 1, 1) := by decide +kernel
theorem dL_print_4 : decode cL_print 4 = .ok (.iconst 0, 1) := by decide +kernel
theorem dL_print_5 : decode cL_print 5 = .ok (.istore_n 3, 1) := by decide +kernel
theorem dL_print_6 : decode cL_print 6 = .ok (.iload_n 3, 1) := by decide +kernel
theorem dL_print_7 : decode cL_print 7 = .ok (.bipush 10, 2) := by decide +kernel
theorem dL_print_9 : decode cL_print 9 = .ok (.if_icmp .ge 22, 3) := by decide +kernel
theorem dL_print_12 : decode cL_print 12 = .ok (.ldc2_w 11, 3) := by decide +kernel
theorem dL_print_15 : decode cL_print 15 = .ok (.lload_n 1, 1) := by decide +kernel
theorem dL_print_16 : decode cL_print 16 = .ok (.lmul, 1) := by decide +kernel
theorem dL_print_17 : decode cL_print 17 = .ok (.aload_n 0, 1) := by decide +kernel
theorem dL_print_18 : decode cL_print 18 = .ok (.iload_n 3, 1) := by decide +kernel
theorem dL_print_19 : decode cL_print 19 = .ok (.invokevirtual 13, 3) := by decide +kernel
theorem dL_print_22 : decode cL_print 22 = .ok (.i2l, 1) := by decide +kernel
theorem dL_print_23 : decode cL_print 23 = .ok (.ladd, 1) := by decide +kernel
theorem dL_print_24 : decode cL_print 24 = .ok (.lstore_n 1, 1) := by decide +kernel
theorem dL_print_25 : decode cL_print 25 = .ok (.iinc 3 1, 3) := by decide +kernel
theorem dL_print_28 : decode cL_print 28 = .ok (.goto (-22), 3) := by decide +kernel
theorem dL_print_31 : decode cL_print 31 = .ok (.bipush 20, 2) := by decide +kernel
theorem dL_print_33 : decode cL_print 33 = .ok (.istore_n 3, 1) := by decide +kernel
theorem dL_print_34 : decode cL_print 34 = .ok (.iload_n 3, 1) := by decide +kernel
theorem dL_print_35 : decode cL_print 35 = .ok (.bipush 24, 2) := by decide +kernel
theorem dL_print_37 : decode cL_print 37 = .ok (.if_icmp .ge 22, 3) := by decide +kernel
theorem dL_print_40 : decode cL_print 40 = .ok (.ldc2_w 11, 3) := by decide +kernel
theorem dL_print_43 : decode cL_print 43 = .ok (.lload_n 1, 1) := by decide +kernel
theorem dL_print_44 : decode cL_print 44 = .ok (.lmul, 1) := by decide +kernel
theorem dL_print_45 : decode cL_print 45 = .ok (.aload_n 0, 1) := by decide +kernel
theorem dL_print_46 : decode cL_print 46 = .ok (.iload_n 3, 1) := by decide +kernel
theorem dL_print_47 : decode cL_print 47 = .ok (.invokevirtual 13, 3) := by decide +kernel
theorem dL_print_50 : decode cL_print 50 = .ok (.i2l, 1) := by decide +kernel
theorem dL_print_51 : decode cL_print 51 = .ok (.ladd, 1) := by decide +kernel
theorem dL_print_52 : decode cL_print 52 = .ok (.lstore_n 1, 1) := by decide +kernel
theorem dL_print_53 : decode cL_print 53 = .ok (.iinc 3 1, 3) := by decide +kernel
theorem dL_print_56 : decode cL_print 56 = .ok (.goto (-22), 3) := by decide +kernel
theorem dL_print_59 : decode cL_print 59 = .ok (.iconst 0, 1) := by decide +kernel
theorem dL_print_60 : decode cL_print 60 = .ok (.istore_n 3, 1) := by decide +kernel
theorem dL_print_61 : decode cL_print 61 = .ok (.iload_n 3, 1) := by decide +kernel
theorem dL_print_62 : decode cL_print 62 = .ok (.sipush 162, 3) := by decide +kernel
theorem dL_print_65 : decode cL_print 65 = .ok (.if_icmp .ge 22, 3) := by decide +kernel
theorem dL_print_68 : decode cL_print 68 = .ok (.ldc2_w 11, 3) := by decide +kernel
theorem dL_print_71 : decode cL_print 71 = .ok (.lload_n 1, 1) := by decide +kernel
theorem dL_print_72 : decode cL_print 72 = .ok (.lmul, 1) := by decide +kernel
theorem dL_print_73 : decode cL_print 73 = .ok (.aload_n 0, 1) := by decide +kernel
theorem dL_print_74 : decode cL_print 74 = .ok (.iload_n 3, 1) := by decide +kernel
theorem dL_print_75 : decode cL_print 75 = .ok (.invokevirtual 19, 3) := by decide +kernel
theorem dL_print_78 : decode cL_print 78 = .ok (.i2l, 1) := by decide +kernel
theorem dL_print_79 : decode cL_print 79 = .ok (.ladd, 1) := by decide +kernel
theorem dL_print_80 : decode cL_print 80 = .ok (.lstore_n 1, 1) := by decide +kernel
theorem dL_print_81 : decode cL_print 81 = .ok (.iinc 3 1, 3) := by decide +kernel
theorem dL_print_84 : decode cL_print 84 = .ok (.goto (-23), 3) := by decide +kernel
theorem dL_print_87 : decode cL_print 87 = .ok (.iconst 0, 1) := by decide +kernel
theorem dL_print_88 : decode cL_print 88 = .ok (.istore_n 3, 1) := by decide +kernel
theorem dL_print_89 : decode cL_print 89 = .ok (.iload_n 3, 1) := by decide +kernel
theorem dL_print_90 : decode cL_print 90 = .ok (.aload_n 0, 1) := by decide +kernel
theorem dL_print_91 : decode cL_print 91 = .ok (.iconst 0, 1) := by decide +kernel
theorem dL_print_92 : decode cL_print 92 = .ok (.invokevirtual 13, 3) := by decide +kernel
theorem dL_print_95 : decode cL_print 95 = .ok (.if_icmp .ge 40, 3) := by decide +kernel
theorem dL_print_98 : decode cL_print 98 = .ok (.iconst 0, 1) := by decide +kernel
theorem dL_print_99 : decode cL_print 99 = .ok (.istore 4, 2) := by decide +kernel
theorem dL_print_101 : decode cL_print 101 = .ok (.iload 4, 2) := by decide +kernel
theorem dL_print_103 : decode cL_print 103 = .ok (.bipush 11, 2) := by decide +kernel
theorem dL_print_105 : decode cL_print 105 = .ok (.if_icmp .ge 24, 3) := by decide +kernel
theorem dL_print_108 : decode cL_print 108 = .ok (.ldc2_w 11, 3) := by decide +kernel
theorem dL_print_111 : decode cL_print 111 = .ok (.lload_n 1, 1) := by decide +kernel
theorem dL_print_112 : decode cL_print 112 = .ok (.lmul, 1) := by decide +kernel
theorem dL_print_113 : decode cL_print 113 = .ok (.aload_n 0, 1) := by decide +kernel
theorem dL_print_114 : decode cL_print 114 = .ok (.iload_n 3, 1) := by decide +kernel
theorem dL_print_115 : decode cL_print 115 = .ok (.iload 4, 2) := by decide +kernel
theorem dL_print_117 : decode cL_print 117 = .ok (.invokevirtual 22, 3) := by decide +kernel
theorem dL_print_120 : decode cL_print 120 = .ok (.i2l, 1) := by decide +kernel
theorem dL_print_121 : decode cL_print 121 = .ok (.ladd, 1) := by decide +kernel
theorem dL_print_122 : decode cL_print 122 = .ok (.lstore_n 1, 1) := by decide +kernel
theorem dL_print_123 : decode cL_print 123 = .ok (.iinc 4 1, 3) := by decide +kernel
theorem dL_print_126 : decode cL_print 126 = .ok (.goto (-25), 3) := by decide +kernel
theorem dL_print_129 : decode cL_print 129 = .ok (.iinc 3 1, 3) := by decide +kernel
theorem dL_print_132 : decode cL_print 132 = .ok (.goto (-43), 3) := by decide +kernel
theorem dL_print_135 : decode cL_print 135 = .ok (.iconst 0, 1) := by decide +kernel
theorem dL_print_136 : decode cL_print 136 = .ok (.istore_n 3, 1) := by decide +kernel
theorem dL_print_137 : decode cL_print 137 = .ok (.iload_n 3, 1) := by decide +kernel
theorem dL_print_138 : decode cL_print 138 = .ok (.aload_n 0, 1) := by decide +kernel
theorem dL_print_139 : decode cL_print 139 = .ok (.iconst 4, 1) := by decide +kernel
theorem dL_print_140 : decode cL_print 140 = .ok (.invokevirtual 13, 3) := by decide +kernel
theorem dL_print_143 : decode cL_print 143 = .ok (.if_icmp .ge 40, 3) := by decide +kernel
theorem dL_print_146 : decode cL_print 146 = .ok (.iconst 0, 1) := by decide +kernel
theorem dL_print_147 : decode cL_print 147 = .ok (.istore 4, 2) := by decide +kernel
theorem dL_print_149 : decode cL_print 149 = .ok (.iload 4, 2) := by decide +kernel
theorem dL_print_151 : decode cL_print 151 = .ok (.bipush 8, 2) := by decide +kernel
theorem dL_print_153 : decode cL_print 153 = .ok (.if_icmp .ge 24, 3) := by decide +kernel
theorem dL_print_156 : decode cL_print 156 = .ok (.ldc2_w 11, 3) := by decide +kernel
theorem dL_print_159 : decode cL_print 159 = .ok (.lload_n 1, 1) := by decide +kernel
theorem dL_print_160 : decode cL_print 160 = .ok (.lmul, 1) := by decide +kernel
theorem dL_print_161 : decode cL_print 161 = .ok (.aload_n 0, 1) := by decide +kernel
theorem dL_print_162 : decode cL_print 162 = .ok (.iload_n 3, 1) := by decide +kernel
theorem dL_print_163 : decode cL_print 163 = .ok (.iload 4, 2) := by decide +kernel
theorem dL_print_165 : decode cL_print 165 = .ok (.invokevirtual 26, 3) := by decide +kernel
theorem dL_print_168 : decode cL_print 168 = .ok (.i2l, 1) := by decide +kernel
theorem dL_print_169 : decode cL_print 169 = .ok (.ladd, 1) := by decide +kernel
theorem dL_print_170 : decode cL_print 170 = .ok (.lstore_n 1, 1) := by decide +kernel
theorem dL_print_171 : decode cL_print 171 = .ok (.iinc 4 1, 3) := by decide +kernel
theorem dL_print_174 : decode cL_print 174 = .ok (.goto (-25), 3) := by decide +kernel
theorem dL_print_177 : decode cL_print 177 = .ok (.iinc 3 1, 3) := by decide +kernel
theorem dL_print_180 : decode cL_print 180 = .ok (.goto (-43), 3) := by decide +kernel
theorem dL_print_183 : decode cL_print 183 = .ok (.lload_n 1, 1) := by decide +kernel
theorem dL_print_184 : decode cL_print 184 = .ok (.lreturn, 1) := by decide +kernel
abbrev rmL_print : Room := { frames := 4, cells := 0, slots := 0, locals := 87 }

set_option maxRecDepth 100000 in
set_option maxHeartbeats 4000000 in
theorem c_L_print {l : Launch} {g : Geo} {M : Nat → Nat → Int32} {P : Nat → Nat} {N K B A s : Nat} (hW : WI M P N K B A s) : Met l yL_print wsL_print rmL_print (cPre g [.ref (g.1 144)] M P) (cQl g (fun r M' P' => (P = P' ∧ M = M') ∧ r = prn (M (P 0)) N K)) 0 0 (gA g) := by
  refine met_l (cc := cL_print) (maxL := 5) (by decide) rfl ⟨rfl, rfl⟩ (Nat.le_of_ble_eq_true rfl) (fun x hx h hret => ?_)
  replace h : Cxk x g cL_print 5 wsL_print RL rmL_print := h
  show X x 0 [(0, .ref (g.1 144))] [] M P
  have hN6 := hW.N6
  have hK12 := hW.K12
  refine x_ldc2 h (7) (by decide +kernel) dL_print_0 ?_
  refine x_lstore_n h rfl [(1, .long 7), (0, .ref (g.1 144))] dL_print_3 (by decide) rfl ?_
  refine x_iconst h (nI 0) dL_print_4 (by decide) ?_
  refine x_istore_n h [(3, .int (nI 0)), (1, .long 7), (0, .ref (g.1 144))] dL_print_5 rfl (by decide) rfl ?_
  have L6 : ∀ (fu : Nat) (i : Nat), (10 - i) < fu → (i ≤ 10) → X x 6 [(0, .ref (g.1 144)), (1, .long (pr1 (M (P 0)) N K i)), (3, .int (nI i))] [] M P := by
    intro fu
    induction fu with
    | zero => intro i hmu6; exact absurd hmu6 (Nat.not_lt_zero _)
    | succ fu ih6 =>
      intro i hmu6 hi
      refine x_iload_n h 2 dL_print_6 rfl rfl ?_
      refine x_bipush h (nI 10) dL_print_7 (by decide) ?_
      refine x_icmp_ge_n h 31 dL_print_9 (by decide) (by omega) (by decide) (fun c_9 => ?_) (fun c_9 => ?_)
      · -- 9 true
        obtain rfl : 10 = i := by omega
        refine x_bipush h (nI 20) dL_print_31 (by decide) ?_
        refine x_istore_n h [(3, .int (nI 20)), (0, .ref (g.1 144)), (1, .long (pr1 (M (P 0)) N K 10))] dL_print_33 rfl (by decide) rfl ?_
        have L34 : ∀ (fu : Nat) (i : Nat), (4 - i) < fu → (i ≤ 4) → X x 34 [(0, .ref (g.1 144)), (1, .long (pr2 (M (P 0)) N K i)), (3, .int (nI (20 + i)))] [] M P := by
          intro fu
          induction fu with
          | zero => intro i hmu34; exact absurd hmu34 (Nat.not_lt_zero _)
          | succ fu ih34 =>
            intro i hmu34 hi
            refine x_iload_n h 2 dL_print_34 rfl rfl ?_
            refine x_bipush h (nI 24) dL_print_35 (by decide) ?_
            refine x_icmp_ge_n h 59 dL_print_37 (by decide) (by omega) (by decide) (fun c_37 => ?_) (fun c_37 => ?_)
            · -- 37 true
              obtain rfl : 4 = i := by omega
              refine x_iconst h (nI 0) dL_print_59 (by decide) ?_
              refine x_istore_n h [(3, .int (nI 0)), (0, .ref (g.1 144)), (1, .long (pr2 (M (P 0)) N K 4))] dL_print_60 rfl (by decide) rfl ?_
              have L61 : ∀ (fu : Nat) (i : Nat), (162 - i) < fu → (i ≤ 162) → X x 61 [(0, .ref (g.1 144)), (1, .long (pr3 (M (P 0)) N K i)), (3, .int (nI i))] [] M P := by
                intro fu
                induction fu with
                | zero => intro i hmu61; exact absurd hmu61 (Nat.not_lt_zero _)
                | succ fu ih61 =>
                  intro i hmu61 hi
                  refine x_iload_n h 2 dL_print_61 rfl rfl ?_
                  refine x_sipush h (nI 162) dL_print_62 (by decide) ?_
                  refine x_icmp_ge_n h 87 dL_print_65 (by decide) (by omega) (by decide) (fun c_65 => ?_) (fun c_65 => ?_)
                  · -- 65 true
                    obtain rfl : 162 = i := by omega
                    refine x_iconst h (nI 0) dL_print_87 (by decide) ?_
                    refine x_istore_n h [(3, .int (nI 0)), (0, .ref (g.1 144)), (1, .long (pr3 (M (P 0)) N K 162))] dL_print_88 rfl (by decide) rfl ?_
                    have L89 : ∀ (fu : Nat) (i : Nat), (N - i) < fu → (i ≤ N) → X x 89 [(0, .ref (g.1 144)), (1, .long (pr4 (M (P 0)) N K i)), (3, .int (nI i))] [] M P := by
                      intro fu
                      induction fu with
                      | zero => intro i hmu89; exact absurd hmu89 (Nat.not_lt_zero _)
                      | succ fu ih89 =>
                        intro i hmu89 hi
                        refine x_iload_n h 2 dL_print_89 rfl rfl ?_
                        refine x_aload_n h 0 dL_print_90 rfl rfl ?_
                        refine x_iconst h (nI 0) dL_print_91 (by decide) ?_
                        refine x_callV h (As := [.int (nI 0)]) 1 hx (c_X5_count hW.hP hW.hI hW.hs hW.hs4 hW.hln) gL_print_X5_count rfl ⟨rfl, rfl⟩ (by decide +kernel) rfl (by decide) (by decide) E_144 rfl rfl (Nat.le_of_ble_eq_true rfl) dL_print_92 (fun a92 M' P' hp => ?_)
                        obtain ⟨⟨rfl, rfl⟩, hQ⟩ := hp
                        obtain rfl := cnt_at (j := 0) (by omega) (by omega) (by omega) hQ
                        refine x_icmp_ge_n h 135 dL_print_95 (by decide) (by omega) (by omega) (fun c_95 => ?_) (fun c_95 => ?_)
                        · -- 95 true
                          obtain rfl : N = i := by omega
                          refine x_iconst h (nI 0) dL_print_135 (by decide) ?_
                          refine x_istore_n h [(3, .int (nI 0)), (0, .ref (g.1 144)), (1, .long (pr4 (M (P 0)) N K N))] dL_print_136 rfl (by decide) rfl ?_
                          have L137 : ∀ (fu : Nat) (i : Nat), (K - i) < fu → (i ≤ K) → X x 137 [(0, .ref (g.1 144)), (1, .long (pr5 (M (P 0)) N K i)), (3, .int (nI i))] [] M P := by
                            intro fu
                            induction fu with
                            | zero => intro i hmu137; exact absurd hmu137 (Nat.not_lt_zero _)
                            | succ fu ih137 =>
                              intro i hmu137 hi
                              refine x_iload_n h 2 dL_print_137 rfl rfl ?_
                              refine x_aload_n h 0 dL_print_138 rfl rfl ?_
                              refine x_iconst h (nI 4) dL_print_139 (by decide) ?_
                              refine x_callV h (As := [.int (nI 4)]) 1 hx (c_X5_count hW.hP hW.hI hW.hs hW.hs4 hW.hln) gL_print_X5_count rfl ⟨rfl, rfl⟩ (by decide +kernel) rfl (by decide) (by decide) E_144 rfl rfl (Nat.le_of_ble_eq_true rfl) dL_print_140 (fun a140 M' P' hp => ?_)
                              obtain ⟨⟨rfl, rfl⟩, hQ⟩ := hp
                              obtain rfl := cnt_at (j := 4) (by omega) (by omega) (by omega) hQ
                              refine x_icmp_ge_n h 183 dL_print_143 (by decide) (by omega) (by omega) (fun c_143 => ?_) (fun c_143 => ?_)
                              · -- 143 true
                                obtain rfl : K = i := by omega
                                refine x_lload_n h 1 rfl rfl dL_print_183 ?_
                                exact hret _ _ _ _ _ dL_print_184 (by exact ⟨⟨rfl, rfl⟩, rfl⟩)
                              · -- 143 false
                                refine x_iconst h (nI 0) dL_print_146 (by decide) ?_
                                refine x_istore h [(4, .int (nI 0)), (0, .ref (g.1 144)), (1, .long (pr5 (M (P 0)) N K i)), (3, .int (nI i))] dL_print_147 (by decide) rfl ?_
                                have L149 : ∀ (fu : Nat) (j : Nat), (8 - j) < fu → (j ≤ 8) → X x 149 [(0, .ref (g.1 144)), (1, .long (lf (fClm (M (P 0)) i) (pr5 (M (P 0)) N K i) j)), (3, .int (nI i)), (4, .int (nI j))] [] M P := by
                                  intro fu
                                  induction fu with
                                  | zero => intro j hmu149; exact absurd hmu149 (Nat.not_lt_zero _)
                                  | succ fu ih149 =>
                                    intro j hmu149 hj
                                    refine x_iload h 3 dL_print_149 rfl ?_
                                    refine x_bipush h (nI 8) dL_print_151 (by decide) ?_
                                    refine x_icmp_ge_n h 177 dL_print_153 (by decide) (by omega) (by decide) (fun c_153 => ?_) (fun c_153 => ?_)
                                    · -- 153 true
                                      obtain rfl : 8 = j := by omega
                                      refine x_iinc_n h 2 (n := 1) [(3, .int (nI (i + 1))), (0, .ref (g.1 144)), (1, .long (lf (fClm (M (P 0)) i) (pr5 (M (P 0)) N K i) 8)), (4, .int (nI 8))] dL_print_177 rfl (by decide) rfl ?_
                                      refine x_goto h 137 dL_print_180 (by decide) ?_
                                      exact x_lv (ih137 (i + 1) (by omega) (by omega)) [1, 2, 0] rfl
                                    · -- 153 false
                                      refine x_ldc2 h (31) (by decide +kernel) dL_print_156 ?_
                                      refine x_lload_n h 1 rfl rfl dL_print_159 ?_
                                      refine x_lmul h dL_print_160 ?_
                                      refine x_aload_n h 0 dL_print_161 rfl rfl ?_
                                      refine x_iload_n h 2 dL_print_162 rfl rfl ?_
                                      refine x_iload h 3 dL_print_163 rfl ?_
                                      refine x_callV h (As := [.int (nI i), .int (nI j)]) 2 hx (c_X5_claimOf hW.hP hW.hI) gL_print_X5_claimOf rfl ⟨rfl, rfl⟩ (by decide +kernel) rfl (by decide) (by decide) E_144 rfl rfl (Nat.le_of_ble_eq_true rfl) dL_print_165 (fun a165 M' P' hp => ?_)
                                      obtain ⟨⟨rfl, rfl⟩, hQ⟩ := hp
                                      obtain rfl := clm_at hK12 (by omega) (by omega) hQ
                                      refine x_i2l h dL_print_168 ?_
                                      refine x_ladd h dL_print_169 ?_
                                      refine x_lstore_n h rfl [(1, .long ((31 * (lf (fClm (M (P 0)) i) (pr5 (M (P 0)) N K i) j)) + (((fClm (M (P 0)) i j)).toInt64))), (0, .ref (g.1 144)), (3, .int (nI i)), (4, .int (nI j))] dL_print_170 (by decide) rfl ?_
                                      refine x_iinc_n h 3 (n := 1) [(4, .int (nI (j + 1))), (1, .long ((31 * (lf (fClm (M (P 0)) i) (pr5 (M (P 0)) N K i) j)) + (((fClm (M (P 0)) i j)).toInt64))), (0, .ref (g.1 144)), (3, .int (nI i))] dL_print_171 rfl (by decide) rfl ?_
                                      refine x_goto h 149 dL_print_174 (by decide) ?_
                                      exact x_lv (ih149 (j + 1) (by omega) (by omega)) [2, 1, 3, 0] rfl
                                exact x_lv (L149 _ 0 (Nat.lt_succ_self _) (by omega)) [1, 2, 3, 0] rfl
                          exact x_lv (L137 _ 0 (Nat.lt_succ_self _) (by omega)) [1, 2, 0] rfl
                        · -- 95 false
                          refine x_iconst h (nI 0) dL_print_98 (by decide) ?_
                          refine x_istore h [(4, .int (nI 0)), (0, .ref (g.1 144)), (1, .long (pr4 (M (P 0)) N K i)), (3, .int (nI i))] dL_print_99 (by decide) rfl ?_
                          have L101 : ∀ (fu : Nat) (j : Nat), (11 - j) < fu → (j ≤ 11) → X x 101 [(0, .ref (g.1 144)), (1, .long (lf (fNet eC (M (P 0)) i) (pr4 (M (P 0)) N K i) j)), (3, .int (nI i)), (4, .int (nI j))] [] M P := by
                            intro fu
                            induction fu with
                            | zero => intro j hmu101; exact absurd hmu101 (Nat.not_lt_zero _)
                            | succ fu ih101 =>
                              intro j hmu101 hj
                              refine x_iload h 3 dL_print_101 rfl ?_
                              refine x_bipush h (nI 11) dL_print_103 (by decide) ?_
                              refine x_icmp_ge_n h 129 dL_print_105 (by decide) (by omega) (by decide) (fun c_105 => ?_) (fun c_105 => ?_)
                              · -- 105 true
                                obtain rfl : 11 = j := by omega
                                refine x_iinc_n h 2 (n := 1) [(3, .int (nI (i + 1))), (0, .ref (g.1 144)), (1, .long (lf (fNet eC (M (P 0)) i) (pr4 (M (P 0)) N K i) 11)), (4, .int (nI 11))] dL_print_129 rfl (by decide) rfl ?_
                                refine x_goto h 89 dL_print_132 (by decide) ?_
                                exact x_lv (ih89 (i + 1) (by omega) (by omega)) [1, 2, 0] rfl
                              · -- 105 false
                                refine x_ldc2 h (31) (by decide +kernel) dL_print_108 ?_
                                refine x_lload_n h 1 rfl rfl dL_print_111 ?_
                                refine x_lmul h dL_print_112 ?_
                                refine x_aload_n h 0 dL_print_113 rfl rfl ?_
                                refine x_iload_n h 2 dL_print_114 rfl rfl ?_
                                refine x_iload h 3 dL_print_115 rfl ?_
                                refine x_callV h (As := [.int (nI i), .int (nI j)]) 2 hx (c_X5_netOf hW.hP hW.hI) gL_print_X5_netOf rfl ⟨rfl, rfl⟩ (by decide +kernel) rfl (by decide) (by decide) E_144 rfl rfl (Nat.le_of_ble_eq_true rfl) dL_print_117 (fun a117 M' P' hp => ?_)
                                obtain ⟨⟨rfl, rfl⟩, hQ⟩ := hp
                                obtain rfl := net_at hN6 (by omega) (by omega) hQ
                                refine x_i2l h dL_print_120 ?_
                                refine x_ladd h dL_print_121 ?_
                                refine x_lstore_n h rfl [(1, .long ((31 * (lf (fNet eC (M (P 0)) i) (pr4 (M (P 0)) N K i) j)) + (((fNet eC (M (P 0)) i j)).toInt64))), (0, .ref (g.1 144)), (3, .int (nI i)), (4, .int (nI j))] dL_print_122 (by decide) rfl ?_
                                refine x_iinc_n h 3 (n := 1) [(4, .int (nI (j + 1))), (1, .long ((31 * (lf (fNet eC (M (P 0)) i) (pr4 (M (P 0)) N K i) j)) + (((fNet eC (M (P 0)) i j)).toInt64))), (0, .ref (g.1 144)), (3, .int (nI i))] dL_print_123 rfl (by decide) rfl ?_
                                refine x_goto h 101 dL_print_126 (by decide) ?_
                                exact x_lv (ih101 (j + 1) (by omega) (by omega)) [2, 1, 3, 0] rfl
                          exact x_lv (L101 _ 0 (Nat.lt_succ_self _) (by omega)) [1, 2, 3, 0] rfl
                    exact x_lv (L89 _ 0 (Nat.lt_succ_self _) (by omega)) [1, 2, 0] rfl
                  · -- 65 false
                    refine x_ldc2 h (31) (by decide +kernel) dL_print_68 ?_
                    refine x_lload_n h 1 rfl rfl dL_print_71 ?_
                    refine x_lmul h dL_print_72 ?_
                    refine x_aload_n h 0 dL_print_73 rfl rfl ?_
                    refine x_iload_n h 2 dL_print_74 rfl rfl ?_
                    refine x_callV h (As := [.int (nI i)]) 1 hx (c_X5_cellOf hW.hP hW.hI) gL_print_X5_cellOf rfl ⟨rfl, rfl⟩ (by decide +kernel) rfl (by decide) (by decide) E_144 rfl rfl (Nat.le_of_ble_eq_true rfl) dL_print_75 (fun a75 M' P' hp => ?_)
                    obtain ⟨⟨rfl, rfl⟩, hQ⟩ := hp
                    obtain rfl := cell_at (by omega) hQ
                    refine x_i2l h dL_print_78 ?_
                    refine x_ladd h dL_print_79 ?_
                    refine x_lstore_n h rfl [(1, .long ((31 * (pr3 (M (P 0)) N K i)) + (((cellV (M (P 0)) i)).toInt64))), (0, .ref (g.1 144)), (3, .int (nI i))] dL_print_80 (by decide) rfl ?_
                    refine x_iinc_n h 2 (n := 1) [(3, .int (nI (i + 1))), (1, .long ((31 * (pr3 (M (P 0)) N K i)) + (((cellV (M (P 0)) i)).toInt64))), (0, .ref (g.1 144))] dL_print_81 rfl (by decide) rfl ?_
                    refine x_goto h 61 dL_print_84 (by decide) ?_
                    exact x_lv (ih61 (i + 1) (by omega) (by omega)) [2, 1, 0] rfl
              exact x_lv (L61 _ 0 (Nat.lt_succ_self _) (by omega)) [1, 2, 0] rfl
            · -- 37 false
              refine x_ldc2 h (31) (by decide +kernel) dL_print_40 ?_
              refine x_lload_n h 1 rfl rfl dL_print_43 ?_
              refine x_lmul h dL_print_44 ?_
              refine x_aload_n h 0 dL_print_45 rfl rfl ?_
              refine x_iload_n h 2 dL_print_46 rfl rfl ?_
              refine x_callV h (As := [.int (nI (20 + i))]) 1 hx (c_X5_count hW.hP hW.hI hW.hs hW.hs4 hW.hln) gL_print_X5_count rfl ⟨rfl, rfl⟩ (by decide +kernel) rfl (by decide) (by decide) E_144 rfl rfl (Nat.le_of_ble_eq_true rfl) dL_print_47 (fun a47 M' P' hp => ?_)
              obtain ⟨⟨rfl, rfl⟩, hQ⟩ := hp
              obtain rfl := cnt_at (by omega) (by omega) (by omega) hQ
              refine x_i2l h dL_print_50 ?_
              refine x_ladd h dL_print_51 ?_
              refine x_lstore_n h rfl [(1, .long ((31 * (pr2 (M (P 0)) N K i)) + (((fCnt eC (M (P 0)) N K (20 + i))).toInt64))), (0, .ref (g.1 144)), (3, .int (nI (20 + i)))] dL_print_52 (by decide) rfl ?_
              refine x_iinc_n h 2 (n := 1) [(3, .int (nI ((20 + i) + 1))), (1, .long ((31 * (pr2 (M (P 0)) N K i)) + (((fCnt eC (M (P 0)) N K (20 + i))).toInt64))), (0, .ref (g.1 144))] dL_print_53 rfl (by decide) rfl ?_
              refine x_goto h 34 dL_print_56 (by decide) ?_
              exact x_lv (ih34 (i + 1) (by omega) (by omega)) [2, 1, 0] rfl
        exact x_lv (L34 _ 0 (Nat.lt_succ_self _) (by omega)) [1, 2, 0] rfl
      · -- 9 false
        refine x_ldc2 h (31) (by decide +kernel) dL_print_12 ?_
        refine x_lload_n h 1 rfl rfl dL_print_15 ?_
        refine x_lmul h dL_print_16 ?_
        refine x_aload_n h 0 dL_print_17 rfl rfl ?_
        refine x_iload_n h 2 dL_print_18 rfl rfl ?_
        refine x_callV h (As := [.int (nI i)]) 1 hx (c_X5_count hW.hP hW.hI hW.hs hW.hs4 hW.hln) gL_print_X5_count rfl ⟨rfl, rfl⟩ (by decide +kernel) rfl (by decide) (by decide) E_144 rfl rfl (Nat.le_of_ble_eq_true rfl) dL_print_19 (fun a19 M' P' hp => ?_)
        obtain ⟨⟨rfl, rfl⟩, hQ⟩ := hp
        obtain rfl := cnt_at (by omega) (by omega) (by omega) hQ
        refine x_i2l h dL_print_22 ?_
        refine x_ladd h dL_print_23 ?_
        refine x_lstore_n h rfl [(1, .long ((31 * (pr1 (M (P 0)) N K i)) + (((fCnt eC (M (P 0)) N K i)).toInt64))), (0, .ref (g.1 144)), (3, .int (nI i))] dL_print_24 (by decide) rfl ?_
        refine x_iinc_n h 2 (n := 1) [(3, .int (nI (i + 1))), (1, .long ((31 * (pr1 (M (P 0)) N K i)) + (((fCnt eC (M (P 0)) N K i)).toInt64))), (0, .ref (g.1 144))] dL_print_25 rfl (by decide) rfl ?_
        refine x_goto h 6 dL_print_28 (by decide) ?_
        exact x_lv (ih6 (i + 1) (by omega) (by omega)) [2, 1, 0] rfl
  exact x_lv (L6 _ 0 (Nat.lt_succ_self _) (by omega)) [2, 1, 0] rfl
