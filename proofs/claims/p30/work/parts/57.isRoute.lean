theorem tt_eq {x : Ctx} {E : Heap → Prop} {n1 n2 pc : Nat} {lv lv' : List (Nat × Value)} {st : List Value} {M : Nat → Nat → Int32} {P : Nat → Nat} (hl : lv = lv') (k : T x E n1 n2 pc lv' st M P) : T x E n1 n2 pc lv st M P := hl ▸ k
theorem pri_nil {X : Nat → Int32} {N : Nat} : priE eC X N [] = 0 := sumN_0 (fun k _ => by
  unfold dueE
  rw [thr_nil, Nat.zero_mul])
theorem vic_nil {X : Nat → Int32} {N : Nat} : bset (vicE eC X []) N = 0 := bset_0 (fun k _ => by
  unfold vicE
  simp)
set_option maxRecDepth 100000 in
set_option maxHeartbeats 16000000 in
theorem c_L_isRoute {l : Launch} {g : Geo} {M : Nat → Nat → Int32} {P : Nat → Nat} {N K B A s : Nat} (hW : WI M P N K B A s) {n b : Nat} (hn : n < N) (hb : b < 2) {sz : Nat} : Met l yL_isRoute wsL_isRoute rmL_isRoute (cPreS g [.ref (g.1 144), .int (nI n), .int (nI b)] M P sz) (cQz g sz (fun r M' P' => P = P' ∧ FrS P M M' ∧ r = nI 1)) 1 6 (fun q => gA g q ∨ sz ≤ q) := by
  refine met_t (cc := cL_isRoute) (maxL := 17) (by decide) rfl (Nat.le_of_ble_eq_true rfl) (fun x hx h hret hretT => ?_)
  replace h : Cxk x g cL_isRoute 17 wsL_isRoute RL rmL_isRoute := h
  show X x 0 [(0, .ref (g.1 144)), (1, .int (nI n)), (2, .int (nI b))] [] M P
  have hN6 := hW.N6
  have hK12 := hW.K12
  obtain ⟨X, hX⟩ : ∃ X, M (P 0) = X := ⟨_, rfl⟩
  have hR : RS M P X N K B A s M := ⟨hW, hX, FrS_rf⟩
  have hG0 : GI X N K B A := hX ▸ hW.hG
  have hI := hG0.1
  have hGd := hI.1.1
  have hGn := hGd.net hn
  have hp0l := hGn.p0.2.1
  have hnw0 := hG0.2.1
  refine x_aload_n h 0 dL_isRoute_0 rfl rfl ?_
  refine x_iload_n h 1 dL_isRoute_1 rfl rfl ?_
  refine x_iload_n h 2 dL_isRoute_2 rfl rfl ?_
  refine x_callV h (As := [.int (nI n), .int (nI b)]) 2 hx (c_X5_cost hR.1.hP hR.1.hI hR.1.hNb) gL_isRoute_X5_cost rfl ⟨rfl, rfl⟩ (by decide +kernel) rfl (by decide) (by decide) E_144 rfl rfl (Nat.le_of_ble_eq_true rfl) dL_isRoute_3 (fun a3 M3_ P3_ hp => ?_)
  rw [hR.2.1] at hp
  obtain ⟨rfl, hF, hQ⟩ := hp
  replace hR := RS_fr hR (FrS_F hF)
  clear hF
  rcases rt_at hN6 hn hb hQ with ⟨hjn, rfl⟩ | ⟨hj0, ⟨hno, rfl⟩ | ⟨z, l1, l2, hrt, rfl⟩⟩
  · skip
    have hc : (¬ X (169 + 9 * n + 5) = 0 ∧ (-1000002 : Int32) = -1000002) ∨ (X (169 + 9 * n + 5) = 0 ∧ rtX eC X N n (decide (b = 1)) = none ∧ (-1000002 : Int32) = -1000004) := Or.inl ⟨hjn, rfl⟩
    refine x_istore_n h [(3, .int (-1000002)), (0, .ref (g.1 144)), (1, .int (nI n)), (2, .int (nI b))] dL_isRoute_6 rfl (by decide) rfl ?_
    refine x_iload_n h 0 dL_isRoute_7 rfl rfl ?_
    refine x_if_ge h 58 dL_isRoute_8 (by decide) (fun c => absurd c (by decide)) (fun _ => ?_)
    refine x_aload_n h 1 dL_isRoute_11 rfl rfl ?_
    refine x_iload_n h 2 dL_isRoute_12 rfl rfl ?_
    refine x_iload_n h 3 dL_isRoute_13 rfl rfl ?_
    refine x_iconst h (nI 0) dL_isRoute_14 (by decide) ?_
    refine x_callV h (As := [.int (nI n), .int (nI b), .int (nI 0)]) 3 hx (c_X5_routeAt hR.1.hP hR.1.hI hR.1.hNb) gL_isRoute_X5_routeAt rfl ⟨rfl, rfl⟩ (by decide +kernel) rfl (by decide) (by decide) E_144 rfl rfl (Nat.le_of_ble_eq_true rfl) dL_isRoute_15 (fun a15 M15_ P15_ hp => ?_)
    rw [hR.2.1] at hp
    obtain ⟨rfl, hF, hQ⟩ := hp
    replace hR := RS_fr hR (FrS_F hF)
    clear hF
    obtain rfl := ra_err (c := -1000002) (j := 0) hN6 hn hb (by decide) hc hQ
    refine x_iload_n h 0 dL_isRoute_18 rfl rfl ?_
    refine x_icmp_ne h 56 dL_isRoute_19 (by decide) (fun c => absurd c (by decide)) (fun _ => ?_)
    refine x_iload_n h 3 dL_isRoute_22 rfl rfl ?_
    refine x_iconst h (nI 1) dL_isRoute_23 (by decide) ?_
    refine x_icmp_eq_n h 52 dL_isRoute_24 (by decide) (by first | omega | exact pri_lt hGd | exact Nat.lt_of_lt_of_le (vicE_lt hN6) (by decide)) (by decide) (fun c_24 => ?_) (fun c_24 => ?_)
    · -- 24 true
      refine x_iconst h (nI 1) dL_isRoute_52 (by decide) ?_
      refine x_goto h 57 dL_isRoute_53 (by decide) ?_
      exact hret _ _ _ _ _ dL_isRoute_57 (by decide) (by exact ⟨rfl, hR.2.2, rfl⟩)
    · -- 24 false
      refine x_iload_n h 0 dL_isRoute_27 rfl rfl ?_
      refine x_ldc h ((-1000002)) (by decide +kernel) dL_isRoute_28 ?_
      refine x_icmp_eq h 52 dL_isRoute_30 (by decide) (fun _ => ?_) (fun c => absurd (by decide) c)
      refine x_iconst h (nI 1) dL_isRoute_52 (by decide) ?_
      refine x_goto h 57 dL_isRoute_53 (by decide) ?_
      exact hret _ _ _ _ _ dL_isRoute_57 (by decide) (by exact ⟨rfl, hR.2.2, rfl⟩)
  · skip
    have hc : (¬ X (169 + 9 * n + 5) = 0 ∧ (-1000004 : Int32) = -1000002) ∨ (X (169 + 9 * n + 5) = 0 ∧ rtX eC X N n (decide (b = 1)) = none ∧ (-1000004 : Int32) = -1000004) := Or.inr ⟨hj0, hno, rfl⟩
    refine x_istore_n h [(3, .int (-1000004)), (0, .ref (g.1 144)), (1, .int (nI n)), (2, .int (nI b))] dL_isRoute_6 rfl (by decide) rfl ?_
    refine x_iload_n h 0 dL_isRoute_7 rfl rfl ?_
    refine x_if_ge h 58 dL_isRoute_8 (by decide) (fun c => absurd c (by decide)) (fun _ => ?_)
    refine x_aload_n h 1 dL_isRoute_11 rfl rfl ?_
    refine x_iload_n h 2 dL_isRoute_12 rfl rfl ?_
    refine x_iload_n h 3 dL_isRoute_13 rfl rfl ?_
    refine x_iconst h (nI 0) dL_isRoute_14 (by decide) ?_
    refine x_callV h (As := [.int (nI n), .int (nI b), .int (nI 0)]) 3 hx (c_X5_routeAt hR.1.hP hR.1.hI hR.1.hNb) gL_isRoute_X5_routeAt rfl ⟨rfl, rfl⟩ (by decide +kernel) rfl (by decide) (by decide) E_144 rfl rfl (Nat.le_of_ble_eq_true rfl) dL_isRoute_15 (fun a15_1 M15_1_ P15_1_ hp => ?_)
    rw [hR.2.1] at hp
    obtain ⟨rfl, hF, hQ⟩ := hp
    replace hR := RS_fr hR (FrS_F hF)
    clear hF
    obtain rfl := ra_err (c := -1000004) (j := 0) hN6 hn hb (by decide) hc hQ
    refine x_iload_n h 0 dL_isRoute_18 rfl rfl ?_
    refine x_icmp_ne h 56 dL_isRoute_19 (by decide) (fun c => absurd c (by decide)) (fun _ => ?_)
    refine x_iload_n h 3 dL_isRoute_22 rfl rfl ?_
    refine x_iconst h (nI 1) dL_isRoute_23 (by decide) ?_
    refine x_icmp_eq_n h 52 dL_isRoute_24 (by decide) (by first | omega | exact pri_lt hGd | exact Nat.lt_of_lt_of_le (vicE_lt hN6) (by decide)) (by decide) (fun c_24 => ?_) (fun c_24 => ?_)
    · -- 24 true
      refine x_iconst h (nI 1) dL_isRoute_52 (by decide) ?_
      refine x_goto h 57 dL_isRoute_53 (by decide) ?_
      exact hret _ _ _ _ _ dL_isRoute_57 (by decide) (by exact ⟨rfl, hR.2.2, rfl⟩)
    · -- 24 false
      refine x_iload_n h 0 dL_isRoute_27 rfl rfl ?_
      refine x_ldc h ((-1000002)) (by decide +kernel) dL_isRoute_28 ?_
      refine x_icmp_eq h 52 dL_isRoute_30 (by decide) (fun c => absurd c (by decide)) (fun _ => ?_)
      refine x_aload_n h 1 dL_isRoute_33 rfl rfl ?_
      refine x_iload_n h 2 dL_isRoute_34 rfl rfl ?_
      refine x_iconst h (nI 1) dL_isRoute_35 (by decide) ?_
      refine x_callV h (As := [.int (nI n), .int (nI 1)]) 2 hx (c_X5_cost hR.1.hP hR.1.hI hR.1.hNb) gL_isRoute_X5_cost rfl ⟨rfl, rfl⟩ (by decide +kernel) rfl (by decide) (by decide) E_144 rfl rfl (Nat.le_of_ble_eq_true rfl) dL_isRoute_36 (fun a36 M36_ P36_ hp => ?_)
      rw [hR.2.1] at hp
      obtain ⟨rfl, hF, hQ⟩ := hp
      replace hR := RS_fr hR (FrS_F hF)
      clear hF
      rcases rt_at (b := 1) hN6 hn (by decide) hQ with ⟨hjn, -⟩ | ⟨-, ⟨hno2, rfl⟩ | ⟨z2, u1, u2, hr2, rfl⟩⟩
      · exact absurd hj0 hjn
      · skip
        refine x_iload_n h 0 dL_isRoute_39 rfl rfl ?_
        refine x_icmp_le h 52 dL_isRoute_40 (by decide) (fun _ => ?_) (fun c => absurd (by decide) c)
        refine x_iconst h (nI 1) dL_isRoute_52 (by decide) ?_
        refine x_goto h 57 dL_isRoute_53 (by decide) ?_
        exact hret _ _ _ _ _ dL_isRoute_57 (by decide) (by exact ⟨rfl, hR.2.2, rfl⟩)
      · have hz2 := rt_z hGd hn (hnw0 n hn (hj0.trans nI_0.symm)) hr2
        refine x_iload_n h 0 dL_isRoute_39 rfl rfl ?_
        refine x_icmp_le h 52 dL_isRoute_40 (by decide) (fun c_40 => by exfalso; exact absurd (Int32.le_trans (nI_pos' (n := z2) (by omega)) c_40) (by decide)) (fun c_40 => ?_)
        refine x_aload_n h 1 dL_isRoute_43 rfl rfl ?_
        refine x_iload_n h 2 dL_isRoute_44 rfl rfl ?_
        refine x_iconst h (nI 1) dL_isRoute_45 (by decide) ?_
        refine x_callV h (As := [.int (nI n), .int (nI 1)]) 2 hx (c_X5_cost hR.1.hP hR.1.hI hR.1.hNb) gL_isRoute_X5_cost rfl ⟨rfl, rfl⟩ (by decide +kernel) rfl (by decide) (by decide) E_144 rfl rfl (Nat.le_of_ble_eq_true rfl) dL_isRoute_46 (fun a46 M46_ P46_ hp => ?_)
        rw [hR.2.1] at hp
        obtain ⟨rfl, hF, hQ⟩ := hp
        replace hR := RS_fr hR (FrS_F hF)
        clear hF
        obtain rfl := rt_ok (b := 1) hN6 hn (by decide) hj0 hr2 hQ
        refine x_if_lt_n h 56 dL_isRoute_49 (by decide) (by first | omega | exact pri_lt hGd | exact Nat.lt_of_lt_of_le (vicE_lt hN6) (by decide)) ?_
        refine x_iconst h (nI 1) dL_isRoute_52 (by decide) ?_
        refine x_goto h 57 dL_isRoute_53 (by decide) ?_
        exact hret _ _ _ _ _ dL_isRoute_57 (by decide) (by exact ⟨rfl, hR.2.2, rfl⟩)
  · skip
    have hnw : ∀ a, a < 162 → X (7 + a) ≠ nI n := hnw0 n hn (hj0.trans nI_0.symm)
    have hzb := rt_z hGd hn hnw hrt
    have hok := rtX_ok hGd hn hrt
    have hlen := rt_len hok
    refine x_istore_n h [(3, .int (nI z)), (0, .ref (g.1 144)), (1, .int (nI n)), (2, .int (nI b))] dL_isRoute_6 rfl (by decide) rfl ?_
    refine x_iload_n h 0 dL_isRoute_7 rfl rfl ?_
    refine x_if_ge_n h 58 dL_isRoute_8 (by decide) (by first | omega | exact pri_lt hGd | exact Nat.lt_of_lt_of_le (vicE_lt hN6) (by decide)) ?_
    refine x_bipush h (nI 6) dL_isRoute_58 (by decide) ?_
    refine tt_new h (by decide +kernel) (by decide) (by decide) dL_isRoute_60 (fun a cL hz => ?_)
    replace h : ∀ m, Tk x g (zE g a cL m) 1 6 cL_isRoute 17 wsL_isRoute RL rmL_isRoute := fun m => ⟨h, Est_z m hz.2.1, by decide, by decide⟩
    refine tt_astore (h _) [(4, .ref a), (3, .int (nI z)), (0, .ref (g.1 144)), (1, .int (nI n)), (2, .int (nI b))] dL_isRoute_62 (by decide) rfl ?_
    refine tt_iconst (h _) (nI 1) dL_isRoute_64 (by decide) ?_
    refine tt_istore (h _) [(5, .int (nI 1)), (4, .ref a), (3, .int (nI z)), (0, .ref (g.1 144)), (1, .int (nI n)), (2, .int (nI b))] dL_isRoute_65 (by decide) rfl ?_
    refine tt_iconst (h _) (nI 0) dL_isRoute_67 (by decide) ?_
    refine tt_istore (h _) [(6, .int (nI 0)), (5, .int (nI 1)), (4, .ref a), (3, .int (nI z)), (0, .ref (g.1 144)), (1, .int (nI n)), (2, .int (nI b))] dL_isRoute_68 (by decide) rfl ?_
    refine tt_iconst (h _) (nI 0) dL_isRoute_70 (by decide) ?_
    refine tt_istore (h _) [(7, .int (nI 0)), (6, .int (nI 0)), (5, .int (nI 1)), (4, .ref a), (3, .int (nI z)), (0, .ref (g.1 144)), (1, .int (nI n)), (2, .int (nI b))] dL_isRoute_71 (by decide) rfl ?_
    refine tt_iconst (h _) (nI 0) dL_isRoute_73 (by decide) ?_
    refine tt_istore (h _) [(8, .int (nI 0)), (7, .int (nI 0)), (6, .int (nI 0)), (5, .int (nI 1)), (4, .ref a), (3, .int (nI z)), (0, .ref (g.1 144)), (1, .int (nI n)), (2, .int (nI b))] dL_isRoute_74 (by decide) rfl ?_
    refine tt_aload (h _) 4 dL_isRoute_76 rfl ?_
    refine tt_aload_n (h _) 6 dL_isRoute_78 rfl rfl ?_
    refine tt_iload_n (h _) 7 dL_isRoute_79 rfl rfl ?_
    refine tt_iconst (h _) (nI 0) dL_isRoute_80 (by decide) ?_
    refine tt_callV (h _) (As := [.int (nI n), .int (nI 0)]) 2 hx (c_X5_netOf hR.1.hP hR.1.hI) gL_isRoute_X5_netOf rfl ⟨rfl, rfl⟩ (by decide +kernel) rfl (by decide) (by decide) E_144 rfl rfl (Nat.le_of_ble_eq_true rfl) dL_isRoute_81 (fun a81 M' P' hp => ?_)
    rw [hR.2.1] at hp
    obtain ⟨⟨rfl, rfl⟩, hQ⟩ := hp
    have hz' := net_at (k := n) (j := 0) hN6 hn (by omega) hQ
    clear hQ
    subst hz'
    refine tt_top (nI (p0X X n)) (hGn.p0.1) ?_
    refine tt_iconst (h _) (nI 1) dL_isRoute_84 (by decide) ?_
    refine tt_marks (h _) hz (c := (p0X X n)) (hh := 1) (by omega) (fun _ => Nat.zero_le _) (by decide) gL_isRoute_L_marks (by decide) (Nat.le_of_ble_eq_true rfl) dL_isRoute_85 ?_
    refine tt_aload (h _) 4 dL_isRoute_88 rfl ?_
    refine tt_bipush (h _) (nI 81) dL_isRoute_90 (by decide) ?_
    refine tt_aload_n (h _) 6 dL_isRoute_92 rfl rfl ?_
    refine tt_iload_n (h _) 7 dL_isRoute_93 rfl rfl ?_
    refine tt_iconst (h _) (nI 0) dL_isRoute_94 (by decide) ?_
    refine tt_callV (h _) (As := [.int (nI n), .int (nI 0)]) 2 hx (c_X5_netOf hR.1.hP hR.1.hI) gL_isRoute_X5_netOf rfl ⟨rfl, rfl⟩ (by decide +kernel) rfl (by decide) (by decide) E_144 rfl rfl (Nat.le_of_ble_eq_true rfl) dL_isRoute_95 (fun a95 M' P' hp => ?_)
    rw [hR.2.1] at hp
    obtain ⟨⟨rfl, rfl⟩, hQ⟩ := hp
    have hz' := net_at (k := n) (j := 0) hN6 hn (by omega) hQ
    clear hQ
    subst hz'
    refine tt_top (nI (p0X X n)) (hGn.p0.1) ?_
    refine tt_iadd_n (h _) dL_isRoute_98 ?_
    refine tt_iconst (h _) (nI 1) dL_isRoute_99 (by decide) ?_
    refine tt_marks (h _) hz (c := 81 + (p0X X n)) (hh := 1) (by omega) (updN_le (fun _ => Nat.zero_le _) (by decide)) (by decide) gL_isRoute_L_marks (by decide) (Nat.le_of_ble_eq_true rfl) dL_isRoute_100 ?_
    refine tt_iconst (h _) (nI 0) dL_isRoute_103 (by decide) ?_
    refine tt_istore (h _) [(9, .int (nI 0)), (8, .int (nI 0)), (7, .int (nI 0)), (6, .int (nI 0)), (5, .int (nI 1)), (4, .ref a), (3, .int (nI z)), (0, .ref (g.1 144)), (1, .int (nI n)), (2, .int (nI b))] dL_isRoute_104 (by decide) rfl ?_
    refine tt_iconst (h _) (nI 1) dL_isRoute_106 (by decide) ?_
    refine tt_istore (h _) [(10, .int (nI 1)), (9, .int (nI 0)), (8, .int (nI 0)), (7, .int (nI 0)), (6, .int (nI 0)), (5, .int (nI 1)), (4, .ref a), (3, .int (nI z)), (0, .ref (g.1 144)), (1, .int (nI n)), (2, .int (nI b))] dL_isRoute_107 (by decide) rfl ?_
    obtain ⟨D1, c1, hS1, hh1, hrest⟩ := rt_stages hGd hn hnw hrt
    refine tt_lv (lv' := [(0, .ref (g.1 144)), (1, .int (nI n)), (2, .int (nI b)), (3, .int (nI z)), (4, .ref a), (5, .int (nI 1)), (6, .int (nI 0)), (7, .int (nI 0)), (8, .int (nI 0)), (9, .int (nI 0)), (10, .int (nI 1))]) ?_ [8, 9, 10, 7, 6, 5, 4, 3, 2, 1, 0] rfl
    refine tt_eq (lv' := [(0, .ref (g.1 144)), (1, .int (nI n)), (2, .int (nI b)), (3, .int (nI z)), (4, .ref a), (5, .int (nI 1)), (6, .int (nI 0)), (7, .int (nI (priE eC X N []))), (8, .int (nI (bset (vicE eC X []) N))), (9, .int (nI ([] : List Nat).length)), (10, .int (nI 1))]) (by rw [pri_nil, vic_nil]; rfl) ?_
    have hmk := MkI_init (p := p0X X n) hGn.p0.2.1
    have hvc : X 0 = nI (vcX X) ∧ 1 ≤ vcX X ∧ vcX X ≤ 20 := hGd.vc
    rcases hrest with ⟨hp2, rfl, hz1⟩ | ⟨p2, D2, c2, hp2, hp281, hS2, hh2, hz2⟩
    · skip
      refine (zr_stage (pn := 1) (p := p1X X n) (pl := []) (l0 := l1) (post := []) (S := 0) (Z := z) hx h hz hn hb (by decide) (by decide) hGn.p1.1 hGn.p1.2.1 hj0 hrt rfl hlen hS1 hvc hmk ⟨c1, hh1, by omega⟩ hzb hR (fun M1 m1 hR hm1 hm2 => ?_))
      show T x (zE g a cL m1) 1 6 109 [(0, .ref (g.1 144)), (1, .int (nI n)), (2, .int (nI b)), (3, .int (nI z)), (4, .ref a), (5, .int (nI (1 + 1))), (6, .int (nI z)), (7, .int (nI (priE eC X N l1))), (8, .int (nI (bset (vicE eC X l1) N))), (9, .int (nI l1.length)), (10, .int (nI 1))] [] M1 P
      refine tt_iload (h _) 5 dL_isRoute_109 rfl ?_
      refine tt_iconst (h _) (nI 3) dL_isRoute_111 (by decide) ?_
      refine tt_icmp_ge_n (h _) 657 dL_isRoute_112 (by decide) (by first | omega | exact pri_lt hGd | exact Nat.lt_of_lt_of_le (vicE_lt hN6) (by decide)) (by decide) (fun c_112 => by exfalso; omega) (fun c_112 => ?_)
      refine tt_iload (h _) 10 dL_isRoute_115 rfl ?_
      refine tt_if_eq (h _) 657 dL_isRoute_117 (by decide) (fun c => absurd c (by decide)) (fun _ => ?_)
      refine tt_aload_n (h _) 0 dL_isRoute_120 rfl rfl ?_
      refine tt_iload_n (h _) 1 dL_isRoute_121 rfl rfl ?_
      refine tt_iload (h _) 5 dL_isRoute_122 rfl ?_
      refine tt_callV (h _) (As := [.int (nI n), .int (nI (1 + 1))]) 2 hx (c_X5_netOf hR.1.hP hR.1.hI) gL_isRoute_X5_netOf rfl ⟨rfl, rfl⟩ (by decide +kernel) rfl (by decide) (by decide) E_144 rfl rfl (Nat.le_of_ble_eq_true rfl) dL_isRoute_124 (fun a124 M' P' hp => ?_)
      rw [hR.2.1] at hp
      obtain ⟨⟨rfl, rfl⟩, hQ⟩ := hp
      have hz' := net_at (k := n) (j := 1 + 1) hN6 hn (by omega) hQ
      clear hQ
      subst hz'
      refine tt_top (-1000004) (fNet2_no hGd hn hp2) ?_
      refine tt_if_lt (h _) 657 dL_isRoute_127 (by decide) (fun _ => ?_) (fun c => absurd (by decide) c)
      refine tt_iload (h _) 10 dL_isRoute_657 rfl ?_
      refine tt_if_eq (h _) 726 dL_isRoute_659 (by decide) (fun c => absurd c (by decide)) (fun _ => ?_)
      refine tt_aload_n (h _) 0 dL_isRoute_662 rfl rfl ?_
      refine tt_iload_n (h _) 1 dL_isRoute_663 rfl rfl ?_
      refine tt_iload_n (h _) 2 dL_isRoute_664 rfl rfl ?_
      refine tt_iload (h _) 9 dL_isRoute_665 rfl ?_
      refine tt_callV (h _) (As := [.int (nI n), .int (nI b), .int (nI l1.length)]) 3 hx (c_X5_routeAt hR.1.hP hR.1.hI hR.1.hNb) gL_isRoute_X5_routeAt rfl ⟨rfl, rfl⟩ (by decide +kernel) rfl (by decide) (by decide) E_144 rfl rfl (Nat.le_of_ble_eq_true rfl) dL_isRoute_667 (fun a667 M667_ P667_ hp => ?_)
      rw [hR.2.1] at hp
      obtain ⟨rfl, hF, hQ⟩ := hp
      replace hR := RS_fr hR (FrS_F hF)
      clear hF
      obtain rfl := ra_ok (j := l1.length) hN6 hn hb (by simp only [List.length_append, List.length_nil] at hlen ⊢; omega) hj0 hrt hQ
      refine tt_top (-1000004) (by first | exact atL_end | (rw [List.append_nil]; exact atL_end)) ?_
      refine tt_ldc (h _) ((-1000004)) (by decide +kernel) dL_isRoute_670 ?_
      refine tt_icmp_ne (h _) 726 dL_isRoute_672 (by decide) (fun c => absurd c (by decide)) (fun _ => ?_)
      refine tt_iload (h _) 6 dL_isRoute_675 rfl ?_
      refine tt_iload_n (h _) 3 dL_isRoute_677 rfl rfl ?_
      refine tt_icmp_ne_n (h _) 726 dL_isRoute_678 (by decide) (by first | omega | exact pri_lt hGd | exact Nat.lt_of_lt_of_le (vicE_lt hN6) (by decide)) (by first | omega | exact pri_lt hGd | exact Nat.lt_of_lt_of_le (vicE_lt hN6) (by decide)) (fun c_678 => by exfalso; exact c_678 rfl) (fun c_678 => ?_)
      refine tt_iload_n (h _) 2 dL_isRoute_681 rfl rfl ?_
      refine tt_if_ne_n (h _) 702 dL_isRoute_682 (by decide) (by first | omega | exact pri_lt hGd | exact Nat.lt_of_lt_of_le (vicE_lt hN6) (by decide)) (fun c_682 => ?_) (fun c_682 => ?_)
      · -- 682 true
        obtain rfl : 1 = b := by omega
        refine tt_iload (h _) 7 dL_isRoute_702 rfl ?_
        refine tt_aload_n (h _) 0 dL_isRoute_704 rfl rfl ?_
        refine tt_iload_n (h _) 1 dL_isRoute_705 rfl rfl ?_
        refine tt_callV (h _) (As := [.int (nI n)]) 1 hx (c_X5_price hR.1.hP hR.1.hI hR.1.hNb) gL_isRoute_X5_price rfl ⟨rfl, rfl⟩ (by decide +kernel) rfl (by decide) (by decide) E_144 rfl rfl (Nat.le_of_ble_eq_true rfl) dL_isRoute_706 (fun a706 M706_ P706_ hp => ?_)
        rw [hR.2.1] at hp
        obtain ⟨rfl, hF, hQ⟩ := hp
        replace hR := RS_fr hR (FrS_F hF)
        clear hF
        obtain rfl := rt_ok (b := 1) hN6 hn (by decide) hj0 hrt hQ
        refine tt_icmp_ne_n (h _) 726 dL_isRoute_709 (by decide) (by first | omega | exact pri_lt hGd | exact Nat.lt_of_lt_of_le (vicE_lt hN6) (by decide)) (by first | omega | exact pri_lt hGd | exact Nat.lt_of_lt_of_le (vicE_lt hN6) (by decide)) (fun c_709 => by exfalso; exact c_709 (by rw [List.append_nil])) (fun c_709 => ?_)
        refine tt_iload (h _) 8 dL_isRoute_712 rfl ?_
        refine tt_aload_n (h _) 0 dL_isRoute_714 rfl rfl ?_
        refine tt_iload_n (h _) 1 dL_isRoute_715 rfl rfl ?_
        refine tt_callV (h _) (As := [.int (nI n)]) 1 hx (c_X5_victims hR.1.hP hR.1.hI hR.1.hNb) gL_isRoute_X5_victims rfl ⟨rfl, rfl⟩ (by decide +kernel) rfl (by decide) (by decide) E_144 rfl rfl (Nat.le_of_ble_eq_true rfl) dL_isRoute_716 (fun a716 M716_ P716_ hp => ?_)
        rw [hR.2.1] at hp
        obtain ⟨rfl, hF, hQ⟩ := hp
        replace hR := RS_fr hR (FrS_F hF)
        clear hF
        obtain rfl := rt_ok (b := 1) hN6 hn (by decide) hj0 hrt hQ
        refine tt_icmp_ne_n (h _) 726 dL_isRoute_719 (by decide) (by first | omega | exact pri_lt hGd | exact Nat.lt_of_lt_of_le (vicE_lt hN6) (by decide)) (by first | omega | exact pri_lt hGd | exact Nat.lt_of_lt_of_le (vicE_lt hN6) (by decide)) (fun c_719 => by exfalso; exact c_719 (by rw [List.append_nil])) (fun c_719 => ?_)
        refine tt_iconst (h _) (nI 1) dL_isRoute_722 (by decide) ?_
        refine tt_goto (h _) 727 dL_isRoute_723 (by decide) ?_
        exact hretT _ _ _ _ _ _ dL_isRoute_727 (by decide) (by exact ⟨rfl, hR.2.2, rfl⟩)
      · -- 682 false
        obtain rfl : 0 = b := by omega
        refine tt_iload (h _) 7 dL_isRoute_685 rfl ?_
        refine tt_if_ne_n (h _) 726 dL_isRoute_687 (by decide) (by first | omega | exact pri_lt hGd | exact Nat.lt_of_lt_of_le (vicE_lt hN6) (by decide)) (fun c_687 => by exfalso; exact c_687 (by have := pri_0 hGd hn hrt; rwa [List.append_nil] at this)) (fun c_687 => ?_)
        refine tt_aload_n (h _) 0 dL_isRoute_690 rfl rfl ?_
        refine tt_iload_n (h _) 1 dL_isRoute_691 rfl rfl ?_
        refine tt_iconst (h _) (nI 1) dL_isRoute_692 (by decide) ?_
        refine tt_callV (h _) (As := [.int (nI n), .int (nI 1)]) 2 hx (c_X5_cost hR.1.hP hR.1.hI hR.1.hNb) gL_isRoute_X5_cost rfl ⟨rfl, rfl⟩ (by decide +kernel) rfl (by decide) (by decide) E_144 rfl rfl (Nat.le_of_ble_eq_true rfl) dL_isRoute_693 (fun a693 M693_ P693_ hp => ?_)
        rw [hR.2.1] at hp
        obtain ⟨rfl, hF, hQ⟩ := hp
        replace hR := RS_fr hR (FrS_F hF)
        clear hF
        obtain ⟨z2, u1, u2, hr2⟩ := rt_dig hGd hn hnw hrt
        have hz2 := rt_z hGd hn hnw hr2
        obtain rfl := rt_ok (b := 1) hN6 hn (by decide) hj0 hr2 hQ
        refine tt_if_lt_n (h _) 726 dL_isRoute_696 (by decide) (by first | omega | exact pri_lt hGd | exact Nat.lt_of_lt_of_le (vicE_lt hN6) (by decide)) ?_
        refine tt_goto (h _) 722 dL_isRoute_699 (by decide) ?_
        refine tt_iconst (h _) (nI 1) dL_isRoute_722 (by decide) ?_
        refine tt_goto (h _) 727 dL_isRoute_723 (by decide) ?_
        exact hretT _ _ _ _ _ _ dL_isRoute_727 (by decide) (by exact ⟨rfl, hR.2.2, rfl⟩)
    · skip
      have hD1 : D1 c1 ≤ z := by omega
      refine (zr_stage (pn := 1) (p := p1X X n) (pl := []) (l0 := l1) (post := l2) (S := 0) (Z := D1 c1) hx h hz hn hb (by decide) (by decide) hGn.p1.1 hGn.p1.2.1 hj0 hrt rfl hlen hS1 hvc hmk ⟨c1, hh1, by omega⟩ (by omega) hR (fun M1 m1 hR hm1 hm2 => ?_))
      have hmk2 := MkI_2 hGd hI.1.2.2.2.1 hn (fun a ha => (hok.2.2.2.2 a (List.mem_append_left _ ha)).1) hm1 hm2
      refine zr_stage (pn := 2) (p := p2) (pl := l1) (l0 := l2) (post := []) (S := D1 c1) (Z := z) hx h hz hn hb (by decide) (by decide) (fNet2_yes hGd hn hp2) hp281 hj0 hrt (by rw [List.append_nil]) hlen hS2 hvc hmk2 ⟨c2, hh2, by omega⟩ hzb hR (fun M2 m2 hR hm3 hm4 => ?_)
      refine tt_iload (h _) 5 dL_isRoute_109 rfl ?_
      refine tt_iconst (h _) (nI 3) dL_isRoute_111 (by decide) ?_
      refine tt_icmp_ge_n (h _) 657 dL_isRoute_112 (by decide) (by first | omega | exact pri_lt hGd | exact Nat.lt_of_lt_of_le (vicE_lt hN6) (by decide)) (by decide) (fun c_112 => ?_) (fun c_112 => by exfalso; omega)
      refine tt_iload (h _) 10 dL_isRoute_657 rfl ?_
      refine tt_if_eq (h _) 726 dL_isRoute_659 (by decide) (fun c => absurd c (by decide)) (fun _ => ?_)
      refine tt_aload_n (h _) 0 dL_isRoute_662 rfl rfl ?_
      refine tt_iload_n (h _) 1 dL_isRoute_663 rfl rfl ?_
      refine tt_iload_n (h _) 2 dL_isRoute_664 rfl rfl ?_
      refine tt_iload (h _) 9 dL_isRoute_665 rfl ?_
      refine tt_callV (h _) (As := [.int (nI n), .int (nI b), .int (nI ((l1 ++ l2).length))]) 3 hx (c_X5_routeAt hR.1.hP hR.1.hI hR.1.hNb) gL_isRoute_X5_routeAt rfl ⟨rfl, rfl⟩ (by decide +kernel) rfl (by decide) (by decide) E_144 rfl rfl (Nat.le_of_ble_eq_true rfl) dL_isRoute_667 (fun a667_1 M667_1_ P667_1_ hp => ?_)
      rw [hR.2.1] at hp
      obtain ⟨rfl, hF, hQ⟩ := hp
      replace hR := RS_fr hR (FrS_F hF)
      clear hF
      obtain rfl := ra_ok (j := (l1 ++ l2).length) hN6 hn hb (by simp only [List.length_append, List.length_nil] at hlen ⊢; omega) hj0 hrt hQ
      refine tt_top (-1000004) (by first | exact atL_end | (rw [List.append_nil]; exact atL_end)) ?_
      refine tt_ldc (h _) ((-1000004)) (by decide +kernel) dL_isRoute_670 ?_
      refine tt_icmp_ne (h _) 726 dL_isRoute_672 (by decide) (fun c => absurd c (by decide)) (fun _ => ?_)
      refine tt_iload (h _) 6 dL_isRoute_675 rfl ?_
      refine tt_iload_n (h _) 3 dL_isRoute_677 rfl rfl ?_
      refine tt_icmp_ne_n (h _) 726 dL_isRoute_678 (by decide) (by first | omega | exact pri_lt hGd | exact Nat.lt_of_lt_of_le (vicE_lt hN6) (by decide)) (by first | omega | exact pri_lt hGd | exact Nat.lt_of_lt_of_le (vicE_lt hN6) (by decide)) (fun c_678 => by exfalso; exact c_678 rfl) (fun c_678 => ?_)
      refine tt_iload_n (h _) 2 dL_isRoute_681 rfl rfl ?_
      refine tt_if_ne_n (h _) 702 dL_isRoute_682 (by decide) (by first | omega | exact pri_lt hGd | exact Nat.lt_of_lt_of_le (vicE_lt hN6) (by decide)) (fun c_682 => ?_) (fun c_682 => ?_)
      · -- 682 true
        obtain rfl : 1 = b := by omega
        refine tt_iload (h _) 7 dL_isRoute_702 rfl ?_
        refine tt_aload_n (h _) 0 dL_isRoute_704 rfl rfl ?_
        refine tt_iload_n (h _) 1 dL_isRoute_705 rfl rfl ?_
        refine tt_callV (h _) (As := [.int (nI n)]) 1 hx (c_X5_price hR.1.hP hR.1.hI hR.1.hNb) gL_isRoute_X5_price rfl ⟨rfl, rfl⟩ (by decide +kernel) rfl (by decide) (by decide) E_144 rfl rfl (Nat.le_of_ble_eq_true rfl) dL_isRoute_706 (fun a706_1 M706_1_ P706_1_ hp => ?_)
        rw [hR.2.1] at hp
        obtain ⟨rfl, hF, hQ⟩ := hp
        replace hR := RS_fr hR (FrS_F hF)
        clear hF
        obtain rfl := rt_ok (b := 1) hN6 hn (by decide) hj0 hrt hQ
        refine tt_icmp_ne_n (h _) 726 dL_isRoute_709 (by decide) (by first | omega | exact pri_lt hGd | exact Nat.lt_of_lt_of_le (vicE_lt hN6) (by decide)) (by first | omega | exact pri_lt hGd | exact Nat.lt_of_lt_of_le (vicE_lt hN6) (by decide)) (fun c_709 => by exfalso; exact c_709 rfl) (fun c_709 => ?_)
        refine tt_iload (h _) 8 dL_isRoute_712 rfl ?_
        refine tt_aload_n (h _) 0 dL_isRoute_714 rfl rfl ?_
        refine tt_iload_n (h _) 1 dL_isRoute_715 rfl rfl ?_
        refine tt_callV (h _) (As := [.int (nI n)]) 1 hx (c_X5_victims hR.1.hP hR.1.hI hR.1.hNb) gL_isRoute_X5_victims rfl ⟨rfl, rfl⟩ (by decide +kernel) rfl (by decide) (by decide) E_144 rfl rfl (Nat.le_of_ble_eq_true rfl) dL_isRoute_716 (fun a716_1 M716_1_ P716_1_ hp => ?_)
        rw [hR.2.1] at hp
        obtain ⟨rfl, hF, hQ⟩ := hp
        replace hR := RS_fr hR (FrS_F hF)
        clear hF
        obtain rfl := rt_ok (b := 1) hN6 hn (by decide) hj0 hrt hQ
        refine tt_icmp_ne_n (h _) 726 dL_isRoute_719 (by decide) (by first | omega | exact pri_lt hGd | exact Nat.lt_of_lt_of_le (vicE_lt hN6) (by decide)) (by first | omega | exact pri_lt hGd | exact Nat.lt_of_lt_of_le (vicE_lt hN6) (by decide)) (fun c_719 => by exfalso; exact c_719 rfl) (fun c_719 => ?_)
        refine tt_iconst (h _) (nI 1) dL_isRoute_722 (by decide) ?_
        refine tt_goto (h _) 727 dL_isRoute_723 (by decide) ?_
        exact hretT _ _ _ _ _ _ dL_isRoute_727 (by decide) (by exact ⟨rfl, hR.2.2, rfl⟩)
      · -- 682 false
        obtain rfl : 0 = b := by omega
        refine tt_iload (h _) 7 dL_isRoute_685 rfl ?_
        refine tt_if_ne_n (h _) 726 dL_isRoute_687 (by decide) (by first | omega | exact pri_lt hGd | exact Nat.lt_of_lt_of_le (vicE_lt hN6) (by decide)) (fun c_687 => by exfalso; exact c_687 (pri_0 hGd hn hrt)) (fun c_687 => ?_)
        refine tt_aload_n (h _) 0 dL_isRoute_690 rfl rfl ?_
        refine tt_iload_n (h _) 1 dL_isRoute_691 rfl rfl ?_
        refine tt_iconst (h _) (nI 1) dL_isRoute_692 (by decide) ?_
        refine tt_callV (h _) (As := [.int (nI n), .int (nI 1)]) 2 hx (c_X5_cost hR.1.hP hR.1.hI hR.1.hNb) gL_isRoute_X5_cost rfl ⟨rfl, rfl⟩ (by decide +kernel) rfl (by decide) (by decide) E_144 rfl rfl (Nat.le_of_ble_eq_true rfl) dL_isRoute_693 (fun a693_1 M693_1_ P693_1_ hp => ?_)
        rw [hR.2.1] at hp
        obtain ⟨rfl, hF, hQ⟩ := hp
        replace hR := RS_fr hR (FrS_F hF)
        clear hF
        obtain ⟨z2, u1, u2, hr2⟩ := rt_dig hGd hn hnw hrt
        have hz2 := rt_z hGd hn hnw hr2
        obtain rfl := rt_ok (b := 1) hN6 hn (by decide) hj0 hr2 hQ
        refine tt_if_lt_n (h _) 726 dL_isRoute_696 (by decide) (by first | omega | exact pri_lt hGd | exact Nat.lt_of_lt_of_le (vicE_lt hN6) (by decide)) ?_
        refine tt_goto (h _) 722 dL_isRoute_699 (by decide) ?_
        refine tt_iconst (h _) (nI 1) dL_isRoute_722 (by decide) ?_
        refine tt_goto (h _) 727 dL_isRoute_723 (by decide) ?_
        exact hretT _ _ _ _ _ _ dL_isRoute_727 (by decide) (by exact ⟨rfl, hR.2.2, rfl⟩)
