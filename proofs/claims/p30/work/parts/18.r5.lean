
def twE (e : Enc) (X : Nat → Int32) (N n : Nat) (dg : Bool) (pr : Nat) (sb : Nat → Nat) (a : Nat) : Option Nat := if 162 ≤ a then none else if X (7 + a) = e.1 ∨ X (7 + a) = e.2.2 n then some 0 else if dg = true then (match fnd (fun k => decide (X (7 + a) = e.2.1 k)) N with | some k => some (pr + sb k) | none => none) else none
def jn0 (p : Nat) : Nat → Bool := fun a => decide (a = p) || decide (a = p + 81)
noncomputable def rtP (e : Enc) (X : Nat → Int32) (N n : Nat) (dg : Bool) (pr : Nat) (sb : Nat → Nat) (vc p0 p1 : Nat) (p2 : Option Nat) : Option (Nat × List Nat × List Nat) :=
  match startO (dcl (twE e X N n dg pr sb) (dS vc (twE e X N n dg pr sb) (jn0 p0))) p1 with
  | none => none
  | some s1 => match p2 with
    | none => some (dcl (twE e X N n dg pr sb) (dS vc (twE e X N n dg pr sb) (jn0 p0)) s1, pthL vc (twE e X N n dg pr sb) (jn0 p0) (dcl (twE e X N n dg pr sb) (dS vc (twE e X N n dg pr sb) (jn0 p0))) 161 s1, [])
    | some p2 => match startO (dcl (tw0 (twE e X N n dg pr sb) (pthL vc (twE e X N n dg pr sb) (jn0 p0) (dcl (twE e X N n dg pr sb) (dS vc (twE e X N n dg pr sb) (jn0 p0))) 161 s1)) (dS vc (tw0 (twE e X N n dg pr sb) (pthL vc (twE e X N n dg pr sb) (jn0 p0) (dcl (twE e X N n dg pr sb) (dS vc (twE e X N n dg pr sb) (jn0 p0))) 161 s1)) (joinL X (e.2.2 n) (jn0 p0) (pthL vc (twE e X N n dg pr sb) (jn0 p0) (dcl (twE e X N n dg pr sb) (dS vc (twE e X N n dg pr sb) (jn0 p0))) 161 s1)))) p2 with
      | none => none
      | some s2 => some (dcl (twE e X N n dg pr sb) (dS vc (twE e X N n dg pr sb) (jn0 p0)) s1 + dcl (tw0 (twE e X N n dg pr sb) (pthL vc (twE e X N n dg pr sb) (jn0 p0) (dcl (twE e X N n dg pr sb) (dS vc (twE e X N n dg pr sb) (jn0 p0))) 161 s1)) (dS vc (tw0 (twE e X N n dg pr sb) (pthL vc (twE e X N n dg pr sb) (jn0 p0) (dcl (twE e X N n dg pr sb) (dS vc (twE e X N n dg pr sb) (jn0 p0))) 161 s1)) (joinL X (e.2.2 n) (jn0 p0) (pthL vc (twE e X N n dg pr sb) (jn0 p0) (dcl (twE e X N n dg pr sb) (dS vc (twE e X N n dg pr sb) (jn0 p0))) 161 s1))) s2,
          pthL vc (twE e X N n dg pr sb) (jn0 p0) (dcl (twE e X N n dg pr sb) (dS vc (twE e X N n dg pr sb) (jn0 p0))) 161 s1,
          pthL vc (tw0 (twE e X N n dg pr sb) (pthL vc (twE e X N n dg pr sb) (jn0 p0) (dcl (twE e X N n dg pr sb) (dS vc (twE e X N n dg pr sb) (jn0 p0))) 161 s1)) (joinL X (e.2.2 n) (jn0 p0) (pthL vc (twE e X N n dg pr sb) (jn0 p0) (dcl (twE e X N n dg pr sb) (dS vc (twE e X N n dg pr sb) (jn0 p0))) 161 s1)) (dcl (tw0 (twE e X N n dg pr sb) (pthL vc (twE e X N n dg pr sb) (jn0 p0) (dcl (twE e X N n dg pr sb) (dS vc (twE e X N n dg pr sb) (jn0 p0))) 161 s1)) (dS vc (tw0 (twE e X N n dg pr sb) (pthL vc (twE e X N n dg pr sb) (jn0 p0) (dcl (twE e X N n dg pr sb) (dS vc (twE e X N n dg pr sb) (jn0 p0))) 161 s1)) (joinL X (e.2.2 n) (jn0 p0) (pthL vc (twE e X N n dg pr sb) (jn0 p0) (dcl (twE e X N n dg pr sb) (dS vc (twE e X N n dg pr sb) (jn0 p0))) 161 s1)))) 161 s2)
/-- by parts: the first path, the second -/
theorem rtP_none1 {e : Enc} {X : Nat → Int32} {N n : Nat} {dg : Bool} {pr : Nat} {sb : Nat → Nat} {vc p0 p1 : Nat} {p2 : Option Nat} {tw : Nat → Option Nat} (ht : tw = twE e X N n dg pr sb) (h : startO (dcl tw (dS vc tw (jn0 p0))) p1 = none) : rtP e X N n dg pr sb vc p0 p1 p2 = none := by
  subst ht; unfold rtP; rw [h]
theorem rtP_one {e : Enc} {X : Nat → Int32} {N n : Nat} {dg : Bool} {pr : Nat} {sb : Nat → Nat} {vc p0 p1 s1 : Nat} {tw : Nat → Option Nat} (ht : tw = twE e X N n dg pr sb) (h : startO (dcl tw (dS vc tw (jn0 p0))) p1 = some s1) : rtP e X N n dg pr sb vc p0 p1 none = some (dcl tw (dS vc tw (jn0 p0)) s1, pthL vc tw (jn0 p0) (dcl tw (dS vc tw (jn0 p0))) 161 s1, []) := by
  subst ht; unfold rtP; rw [h]
theorem rtP_none2 {e : Enc} {X : Nat → Int32} {N n : Nat} {dg : Bool} {pr : Nat} {sb : Nat → Nat} {vc p0 p1 p2 s1 : Nat} {tw tw1 : Nat → Option Nat} {J1 : Nat → Bool} {pl1 : List Nat} (ht : tw = twE e X N n dg pr sb) (h : startO (dcl tw (dS vc tw (jn0 p0))) p1 = some s1) (hp : pl1 = pthL vc tw (jn0 p0) (dcl tw (dS vc tw (jn0 p0))) 161 s1) (ht1 : tw1 = tw0 tw pl1) (hJ1 : J1 = joinL X (e.2.2 n) (jn0 p0) pl1) (h2 : startO (dcl tw1 (dS vc tw1 J1)) p2 = none) : rtP e X N n dg pr sb vc p0 p1 (some p2) = none := by
  subst ht; subst hp; subst ht1; subst hJ1; unfold rtP; rw [h]; dsimp only; rw [h2]
theorem rtP_two {e : Enc} {X : Nat → Int32} {N n : Nat} {dg : Bool} {pr : Nat} {sb : Nat → Nat} {vc p0 p1 p2 s1 s2 : Nat} {tw tw1 : Nat → Option Nat} {J1 : Nat → Bool} {pl1 : List Nat} (ht : tw = twE e X N n dg pr sb) (h : startO (dcl tw (dS vc tw (jn0 p0))) p1 = some s1) (hp : pl1 = pthL vc tw (jn0 p0) (dcl tw (dS vc tw (jn0 p0))) 161 s1) (ht1 : tw1 = tw0 tw pl1) (hJ1 : J1 = joinL X (e.2.2 n) (jn0 p0) pl1) (h2 : startO (dcl tw1 (dS vc tw1 J1)) p2 = some s2) : rtP e X N n dg pr sb vc p0 p1 (some p2) = some (dcl tw (dS vc tw (jn0 p0)) s1 + dcl tw1 (dS vc tw1 J1) s2, pl1, pthL vc tw1 J1 (dcl tw1 (dS vc tw1 J1)) 161 s2) := by
  subst ht; subst hp; subst ht1; subst hJ1; unfold rtP; rw [h]; dsimp only; rw [h2]
def acc0 : Acc := (nI 0, nI 0, fun _ => nI 0)
def accR (X : Nat → Int32) (N : Nat) (tw : Nat → Option Nat) (pl1 pl2 : List Nat) : Acc := accL X N (tw0 tw pl1) (accL X N tw acc0 pl1) pl2
theorem twE_le {e : Enc} {X : Nat → Int32} {N n : Nat} {dg : Bool} {pr : Nat} {sb : Nat → Nat} (hp : pr ≤ 50) (hs : ∀ k, k < N → sb k ≤ 9) : ∀ a w, twE e X N n dg pr sb a = some w → w ≤ 59 := by
  intro a w h
  unfold twE at h
  split at h
  · cases h
  · split at h
    · cases h; omega
    · split at h
      · cases hf : fnd (fun k => decide (X (7 + a) = e.2.1 k)) N with
        | none => rw [hf] at h; cases h
        | some k =>
          rw [hf] at h
          cases h
          have hk : k < N := by
            unfold fnd at hf
            exact List.mem_range.mp (List.mem_of_find?_eq_some hf)
          have := hs k hk
          omega
      · cases h
theorem fnd_InR {x : Int32} {N k : Nat} (hk : k < N) (hN : N < 2 ^ 31) (h : x = nI k) : fnd (fun k => decide (x = nI k)) N = some k := fnd_some hk (by simp [h]) (fun j hj => by
  simp only [decide_eq_false_iff_not]
  intro e
  rw [h] at e
  have := (nI_eq (by omega) (by omega)).mp e
  omega)
theorem tollX_tw {X : Nat → Int32} {N n a pr : Nat} {dg : Bool} {sb : Nat → Nat} (ha : a < 162) (hN : N ≤ 6) (h1 : X 1 = nI pr) (h3 : ∀ k, k < N → X (169 + 9 * k + 3) = nI (sb k)) : tollX X a (nI n) (bI dg) N = tollI (twE eC X N n dg pr sb a) := by
  unfold tollX twE
  rw [if_neg (by omega : ¬ 162 ≤ a), nI_add]
  by_cases e : X (7 + a) = -1 ∨ X (7 + a) = nI (10 + n)
  · rw [if_pos e, if_pos (show X (7 + a) = eC.1 ∨ X (7 + a) = eC.2.2 n from e)]
    rfl
  · rw [if_neg e, if_neg (show ¬ (X (7 + a) = eC.1 ∨ X (7 + a) = eC.2.2 n) from e)]
    cases dg with
    | false => rw [if_pos (Or.inl (by decide)), if_neg (by decide)]; rfl
    | true =>
      rw [if_pos (rfl : true = true)]
      by_cases e2 : InR N (X (7 + a))
      · obtain ⟨k, hk, e3⟩ := e2
        rw [if_neg (by rintro (q | q); exact absurd q (by decide); exact q ⟨k, hk, e3⟩), e3, nI_clamp (by omega), h1, h3 k hk, nI_add]
        have := fnd_InR hk (by omega) (rfl : nI k = nI k)
        rw [show (fun k_1 => decide (nI k = eC.2.1 k_1)) = (fun j => decide (nI k = nI j)) from rfl, this]
        rfl
      · rw [if_pos (Or.inr e2)]
        rw [show fnd (fun k => decide (X (7 + a) = eC.2.1 k)) N = none from fnd_none (fun j hj => by simp only [decide_eq_false_iff_not]; exact fun q => e2 ⟨j, hj, q⟩)]
        rfl
theorem tw0_le {tw : Nat → Option Nat} {l : List Nat} (h : ∀ a w, tw a = some w → w ≤ 59) : ∀ a w, tw0 tw l a = some w → w ≤ 59 := by
  intro a w e
  unfold tw0 at e
  split at e
  · cases e; omega
  · exact h a w e
/-- what is joined can be entered -/
theorem joinL_open {X : Nat → Int32} {v : Int32} {tw : Nat → Option Nat} (hop : ∀ a, a < 162 → X (7 + a) = v → tw a ≠ none) (hpair : ∀ a, a < 81 → (X (7 + a) = v ↔ X (7 + (a + 81)) = v)) : ∀ (l l0 : List Nat) (J : Nat → Bool), (∀ a, a ∈ l → a < 162) → (∀ b, J b = true → tw0 tw (l0 ++ l) b ≠ none) → ∀ b, joinL X v J l b = true → tw0 tw (l0 ++ l) b ≠ none
  | [], l0, J, _, h, b, hb => h b hb
  | a :: l, l0, J, hl, h, b, hb => by
    have ha := hl a List.mem_cons_self
    have e : l0 ++ a :: l = (l0 ++ [a]) ++ l := by rw [List.append_assoc]; rfl
    rw [e]
    refine joinL_open hop hpair l (l0 ++ [a]) (joinB X v J a) (fun q hq => hl q (List.mem_cons_of_mem _ hq)) (fun q hq => ?_) b hb
    rw [← e]
    unfold joinB at hq
    simp only [Bool.or_eq_true, Bool.and_eq_true, decide_eq_true_eq] at hq
    have opn : ∀ q, q < 162 → X (7 + q) = v → tw0 tw (l0 ++ a :: l) q ≠ none := fun q h1 h2 => by
      unfold tw0
      split
      · exact Option.some_ne_none _
      · exact hop q h1 h2
    rcases hq with (hq | hq) | ⟨hv, hq⟩
    · exact h q hq
    · subst hq
      unfold tw0
      rw [if_pos (List.mem_append_right _ List.mem_cons_self)]
      exact Option.some_ne_none _
    · have hlow : X (7 + a % 81) = v ∧ X (7 + (a % 81 + 81)) = v := by
        by_cases h81 : a < 81
        · rw [Nat.mod_eq_of_lt h81]
          exact ⟨hv, (hpair a h81).mp hv⟩
        · have e3 : a % 81 = a - 81 := by omega
          rw [e3, show a - 81 + 81 = a by omega]
          exact ⟨(hpair (a - 81) (by omega)).mpr (by rw [show a - 81 + 81 = a by omega]; exact hv), hv⟩
      rcases hq with hq | hq
      · rw [hq]; exact opn _ (by omega) hlow.1
      · rw [hq]; exact opn _ (by omega) hlow.2
theorem twE_own {e : Enc} {X : Nat → Int32} {N n : Nat} {dg : Bool} {pr : Nat} {sb : Nat → Nat} {a : Nat} (ha : a < 162) (h : X (7 + a) = e.2.2 n) : twE e X N n dg pr sb a ≠ none := by
  unfold twE
  rw [if_neg (by omega), if_pos (Or.inr h)]
  exact Option.some_ne_none _
def FrF (M M' : Nat → Nat → Int32) : Prop := ∀ k, (k < 149 ∨ k = 150 ∨ 157 < k) → M' k = M k

theorem jn0_mem {W : Nat → Nat → Int32} {p : Nat} (h : ∀ b, b < 162 → W 151 b = nI 0) {a : Nat} (ha : a < 162) : st2 (st2 W 151 p (nI 1)) 151 (p + 81) (nI 1) 151 a = bI (jn0 p a) := by
  rw [st2_k, st2_k]
  unfold jn0
  by_cases e1 : a = p + 81
  · subst e1; rw [pk_us]; exact (bI_t (by simp)).symm
  · rw [pk_un e1]
    by_cases e2 : a = p
    · subst e2; rw [pk_us]; exact (bI_t (by simp)).symm
    · rw [pk_un e2, h a ha]; exact (bI_f (by simp [e1, e2])).symm

set_option maxRecDepth 20000 in
theorem ggX3_find_X0_hasNet : GoodIn wsX3_find wsX0_hasNet := goodIn_r _ [18, 19, 90, 91, 92, 93, 94, 95, 96, 97] (by decide +kernel) (by decide +kernel)
set_option maxRecDepth 20000 in
theorem gX3_find_X0_hasNet : GoodIn wsX3_find (wsV RX3 51 RX0 yX0_hasNet wsX0_hasNet) := goodIn_app (goodIn_of _ (by decide +kernel)) ggX3_find_X0_hasNet
set_option maxRecDepth 20000 in
theorem ggX3_find_X0_tollOf : GoodIn wsX3_find wsX0_tollOf := goodIn_r _ [23, 24, 25, 26, 27, 28, 15, 16, 17, 18, 19, 90, 91, 92, 93, 94, 95, 96, 97, 98, 99, 100, 101, 102, 103, 104, 105, 106] (by decide +kernel) (by decide +kernel)
set_option maxRecDepth 20000 in
theorem gX3_find_X0_tollOf : GoodIn wsX3_find (wsV RX3 63 RX0 yX0_tollOf wsX0_tollOf) := goodIn_app (goodIn_of _ (by decide +kernel)) ggX3_find_X0_tollOf
set_option maxRecDepth 20000 in
theorem ggX3_find_X3_joinPlace : GoodIn wsX3_find wsX3_joinPlace := goodIn_r _ [33, 8, 75, 76, 77, 78, 79, 80, 81, 82, 83, 84, 85, 86, 87, 88, 89] (by decide +kernel) (by decide +kernel)
set_option maxRecDepth 20000 in
theorem gX3_find_X3_joinPlace : GoodIn wsX3_find (wsV RX3 76 RX3 yX3_joinPlace wsX3_joinPlace) := goodIn_app (goodIn_of _ (by decide +kernel)) ggX3_find_X3_joinPlace
set_option maxRecDepth 20000 in
theorem ggX3_find_X3_addPath : GoodIn wsX3_find wsX3_addPath := goodIn_r _ [37, 2, 38, 1, 39, 40, 41, 42, 32, 43, 44, 45, 46, 47, 8, 48, 9, 49, 50, 51, 52, 53, 54, 55, 56, 57, 7, 58, 59, 60, 61, 62, 63, 64, 65, 66, 4, 5, 3, 14, 15, 16, 17, 18, 19, 67, 68, 69, 70, 71, 72, 73, 74, 29, 30, 31, 33, 75, 76, 77, 78, 79, 80, 81, 82, 83, 84, 85, 86, 87, 88, 89, 90, 91, 92, 93, 94, 95, 96, 97] (by decide +kernel) (by decide +kernel)
set_option maxRecDepth 20000 in
theorem gX3_find_X3_addPath : GoodIn wsX3_find (wsV RX3 83 RX3 yX3_addPath wsX3_addPath) := goodIn_app (goodIn_of _ (by decide +kernel)) ggX3_find_X3_addPath
theorem dX3_find_0 : decode cX3_find 0 = .ok (.aload_n 0, 1) := by decide +kernel
theorem dX3_find_1 : decode cX3_find 1 = .ok (.iconst 0, 1) := by decide +kernel
theorem dX3_find_2 : decode cX3_find 2 = .ok (.putfield 37, 3) := by decide +kernel
theorem dX3_find_5 : decode cX3_find 5 = .ok (.aload_n 0, 1) := by decide +kernel
theorem dX3_find_6 : decode cX3_find 6 = .ok (.iconst 0, 1) := by decide +kernel
theorem dX3_find_7 : decode cX3_find 7 = .ok (.putfield 42, 3) := by decide +kernel
theorem dX3_find_10 : decode cX3_find 10 = .ok (.aload_n 0, 1) := by decide +kernel
theorem dX3_find_11 : decode cX3_find 11 = .ok (.iconst 0, 1) := by decide +kernel
theorem dX3_find_12 : decode cX3_find 12 = .ok (.putfield 45, 3) := by decide +kernel
theorem dX3_find_15 : decode cX3_find 15 = .ok (.aload_n 0, 1) := by decide +kernel
theorem dX3_find_16 : decode cX3_find 16 = .ok (.iconst 0, 1) := by decide +kernel
theorem dX3_find_17 : decode cX3_find 17 = .ok (.putfield 48, 3) := by decide +kernel
theorem dX3_find_20 : decode cX3_find 20 = .ok (.iconst 0, 1) := by decide +kernel
theorem dX3_find_21 : decode cX3_find 21 = .ok (.istore 4, 2) := by decide +kernel
theorem dX3_find_23 : decode cX3_find 23 = .ok (.iload 4, 2) := by decide +kernel
theorem dX3_find_25 : decode cX3_find 25 = .ok (.bipush 6, 2) := by decide +kernel
theorem dX3_find_27 : decode cX3_find 27 = .ok (.if_icmp .ge 17, 3) := by decide +kernel
theorem dX3_find_30 : decode cX3_find 30 = .ok (.aload_n 0, 1) := by decide +kernel
theorem dX3_find_31 : decode cX3_find 31 = .ok (.getfield 34, 3) := by decide +kernel
theorem dX3_find_34 : decode cX3_find 34 = .ok (.iload 4, 2) := by decide +kernel
theorem dX3_find_36 : decode cX3_find 36 = .ok (.iconst 0, 1) := by decide +kernel
theorem dX3_find_37 : decode cX3_find 37 = .ok (.iastore, 1) := by decide +kernel
theorem dX3_find_38 : decode cX3_find 38 = .ok (.iinc 4 1, 3) := by decide +kernel
theorem dX3_find_41 : decode cX3_find 41 = .ok (.goto (-18), 3) := by decide +kernel
theorem dX3_find_44 : decode cX3_find 44 = .ok (.aload_n 1, 1) := by decide +kernel
theorem dX3_find_45 : decode cX3_find 45 = .ok (.iload_n 2, 1) := by decide +kernel
theorem dX3_find_46 : decode cX3_find 46 = .ok (.invokevirtual 51, 3) := by decide +kernel
theorem dX3_find_49 : decode cX3_find 49 = .ok (.ifCond .ne 5, 3) := by decide +kernel
theorem dX3_find_52 : decode cX3_find 52 = .ok (.iconst 0, 1) := by decide +kernel
theorem dX3_find_53 : decode cX3_find 53 = .ok (.ireturn, 1) := by decide +kernel
theorem dX3_find_54 : decode cX3_find 54 = .ok (.aload_n 0, 1) := by decide +kernel
theorem dX3_find_55 : decode cX3_find 55 = .ok (.aload_n 1, 1) := by decide +kernel
theorem dX3_find_56 : decode cX3_find 56 = .ok (.getfield 57, 3) := by decide +kernel
theorem dX3_find_59 : decode cX3_find 59 = .ok (.iconst 0, 1) := by decide +kernel
theorem dX3_find_60 : decode cX3_find 60 = .ok (.iaload, 1) := by decide +kernel
theorem dX3_find_61 : decode cX3_find 61 = .ok (.putfield 60, 3) := by decide +kernel
theorem dX3_find_64 : decode cX3_find 64 = .ok (.iconst 0, 1) := by decide +kernel
theorem dX3_find_65 : decode cX3_find 65 = .ok (.istore 4, 2) := by decide +kernel
theorem dX3_find_67 : decode cX3_find 67 = .ok (.iload 4, 2) := by decide +kernel
theorem dX3_find_69 : decode cX3_find 69 = .ok (.sipush 162, 3) := by decide +kernel
theorem dX3_find_72 : decode cX3_find 72 = .ok (.if_icmp .ge 32, 3) := by decide +kernel
theorem dX3_find_75 : decode cX3_find 75 = .ok (.aload_n 0, 1) := by decide +kernel
theorem dX3_find_76 : decode cX3_find 76 = .ok (.getfield 15, 3) := by decide +kernel
theorem dX3_find_79 : decode cX3_find 79 = .ok (.iload 4, 2) := by decide +kernel
theorem dX3_find_81 : decode cX3_find 81 = .ok (.iconst 0, 1) := by decide +kernel
theorem dX3_find_82 : decode cX3_find 82 = .ok (.bastore, 1) := by decide +kernel
theorem dX3_find_83 : decode cX3_find 83 = .ok (.aload_n 0, 1) := by decide +kernel
theorem dX3_find_84 : decode cX3_find 84 = .ok (.getfield 19, 3) := by decide +kernel
theorem dX3_find_87 : decode cX3_find 87 = .ok (.iload 4, 2) := by decide +kernel
theorem dX3_find_89 : decode cX3_find 89 = .ok (.aload_n 1, 1) := by decide +kernel
theorem dX3_find_90 : decode cX3_find 90 = .ok (.iload 4, 2) := by decide +kernel
theorem dX3_find_92 : decode cX3_find 92 = .ok (.iload_n 2, 1) := by decide +kernel
theorem dX3_find_93 : decode cX3_find 93 = .ok (.iload_n 3, 1) := by decide +kernel
theorem dX3_find_94 : decode cX3_find 94 = .ok (.invokevirtual 63, 3) := by decide +kernel
theorem dX3_find_97 : decode cX3_find 97 = .ok (.iastore, 1) := by decide +kernel
theorem dX3_find_98 : decode cX3_find 98 = .ok (.iinc 4 1, 3) := by decide +kernel
theorem dX3_find_101 : decode cX3_find 101 = .ok (.goto (-34), 3) := by decide +kernel
theorem dX3_find_104 : decode cX3_find 104 = .ok (.aload_n 1, 1) := by decide +kernel
theorem dX3_find_105 : decode cX3_find 105 = .ok (.getfield 67, 3) := by decide +kernel
theorem dX3_find_108 : decode cX3_find 108 = .ok (.iload_n 2, 1) := by decide +kernel
theorem dX3_find_109 : decode cX3_find 109 = .ok (.aaload, 1) := by decide +kernel
theorem dX3_find_110 : decode cX3_find 110 = .ok (.astore 4, 2) := by decide +kernel
theorem dX3_find_112 : decode cX3_find 112 = .ok (.aload_n 0, 1) := by decide +kernel
theorem dX3_find_113 : decode cX3_find 113 = .ok (.aload 4, 2) := by decide +kernel
theorem dX3_find_115 : decode cX3_find 115 = .ok (.getfield 71, 3) := by decide +kernel
theorem dX3_find_118 : decode cX3_find 118 = .ok (.invokevirtual 76, 3) := by decide +kernel
theorem dX3_find_121 : decode cX3_find 121 = .ok (.aload_n 0, 1) := by decide +kernel
theorem dX3_find_122 : decode cX3_find 122 = .ok (.aload_n 1, 1) := by decide +kernel
theorem dX3_find_123 : decode cX3_find 123 = .ok (.iload_n 2, 1) := by decide +kernel
theorem dX3_find_124 : decode cX3_find 124 = .ok (.aload 4, 2) := by decide +kernel
theorem dX3_find_126 : decode cX3_find 126 = .ok (.getfield 80, 3) := by decide +kernel
theorem dX3_find_129 : decode cX3_find 129 = .ok (.invokevirtual 83, 3) := by decide +kernel
theorem dX3_find_132 : decode cX3_find 132 = .ok (.ifCond .eq 30, 3) := by decide +kernel
theorem dX3_find_135 : decode cX3_find 135 = .ok (.aload 4, 2) := by decide +kernel
theorem dX3_find_137 : decode cX3_find 137 = .ok (.getfield 87, 3) := by decide +kernel
theorem dX3_find_140 : decode cX3_find 140 = .ok (.iconst (-1), 1) := by decide +kernel
theorem dX3_find_141 : decode cX3_find 141 = .ok (.if_icmp .eq 17, 3) := by decide +kernel
theorem dX3_find_144 : decode cX3_find 144 = .ok (.aload_n 0, 1) := by decide +kernel
theorem dX3_find_145 : decode cX3_find 145 = .ok (.aload_n 1, 1) := by decide +kernel
theorem dX3_find_146 : decode cX3_find 146 = .ok (.iload_n 2, 1) := by decide +kernel
theorem dX3_find_147 : decode cX3_find 147 = .ok (.aload 4, 2) := by decide +kernel
theorem dX3_find_149 : decode cX3_find 149 = .ok (.getfield 87, 3) := by decide +kernel
theorem dX3_find_152 : decode cX3_find 152 = .ok (.invokevirtual 83, 3) := by decide +kernel
theorem dX3_find_155 : decode cX3_find 155 = .ok (.ifCond .eq 7, 3) := by decide +kernel
theorem dX3_find_158 : decode cX3_find 158 = .ok (.iconst 1, 1) := by decide +kernel
theorem dX3_find_159 : decode cX3_find 159 = .ok (.goto 4, 3) := by decide +kernel
theorem dX3_find_162 : decode cX3_find 162 = .ok (.iconst 0, 1) := by decide +kernel
theorem dX3_find_163 : decode cX3_find 163 = .ok (.ireturn, 1) := by decide +kernel
abbrev rmX3_find : Room := { frames := 3, cells := 0, slots := 0, locals := 73 }
set_option maxRecDepth 20000 in
theorem in_X3_find_X0 : ∀ w ∈ wsX00, w ∈ wsX3_find := by decide +kernel
set_option maxRecDepth 20000 in
theorem in_X3_find_X2 : ∀ w ∈ wsX20, w ∈ wsX3_find := by decide +kernel
set_option maxRecDepth 20000 in
theorem in_X3_find_X3 : ∀ w ∈ wsX30, w ∈ wsX3_find := by decide +kernel

set_option maxRecDepth 100000 in
set_option maxHeartbeats 16000000 in
theorem c_X3_find {l : Launch} {g : Geo} {M : Nat → Nat → Int32} {P : Nat → Nat} {c : Nat} (hc : c < 6) {N : Nat} (hN : M c 5 = nI N) (hN6 : N ≤ 6) {n vc pr p0 p1 : Nat} {dg : Bool} {sb : Nat → Nat} {p2 : Option Nat} (hn : n < N) (hvc : M c 0 = nI vc) (hv : 1 ≤ vc ∧ vc ≤ 20) (hpr : M c 1 = nI pr) (hpr50 : pr ≤ 50) (hsb : ∀ k, k < N → M c (169 + 9 * k + 3) = nI (sb k)) (hsb9 : ∀ k, k < N → sb k ≤ 9) (hNb : Nbr M) (h0 : M c (169 + 9 * n) = nI p0) (hp0 : p0 < 81) (h1 : M c (169 + 9 * n + 1) = nI p1) (hp1 : p1 < 81) (h2 : M c (169 + 9 * n + 2) = ngh p2) (hp2 : ∀ t, p2 = some t → t < 81) (ho0 : M c (7 + p0) = nI (10 + n)) (hpair : ∀ a, a < 81 → (M c (7 + a) = nI (10 + n) ↔ M c (7 + (a + 81)) = nI (10 + n))) : Met l yX3_find wsX3_find rmX3_find (cPre g [.ref (g.1 149), .ref (g.1 (24 * c)), .int (nI n), .int (bI dg)] M P) (cQi g (fun r M' P' => P = P' ∧ FrF M M' ∧ ((rtP eC (M c) N n dg pr sb vc p0 p1 p2 = none ∧ r = nI 0) ∨ ∃ z pl1 pl2, rtP eC (M c) N n dg pr sb vc p0 p1 p2 = some (z, pl1, pl2) ∧ r = nI 1 ∧ RtM M' (pl1 ++ pl2) (accR (M c) N (twE eC (M c) N n dg pr sb) pl1 pl2) ∧ M' 149 12 = nI z))) 0 0 (gA g) := by
  refine met_z (cc := cX3_find) (maxL := 5) (by decide) rfl ⟨rfl, rfl⟩ (Nat.le_of_ble_eq_true rfl) (fun x hx h hret => ?_)
  replace h : Cxk x g cX3_find 5 wsX3_find RX3 rmX3_find := h
  show X x 0 [(0, .ref (g.1 149)), (1, .ref (g.1 (24 * c))), (2, .int (nI n)), (3, .int (bI dg))] [] M P
  refine x_aload_n h 0 dX3_find_0 rfl rfl ?_
  refine x_iconst h (nI 0) dX3_find_1 (by decide) ?_
  refine xp_X3_11 h in_X3_find_X3 (by decide +kernel) dX3_find_2 ?_
  refine x_aload_n h 0 dX3_find_5 rfl rfl ?_
  refine x_iconst h (nI 0) dX3_find_6 (by decide) ?_
  refine xp_X3_12 h in_X3_find_X3 (by decide +kernel) dX3_find_7 ?_
  refine x_aload_n h 0 dX3_find_10 rfl rfl ?_
  refine x_iconst h (nI 0) dX3_find_11 (by decide) ?_
  refine xp_X3_13 h in_X3_find_X3 (by decide +kernel) dX3_find_12 ?_
  refine x_aload_n h 0 dX3_find_15 rfl rfl ?_
  refine x_iconst h (nI 0) dX3_find_16 (by decide) ?_
  refine xp_X3_14 h in_X3_find_X3 (by decide +kernel) dX3_find_17 ?_
  obtain ⟨W0, hW0⟩ : ∃ q : Nat → Nat → Int32, q = st2 (st2 (st2 (st2 M 149 11 (nI 0)) 149 12 (nI 0)) 149 13 (nI 0)) 149 14 (nI 0) := ⟨_, rfl⟩
  refine x_mem W0 hW0.symm ?_
  have g0 : FrF M W0 := fun k hk => by rw [hW0, st2_n _ _ _ (by omega), st2_n _ _ _ (by omega), st2_n _ _ _ (by omega), st2_n _ _ _ (by omega)]
  have g11 : W0 149 11 = nI 0 := by rw [hW0, st2_k, pk_un (by decide), st2_k, pk_un (by decide), st2_k, pk_un (by decide), st2_k, pk_us]
  have g12 : W0 149 12 = nI 0 := by rw [hW0, st2_k, pk_un (by decide), st2_k, pk_un (by decide), st2_k, pk_us]
  have g13 : W0 149 13 = nI 0 := by rw [hW0, st2_k, pk_un (by decide), st2_k, pk_us]
  have g14 : W0 149 14 = nI 0 := by rw [hW0, st2_k, pk_us]
  refine x_iconst h (nI 0) dX3_find_20 (by decide) ?_
  refine x_istore h [(4, .int (nI 0)), (0, .ref (g.1 149)), (1, .ref (g.1 (24 * c))), (2, .int (nI n)), (3, .int (bI dg))] dX3_find_21 (by decide) rfl ?_
  have L23 : ∀ (fu : Nat) (i : Nat) (W : Nat → Nat → Int32), (6 - i) < fu → (i ≤ 6) → (∀ k, k ≠ 157 → W k = W0 k) → (∀ k, k < i → W 157 k = nI 0) → X x 23 [(0, .ref (g.1 149)), (1, .ref (g.1 (24 * c))), (2, .int (nI n)), (3, .int (bI dg)), (4, .int (nI i))] [] W P := by
    intro fu
    induction fu with
    | zero => intro i W hmu23; exact absurd hmu23 (Nat.not_lt_zero _)
    | succ fu ih23 =>
      intro i W hmu23 hi hFr hz
      refine x_iload h 4 dX3_find_23 rfl ?_
      refine x_bipush h (nI 6) dX3_find_25 (by decide) ?_
      refine x_icmp_ge_n h 44 dX3_find_27 (by decide) (by omega) (by decide) (fun c_27 => ?_) (fun c_27 => ?_)
      · -- 27 true
        have hWc : W c = M c := by rw [hFr c (by omega)]; exact g0 c (by omega)
        refine x_aload_n h 1 dX3_find_44 rfl rfl ?_
        refine x_iload_n h 2 dX3_find_45 rfl rfl ?_
        refine x_callV h (As := [.int (nI n)]) 1 hx (c_X0_hasNet hc (by rw [hWc]; exact hN) hN6) gX3_find_X0_hasNet rfl ⟨rfl, rfl⟩ (by decide +kernel) rfl (by decide) (hk_chip hc) (E_chip hc) rfl rfl (Nat.le_of_ble_eq_true rfl) dX3_find_46 (fun rv M' P' hp => ?_)
        obtain ⟨⟨rfl, rfl⟩, hp⟩ := hp
        rcases hp with ⟨⟨k46, hk46, ek46⟩, rfl⟩ | ⟨nk46, rfl⟩
        · -- call 46
          refine x_if_ne h 54 dX3_find_49 (by decide) (fun _ => ?_) (fun c => absurd c (by decide))
          refine x_aload_n h 0 dX3_find_54 rfl rfl ?_
          refine x_aload_n h 1 dX3_find_55 rfl rfl ?_
          refine xg_X0_0 h hc in_X3_find_X0 (by decide +kernel) dX3_find_56 ?_
          refine x_iconst h (nI 0) dX3_find_59 (by decide) ?_
          refine xl_sett h hc dX3_find_60 (by decide) ?_
          refine x_top (nI vc) (by rw [hWc]; exact hvc) ?_
          refine xp_X3_8 h in_X3_find_X3 (by decide +kernel) dX3_find_61 ?_
          obtain ⟨W1, hW1⟩ : ∃ q : Nat → Nat → Int32, q = st2 W 149 8 (nI vc) := ⟨_, rfl⟩
          refine x_mem W1 hW1.symm ?_
          have hW1c : W1 c = M c := by rw [hW1, st2_n _ _ _ (by omega)]; exact hWc
          refine x_iconst h (nI 0) dX3_find_64 (by decide) ?_
          refine x_istore h [(4, .int (nI 0)), (0, .ref (g.1 149)), (1, .ref (g.1 (24 * c))), (2, .int (nI n)), (3, .int (bI dg))] dX3_find_65 (by decide) rfl ?_
          have L67 : ∀ (fu : Nat) (i2 : Nat) (W2 : Nat → Nat → Int32), (162 - i2) < fu → (i2 ≤ 162) → (∀ k, k ≠ 151 → k ≠ 152 → W2 k = W1 k) → (∀ a, a < i2 → W2 151 a = nI 0 ∧ W2 152 a = tollI ((twE eC (M c) N n dg pr sb) a)) → X x 67 [(0, .ref (g.1 149)), (1, .ref (g.1 (24 * c))), (2, .int (nI n)), (3, .int (bI dg)), (4, .int (nI i2))] [] W2 P := by
            intro fu
            induction fu with
            | zero => intro i2 W2 hmu67; exact absurd hmu67 (Nat.not_lt_zero _)
            | succ fu ih67 =>
              intro i2 W2 hmu67 hi2 hFr2 hA
              refine x_iload h 4 dX3_find_67 rfl ?_
              refine x_sipush h (nI 162) dX3_find_69 (by decide) ?_
              refine x_icmp_ge_n h 104 dX3_find_72 (by decide) (by omega) (by decide) (fun c_72 => ?_) (fun c_72 => ?_)
              · -- 72 true
                refine x_aload_n h 1 dX3_find_104 rfl rfl ?_
                refine xg_X0_3 h hc in_X3_find_X0 (by decide +kernel) dX3_find_105 ?_
                refine x_iload_n h 2 dX3_find_108 rfl rfl ?_
                refine xa_nets h hc dX3_find_109 (by omega) ?_
                refine x_astore h [(4, .ref (g.1 (24 * c + 5 + n))), (0, .ref (g.1 149)), (1, .ref (g.1 (24 * c))), (2, .int (nI n)), (3, .int (bI dg))] dX3_find_110 (by decide) rfl ?_
                refine x_aload_n h 1 dX3_find_112 rfl rfl ?_
                refine x_aload h 0 dX3_find_113 rfl ?_
                refine xg_X2_0 h hc (by omega) in_X3_find_X2 (by decide +kernel) dX3_find_115 ?_
                refine x_top (nI p0) (by rw [hFr2 c (by omega) (by omega), hW1c]; exact h0) ?_
                refine x_callVv h (As := [.int (nI p0)]) 1 hx (c_X3_joinPlace hp0) gX3_find_X3_joinPlace rfl ⟨rfl, rfl⟩ (by decide +kernel) rfl (by decide) (by decide) E_149 rfl rfl (Nat.le_of_ble_eq_true rfl) dX3_find_118 (fun M118 P' hp => ?_)
                obtain ⟨rfl, hM118⟩ := hp
                have f3 : ∀ k, k ≠ 151 → M118 k = W2 k := fun k hk => by rw [hM118, st2_n _ _ _ hk, st2_n _ _ _ hk]
                have hc3 : M118 c = M c := by rw [f3 c (by omega), hFr2 c (by omega) (by omega), hW1c]
                have hJ3 : ∀ a, a < 162 → M118 151 a = bI (jn0 p0 a) := fun a ha => by rw [hM118]; exact jn0_mem (fun b hb => (hA b (by omega)).1) ha
                have hT3 : ∀ a, a < 162 → M118 152 a = tollI ((twE eC (M c) N n dg pr sb) a) := fun a ha => by rw [f3 152 (by decide)]; exact (hA a (by omega)).2
                have hvc3 : M118 149 8 = nI vc := by rw [f3 149 (by decide), hFr2 149 (by decide) (by decide), hW1, st2_k, pk_us]
                have w149 : ∀ j, j ≠ 8 → M118 149 j = W0 149 j := fun j hj => by rw [f3 149 (by decide), hFr2 149 (by decide) (by decide), hW1, st2_k, pk_un hj, hFr 149 (by decide)]
                have g3 : FrF M M118 := fun k hk => by rw [f3 k (by omega), hFr2 k (by omega) (by omega), hW1, st2_n _ _ _ (by omega), hFr k (by omega)]; exact g0 k hk
                have hNb3 : Nbr M118 := fun a k ha hk => by rw [g3 150 (by decide)]; exact hNb a k ha hk
                have hR3 : RtM M118 [] acc0 := ⟨by rw [w149 11 (by decide)]; exact g11, fun i hi => absurd hi (Nat.not_lt_zero i), by rw [w149 14 (by decide)]; exact g14, by rw [w149 13 (by decide)]; exact g13, fun k hk => by rw [f3 157 (by decide), hFr2 157 (by decide) (by decide), hW1, st2_n _ _ _ (by decide)]; exact hz k (by omega)⟩
                have hz3 : M118 149 12 = nI 0 := by rw [w149 12 (by decide)]; exact g12
                have hop : ∀ a, a < 162 → M c (7 + a) = nI (10 + n) → (twE eC (M c) N n dg pr sb) a ≠ none := fun a ha e => twE_own ha e
                have hJt0 : ∀ a, jn0 p0 a = true → (twE eC (M c) N n dg pr sb) a ≠ none := fun a e => by
                  unfold jn0 at e
                  simp only [Bool.or_eq_true, decide_eq_true_eq] at e
                  rcases e with rfl | rfl
                  · exact hop _ (by omega) ho0
                  · exact hop _ (by omega) ((hpair p0 hp0).mp ho0)
                refine x_aload_n h 1 dX3_find_121 rfl rfl ?_
                refine x_aload_n h 2 dX3_find_122 rfl rfl ?_
                refine x_iload_n h 3 dX3_find_123 rfl rfl ?_
                refine x_aload h 0 dX3_find_124 rfl ?_
                refine xg_X2_1 h hc (by omega) in_X3_find_X2 (by decide +kernel) dX3_find_126 ?_
                refine x_top (nI p1) (by rw [hc3]; exact h1) ?_
                refine x_callV h (As := [.ref (g.1 (24 * c)), .int (nI n), .int (nI p1)]) 3 hx (c_X3_addPath hc (by rw [hc3]; exact hN) hN6 (vc := vc) (tw := (twE eC (M c) N n dg pr sb)) (J := jn0 p0) hv hvc3 hNb3 hT3 (twE_le hpr50 hsb9) hJ3 hJt0 (n := n) (p := p1) hR3 hz3 (Nat.zero_le _) hp1) gX3_find_X3_addPath rfl ⟨rfl, rfl⟩ (by decide +kernel) rfl (by decide) (by decide) E_149 rfl rfl (Nat.le_of_ble_eq_true rfl) dX3_find_129 (fun rv M129 P' hp => ?_)
                obtain ⟨rfl, hF129, hp⟩ := hp
                rw [hc3] at hp
                rcases hp with ⟨hs1, rfl⟩ | ⟨s1, hs1, rfl, hR1, hz1, hT1, hJ1⟩
                · -- no first path
                  refine x_if_eq h 162 dX3_find_132 (by decide) (fun _ => ?_) (fun c => absurd (by decide) c)
                  refine x_iconst h (nI 0) dX3_find_162 (by decide) ?_
                  exact hret _ _ _ _ _ dX3_find_163 (by decide) (by exact ⟨rfl, (fun k hk => (hF129.1 k hk).trans (g3 k hk)), Or.inl ⟨rtP_none1 rfl hs1, rfl⟩⟩)
                · -- a first path
                  have hc4 : M129 c = M c := (hF129.1 c (by omega)).trans hc3
                  rw [List.nil_append] at hR1; rw [Nat.zero_add] at hz1
                  refine x_if_eq h 162 dX3_find_132 (by decide) (fun c => absurd c (by decide)) (fun _ => ?_)
                  refine x_aload h 0 dX3_find_135 rfl ?_
                  refine xg_X2_2 h hc (by omega) in_X3_find_X2 (by decide +kernel) dX3_find_137 ?_
                  refine x_top ((ngh p2)) (by rw [hc4]; exact h2) ?_
                  refine x_iconst h ((-1)) dX3_find_140 (by decide) ?_
                  refine x_icmp_eq h 158 dX3_find_141 (by decide) (fun c_141 => ?_) (fun c_141 => ?_)
                  · -- 141 true
                    refine x_iconst h (nI 1) dX3_find_158 (by decide) ?_
                    refine x_goto h 163 dX3_find_159 (by decide) ?_
                    exact hret _ _ _ _ _ dX3_find_163 (by decide) (by obtain rfl : p2 = none := (ngh_m1 c_141 (fun t e => by have := hp2 t e; omega)); exact ⟨rfl, (fun k hk => (hF129.1 k hk).trans (g3 k hk)), Or.inr ⟨_, _, [], rtP_one rfl hs1, rfl, (by rw [List.append_nil]; exact hR1), hz1⟩⟩)
                  · -- 141 false
                    obtain ⟨t2, rfl⟩ := ngh_nm1 c_141
                    have hs1l : s1 < 162 := by have := (startO_some hs1).1; omega
                    have hJt1 : ∀ a, (joinL (M c) (nI (10 + n)) (jn0 p0) (pthL vc (twE eC (M c) N n dg pr sb) (jn0 p0) (dcl (twE eC (M c) N n dg pr sb) (dS vc (twE eC (M c) N n dg pr sb) (jn0 p0))) 161 s1)) a = true → (tw0 (twE eC (M c) N n dg pr sb) (pthL vc (twE eC (M c) N n dg pr sb) (jn0 p0) (dcl (twE eC (M c) N n dg pr sb) (dS vc (twE eC (M c) N n dg pr sb) (jn0 p0))) 161 s1)) a ≠ none := fun a e => joinL_open hop hpair (pthL vc (twE eC (M c) N n dg pr sb) (jn0 p0) (dcl (twE eC (M c) N n dg pr sb) (dS vc (twE eC (M c) N n dg pr sb) (jn0 p0))) 161 s1) [] (jn0 p0) (pth_lt 161 s1 hs1l) (fun b hb => by unfold tw0; split; exact Option.some_ne_none _; exact hJt0 b hb) a e
                    refine x_aload_n h 1 dX3_find_144 rfl rfl ?_
                    refine x_aload_n h 2 dX3_find_145 rfl rfl ?_
                    refine x_iload_n h 3 dX3_find_146 rfl rfl ?_
                    refine x_aload h 0 dX3_find_147 rfl ?_
                    refine xg_X2_2 h hc (by omega) in_X3_find_X2 (by decide +kernel) dX3_find_149 ?_
                    refine x_top (nI t2) (by rw [hc4]; exact h2) ?_
                    refine x_callV h (As := [.ref (g.1 (24 * c)), .int (nI n), .int (nI t2)]) 3 hx (c_X3_addPath hc (by rw [hc4]; exact hN) hN6 (vc := vc) (tw := (tw0 (twE eC (M c) N n dg pr sb) (pthL vc (twE eC (M c) N n dg pr sb) (jn0 p0) (dcl (twE eC (M c) N n dg pr sb) (dS vc (twE eC (M c) N n dg pr sb) (jn0 p0))) 161 s1))) (J := (joinL (M c) (nI (10 + n)) (jn0 p0) (pthL vc (twE eC (M c) N n dg pr sb) (jn0 p0) (dcl (twE eC (M c) N n dg pr sb) (dS vc (twE eC (M c) N n dg pr sb) (jn0 p0))) 161 s1))) hv (hF129.2.trans hvc3) (fun a k ha hk => by rw [hF129.1 150 (by decide)]; exact hNb3 a k ha hk) hT1 (tw0_le (twE_le hpr50 hsb9)) hJ1 hJt1 (n := n) (p := t2) hR1 hz1 (by have := pth_len (vc := vc) (tw := (twE eC (M c) N n dg pr sb)) (J := jn0 p0) (D := dcl (twE eC (M c) N n dg pr sb) (dS vc (twE eC (M c) N n dg pr sb) (jn0 p0))) 161 s1; omega) (hp2 t2 rfl)) gX3_find_X3_addPath rfl ⟨rfl, rfl⟩ (by decide +kernel) rfl (by decide) (by decide) E_149 rfl rfl (Nat.le_of_ble_eq_true rfl) dX3_find_152 (fun rv M152 P' hp => ?_)
                    obtain ⟨rfl, hF152, hp⟩ := hp
                    rw [hc4] at hp
                    rcases hp with ⟨hs2, rfl⟩ | ⟨s2, hs2, rfl, hR2, hz2, hT2, hJ2⟩
                    · -- no second path
                      refine x_if_eq h 162 dX3_find_155 (by decide) (fun _ => ?_) (fun c => absurd (by decide) c)
                      refine x_iconst h (nI 0) dX3_find_162 (by decide) ?_
                      exact hret _ _ _ _ _ dX3_find_163 (by decide) (by exact ⟨rfl, (fun k hk => (hF152.1 k hk).trans ((hF129.1 k hk).trans (g3 k hk))), Or.inl ⟨rtP_none2 rfl hs1 rfl rfl rfl hs2, rfl⟩⟩)
                    · -- a second path
                      refine x_if_eq h 162 dX3_find_155 (by decide) (fun c => absurd c (by decide)) (fun _ => ?_)
                      refine x_iconst h (nI 1) dX3_find_158 (by decide) ?_
                      refine x_goto h 163 dX3_find_159 (by decide) ?_
                      exact hret _ _ _ _ _ dX3_find_163 (by decide) (by exact ⟨rfl, (fun k hk => (hF152.1 k hk).trans ((hF129.1 k hk).trans (g3 k hk))), Or.inr ⟨_, _, _, rtP_two rfl hs1 rfl rfl rfl hs2, rfl, hR2, hz2⟩⟩)
              · -- 72 false
                refine x_aload_n h 0 dX3_find_75 rfl rfl ?_
                refine xg_X3_1 h in_X3_find_X3 (by decide +kernel) dX3_find_76 ?_
                refine x_iload h 4 dX3_find_79 rfl ?_
                refine x_iconst h (nI 0) dX3_find_81 (by decide) ?_
                refine xs_151 h dX3_find_82 (by decide) (by omega) ?_
                refine x_aload_n h 0 dX3_find_83 rfl rfl ?_
                refine xg_X3_2 h in_X3_find_X3 (by decide +kernel) dX3_find_84 ?_
                refine x_iload h 4 dX3_find_87 rfl ?_
                refine x_aload_n h 1 dX3_find_89 rfl rfl ?_
                refine x_iload h 4 dX3_find_90 rfl ?_
                refine x_iload_n h 2 dX3_find_92 rfl rfl ?_
                refine x_iload_n h 3 dX3_find_93 rfl rfl ?_
                refine x_callV h (As := [.int (nI i2), .int (nI n), .int (bI dg)]) 3 hx (c_X0_tollOf hc (N := N) (by rw [st2_n _ _ _ (by omega), hFr2 c (by omega) (by omega), hW1c]; exact hN) hN6 (by omega)) gX3_find_X0_tollOf rfl ⟨rfl, rfl⟩ (by decide +kernel) rfl (by decide) (hk_chip hc) (E_chip hc) rfl rfl (Nat.le_of_ble_eq_true rfl) dX3_find_94 (fun rv M' P' hp => ?_)
                obtain ⟨⟨rfl, rfl⟩, rfl⟩ := hp
                refine x_top (tollI ((twE eC (M c) N n dg pr sb) i2)) (by rw [st2_n _ _ _ (by omega), hFr2 c (by omega) (by omega), hW1c]; exact tollX_tw (by omega) hN6 hpr hsb) ?_
                refine xs_152 h dX3_find_97 (by omega) ?_
                refine x_iinc_n h 4 (n := 1) [(4, .int (nI (i2 + 1))), (0, .ref (g.1 149)), (1, .ref (g.1 (24 * c))), (2, .int (nI n)), (3, .int (bI dg))] dX3_find_98 rfl (by decide) rfl ?_
                refine x_goto h 67 dX3_find_101 (by decide) ?_
                exact x_lv (ih67 (i2 + 1) (st2 (st2 W2 151 i2 (nI 0)) 152 i2 (tollI ((twE eC (M c) N n dg pr sb) i2))) (by omega) (by omega) (by exact fun k h1 h2 => by rw [st2_n _ _ _ h2, st2_n _ _ _ h1]; exact hFr2 k h1 h2) (by intro a ha; rw [st2_n _ _ _ (show (151 : Nat) ≠ 152 by decide), st2_k, st2_k, st2_n _ _ _ (show (152 : Nat) ≠ 151 by decide)]; by_cases e : a = i2; rw [e, pk_us, pk_us]; exact ⟨rfl, rfl⟩; rw [pk_un e, pk_un e]; exact hA a (by omega))) [1, 2, 3, 4, 0] rfl
          exact x_lv (L67 _ 0 W1 (Nat.lt_succ_self _) (by omega) (by exact fun k _ _ => rfl) (by exact fun a ha => absurd ha (Nat.not_lt_zero a))) [1, 2, 3, 4, 0] rfl
        · -- call 46
          exact absurd ⟨n, (by first | assumption | omega), rfl⟩ nk46
      · -- 27 false
        refine x_aload_n h 0 dX3_find_30 rfl rfl ?_
        refine xg_X3_10 h in_X3_find_X3 (by decide +kernel) dX3_find_31 ?_
        refine x_iload h 4 dX3_find_34 rfl ?_
        refine x_iconst h (nI 0) dX3_find_36 (by decide) ?_
        refine xs_157 h dX3_find_37 (by omega) ?_
        refine x_iinc_n h 4 (n := 1) [(4, .int (nI (i + 1))), (0, .ref (g.1 149)), (1, .ref (g.1 (24 * c))), (2, .int (nI n)), (3, .int (bI dg))] dX3_find_38 rfl (by decide) rfl ?_
        refine x_goto h 23 dX3_find_41 (by decide) ?_
        exact x_lv (ih23 (i + 1) (st2 W 157 i (nI 0)) (by omega) (by omega) (by exact fun k hk => (st2_n _ _ _ hk).trans (hFr k hk)) (by intro k hk; rw [st2_k]; by_cases e : k = i; rw [e, pk_us]; rw [pk_un e]; exact hz k (by omega))) [1, 2, 3, 4, 0] rfl
  exact x_lv (L23 _ 0 W0 (Nat.lt_succ_self _) (by omega) (by exact fun k _ => rfl) (by exact fun k hk => absurd hk (Nat.not_lt_zero k))) [1, 2, 3, 4, 0] rfl
