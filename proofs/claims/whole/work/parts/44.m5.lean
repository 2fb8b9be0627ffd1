/-! the model's routes -/
theorem nb_way {vc k c t : Nat} (hc : c < 162) (hk : k < 3) (h : nb k c = some t) : (c % 81 = t % 81 → mv vc k c = vc) ∧ (¬ c % 81 = t % 81 → mv vc k c = 1) := by
  unfold nb at h
  unfold mv
  split at h
  · split at h
    · split at h
      · cases h; exact ⟨fun q => by omega, fun q => if_neg (by omega)⟩
      · cases h
    · split at h
      · split at h
        · cases h; exact ⟨fun q => by omega, fun q => if_neg (by omega)⟩
        · cases h
      · cases h; exact ⟨fun q => if_pos (by omega), fun q => by omega⟩
  · split at h
    · cases h; exact ⟨fun q => if_pos (by omega), fun q => by omega⟩
    · split at h
      · split at h
        · cases h; exact ⟨fun q => by omega, fun q => if_neg (by omega)⟩
        · cases h
      · split at h
        · cases h; exact ⟨fun q => by omega, fun q => if_neg (by omega)⟩
        · cases h
def inM (vc : Nat) (tw : Nat → Option Nat) (k c t : Nat) : Nat := match tw t with
  | some w => mv vc k c + w
  | none => 1000000000
theorem inM_s {vc : Nat} {tw : Nat → Option Nat} {k c t w : Nat} (h : tw t = some w) : inM vc tw k c t = mv vc k c + w := by unfold inM; rw [h]
theorem inM_n {vc : Nat} {tw : Nat → Option Nat} {k c t : Nat} (h : tw t = none) : inM vc tw k c t = 1000000000 := by unfold inM; rw [h]
theorem fnd_code {e : Enc} {N k : Nat} {x : Int32} (hE : EncG e) (hN : N ≤ 6) (hk : k < N) (h : x = e.2.1 k) : fnd (fun j => decide (x = e.2.1 j)) N = some k := fnd_some hk (decide_eq_true h) (fun j hj => decide_eq_false (fun q => by
  have := ((hE.1 k (by omega)).2.2.2.2 j (by omega)).2.1 (h.symm.trans q)
  omega))
theorem twE_w {e : Enc} {X : Nat → Int32} {N n a k pr : Nat} {sb : Nat → Nat} (hE : EncG e) (hN : N ≤ 6) (hn : n < N) (ha : a < 162) (hk : k < N) (h : X (7 + a) = e.2.1 k) : twE e X N n true pr sb a = some (pr + sb k) := by
  unfold twE
  rw [if_neg (by omega), if_neg (fun q => q.elim (fun q => (hE.1 k (by omega)).1 (h.symm.trans q)) (fun q => ((hE.1 k (by omega)).2.2.2.2 n (by omega)).1 (h.symm.trans q))), if_pos rfl, fnd_code hE hN hk h]
theorem twE_n {e : Enc} {X : Nat → Int32} {N n a pr : Nat} {dg : Bool} {sb : Nat → Nat} (h1 : ¬ X (7 + a) = e.1) (h2 : ¬ X (7 + a) = e.2.2 n) (h : dg = false ∨ ∀ k, k < N → ¬ X (7 + a) = e.2.1 k) : twE e X N n dg pr sb a = none := by
  unfold twE
  split
  · rfl
  · rw [if_neg (fun q => q.elim h1 h2)]
    rcases h with h | h
    · rw [h, if_neg (by decide)]
    · split
      · rw [fnd_none (fun j hj => decide_eq_false (h j hj))]
      · rfl
theorem twE_f {e : Enc} {X : Nat → Int32} {N n a pr : Nat} {dg : Bool} {sb : Nat → Nat} (ha : a < 162) (h : X (7 + a) = e.1 ∨ X (7 + a) = e.2.2 n) : twE e X N n dg pr sb a = some 0 := by
  unfold twE
  rw [if_neg (by omega), if_pos h]
theorem twG_le {e : Enc} {X : Nat → Int32} {N K n : Nat} {dg : Bool} (hG : GdX e X N K) : ∀ a w, twX e X N n dg a = some w → w ≤ 59 := twE_le hG.pr.2 (fun k hk => (hG.net hk).st.2)
/-- an edge that tells of no shorter way -/
def Eg (vc : Nat) (tw : Nat → Option Nat) (J : Nat → Bool) (D : Nat → Nat) (c k : Nat) : Prop := J c = false → ∀ t w, nb k c = some t → tw t = some w → D c ≤ mv vc k c + w + D t
def J4 (vc : Nat) (tw : Nat → Option Nat) (J : Nat → Bool) (D : Nat → Nat) : Prop := (∀ a, a < 162 → D a ≤ 1000000000) ∧ (∀ a, a < 162 → J a = true → D a = 0) ∧ ∀ c, c < 162 → J c = false → D c < 1000000000 → ∃ k, k < 3 ∧ ∃ t w, nb k c = some t ∧ tw t = some w ∧ mv vc k c + w + D t ≤ D c
theorem J4_0 (vc : Nat) (tw : Nat → Option Nat) (J : Nat → Bool) : J4 vc tw J (fun a => if J a = true then 0 else 1000000000) := by
  refine ⟨fun a _ => by show (if J a = true then 0 else 1000000000) ≤ _; split <;> omega, fun a _ h => if_pos h, fun c _ h q => ?_⟩
  have q : (if J c = true then 0 else 1000000000) < 1000000000 := q
  rw [h, if_neg (by decide)] at q
  exact absurd q (Nat.lt_irrefl _)
theorem J4_u {vc : Nat} {tw : Nat → Option Nat} {J : Nat → Bool} {D : Nat → Nat} {c k t w : Nat} (h : J4 vc tw J D) (hc : c < 162) (hk : k < 3) (hJ : J c = false) (ht : nb k c = some t) (hw : tw t = some w) (hl : mv vc k c + w + D t < D c) : J4 vc tw J (updN D c (mv vc k c + w + D t)) := by
  have hle : ∀ a, updN D c (mv vc k c + w + D t) a ≤ D a := fun a => by
    unfold updN
    split
    · rename_i e; subst e; omega
    · exact Nat.le_refl _
  have htc : t ≠ c := fun e => by subst e; exact nb_ne hc ht
  refine ⟨fun a ha => Nat.le_trans (hle a) (h.1 a ha), fun a ha hj => ?_, fun a ha hj hd => ?_⟩
  · have := h.2.1 a ha hj
    have := hle a
    omega
  · by_cases e : a = c
    · subst e
      refine ⟨k, hk, t, w, ht, hw, ?_⟩
      unfold updN
      rw [if_pos rfl, if_neg htc]
      exact Nat.le_refl _
    · have e1 : updN D c (mv vc k c + w + D t) a = D a := if_neg e
      rw [e1] at hd ⊢
      obtain ⟨k2, hk2, t2, w2, g1, g2, g3⟩ := h.2.2 a ha hj hd
      exact ⟨k2, hk2, t2, w2, g1, g2, Nat.le_trans (Nat.add_le_add_left (hle t2) _) g3⟩
theorem sum_u {D : Nat → Nat} {c v : Nat} (hc : c < 162) (h : v < D c) : sumN (updN D c v) 162 + 1 ≤ sumN D 162 := by
  have := sumN_upd (f := updN D c v) (g := D) (k := c) (w := D c - v) hc (by show D c = (if c = c then v else D c) + _; rw [if_pos rfl]; omega) (fun j _ hj => (if_neg hj).symm)
  omega
theorem J4_sol {vc : Nat} {tw : Nat → Option Nat} {J : Nat → Bool} {D : Nat → Nat} (h : J4 vc tw J D) (hE : ∀ c, c < 162 → ∀ k, k < 3 → Eg vc tw J D c k) : Sol 1000000000 vc tw (fun c => J c = true) D := by
  refine ⟨h.1, h.2.1, fun c hc _ hj k hk t ht w hw => hE c hc k hk (by simpa using hj) t w ht hw, fun c hc _ hj hd => ?_⟩
  obtain ⟨k, hk, t, w, g1, g2, g3⟩ := h.2.2 c hc (by simpa using hj) hd
  have := hE c hc k hk (by simpa using hj) t w g1 g2
  exact ⟨k, hk, t, w, g1, g2, by omega⟩
def cndM (vc : Nat) (tw : Nat → Option Nat) (D : Nat → Nat) (c k : Nat) : Option Nat := match nb k c with
  | none => none
  | some t => match tw t with
    | none => none
    | some w => if D t < 1000000000 ∧ D t + w + mv vc k c = D c then some t else none
def nxtM (vc : Nat) (tw : Nat → Option Nat) (D : Nat → Nat) (c : Nat) : Option Nat := match cndM vc tw D c 0 with
  | some t => some t
  | none => match cndM vc tw D c 1 with
    | some t => some t
    | none => cndM vc tw D c 2
theorem nxtM_k {vc : Nat} {tw : Nat → Option Nat} {D : Nat → Nat} {c k t : Nat} (hk : k < 3) (h : cndM vc tw D c k = some t) (hn : ∀ j, j < k → cndM vc tw D c j = none) : nxtM vc tw D c = some t := by
  unfold nxtM
  rcases (show k = 0 ∨ k = 1 ∨ k = 2 by omega) with rfl | rfl | rfl
  · rw [h]
  · rw [hn 0 (by omega), h]
  · rw [hn 0 (by omega), hn 1 (by omega)]; exact h
theorem nxtM_none {vc : Nat} {tw : Nat → Option Nat} {D : Nat → Nat} {c : Nat} (hn : ∀ j, j < 3 → cndM vc tw D c j = none) : nxtM vc tw D c = none := by
  unfold nxtM
  rw [hn 0 (by omega), hn 1 (by omega)]; exact hn 2 (by omega)
theorem cndM_y {vc : Nat} {tw : Nat → Option Nat} {D : Nat → Nat} {c k t w : Nat} (h1 : nb k c = some t) (h2 : tw t = some w) (h3 : D t < 1000000000) (h4 : mv vc k c + w + D t = D c) : cndM vc tw D c k = some t := by
  unfold cndM
  rw [h1]; dsimp only; rw [h2]; dsimp only
  rw [if_pos ⟨h3, by omega⟩]
theorem cndM_n {vc : Nat} {tw : Nat → Option Nat} {D : Nat → Nat} {c k : Nat} (h : ∀ t w, nb k c = some t → tw t = some w → D t < 1000000000 → ¬ mv vc k c + w + D t = D c) : cndM vc tw D c k = none := by
  unfold cndM
  cases h1 : nb k c with
  | none => rfl
  | some t =>
    dsimp only
    cases h2 : tw t with
    | none => rfl
    | some w =>
      dsimp only
      rw [if_neg (fun q => h t w h1 h2 q.1 (by omega))]
def FrD (M M' : Nat → Nat → Int32) : Prop := ∀ k, k ≠ 164 → M' k = M k

theorem x_lvr {x : Ctx} {pc : Nat} {lv lv' : List (Nat × Value)} {st : List Value} {M : Nat → Nat → Int32} {P : Nat → Nat} (k : X x pc lv' st M P) (h : lv = lv') : X x pc lv st M P := h ▸ k

theorem far_u {W : Nat → Nat → Int32} {D : Nat → Nat} {c v : Nat} (h : ∀ a, a < 162 → W 164 a = nI (D a)) : ∀ a, a < 162 → st2 W 164 c (nI v) 164 a = nI (updN D c v a) := fun a ha => by
  rw [st2_k]
  unfold updN
  by_cases e : a = c
  · rw [if_pos e, e, pk_us]
  · rw [if_neg e, pk_un e, h a ha]

theorem dX6_neighbour_0 : decode cX6_neighbour 0 = .ok (.iload_n 0, 1) := by decide +kernel
theorem dX6_neighbour_1 : decode cX6_neighbour 1 = .ok (.bipush 81, 2) := by decide +kernel
theorem dX6_neighbour_3 : decode cX6_neighbour 3 = .ok (.irem, 1) := by decide +kernel
theorem dX6_neighbour_4 : decode cX6_neighbour 4 = .ok (.istore_n 2, 1) := by decide +kernel
theorem dX6_neighbour_5 : decode cX6_neighbour 5 = .ok (.iload_n 2, 1) := by decide +kernel
theorem dX6_neighbour_6 : decode cX6_neighbour 6 = .ok (.bipush 9, 2) := by decide +kernel
theorem dX6_neighbour_8 : decode cX6_neighbour 8 = .ok (.idiv, 1) := by decide +kernel
theorem dX6_neighbour_9 : decode cX6_neighbour 9 = .ok (.istore_n 3, 1) := by decide +kernel
theorem dX6_neighbour_10 : decode cX6_neighbour 10 = .ok (.iload_n 2, 1) := by decide +kernel
theorem dX6_neighbour_11 : decode cX6_neighbour 11 = .ok (.bipush 9, 2) := by decide +kernel
theorem dX6_neighbour_13 : decode cX6_neighbour 13 = .ok (.irem, 1) := by decide +kernel
theorem dX6_neighbour_14 : decode cX6_neighbour 14 = .ok (.istore 4, 2) := by decide +kernel
theorem dX6_neighbour_16 : decode cX6_neighbour 16 = .ok (.iload_n 0, 1) := by decide +kernel
theorem dX6_neighbour_17 : decode cX6_neighbour 17 = .ok (.bipush 81, 2) := by decide +kernel
theorem dX6_neighbour_19 : decode cX6_neighbour 19 = .ok (.if_icmp .ge 49, 3) := by decide +kernel
theorem dX6_neighbour_22 : decode cX6_neighbour 22 = .ok (.iload_n 1, 1) := by decide +kernel
theorem dX6_neighbour_23 : decode cX6_neighbour 23 = .ok (.ifCond .ne 18, 3) := by decide +kernel
theorem dX6_neighbour_26 : decode cX6_neighbour 26 = .ok (.iload 4, 2) := by decide +kernel
theorem dX6_neighbour_28 : decode cX6_neighbour 28 = .ok (.ifCond .le 9, 3) := by decide +kernel
theorem dX6_neighbour_31 : decode cX6_neighbour 31 = .ok (.iload_n 0, 1) := by decide +kernel
theorem dX6_neighbour_32 : decode cX6_neighbour 32 = .ok (.iconst 1, 1) := by decide +kernel
theorem dX6_neighbour_33 : decode cX6_neighbour 33 = .ok (.isub, 1) := by decide +kernel
theorem dX6_neighbour_34 : decode cX6_neighbour 34 = .ok (.goto 33, 3) := by decide +kernel
theorem dX6_neighbour_37 : decode cX6_neighbour 37 = .ok (.iconst (-1), 1) := by decide +kernel
theorem dX6_neighbour_38 : decode cX6_neighbour 38 = .ok (.goto 29, 3) := by decide +kernel
theorem dX6_neighbour_41 : decode cX6_neighbour 41 = .ok (.iload_n 1, 1) := by decide +kernel
theorem dX6_neighbour_42 : decode cX6_neighbour 42 = .ok (.iconst 1, 1) := by decide +kernel
theorem dX6_neighbour_43 : decode cX6_neighbour 43 = .ok (.if_icmp .ne 20, 3) := by decide +kernel
theorem dX6_neighbour_46 : decode cX6_neighbour 46 = .ok (.iload 4, 2) := by decide +kernel
theorem dX6_neighbour_48 : decode cX6_neighbour 48 = .ok (.bipush 8, 2) := by decide +kernel
theorem dX6_neighbour_50 : decode cX6_neighbour 50 = .ok (.if_icmp .ge 9, 3) := by decide +kernel
theorem dX6_neighbour_53 : decode cX6_neighbour 53 = .ok (.iload_n 0, 1) := by decide +kernel
theorem dX6_neighbour_54 : decode cX6_neighbour 54 = .ok (.iconst 1, 1) := by decide +kernel
theorem dX6_neighbour_55 : decode cX6_neighbour 55 = .ok (.iadd, 1) := by decide +kernel
theorem dX6_neighbour_56 : decode cX6_neighbour 56 = .ok (.goto 11, 3) := by decide +kernel
theorem dX6_neighbour_59 : decode cX6_neighbour 59 = .ok (.iconst (-1), 1) := by decide +kernel
theorem dX6_neighbour_60 : decode cX6_neighbour 60 = .ok (.goto 7, 3) := by decide +kernel
theorem dX6_neighbour_63 : decode cX6_neighbour 63 = .ok (.iload_n 0, 1) := by decide +kernel
theorem dX6_neighbour_64 : decode cX6_neighbour 64 = .ok (.bipush 81, 2) := by decide +kernel
theorem dX6_neighbour_66 : decode cX6_neighbour 66 = .ok (.iadd, 1) := by decide +kernel
theorem dX6_neighbour_67 : decode cX6_neighbour 67 = .ok (.ireturn, 1) := by decide +kernel
theorem dX6_neighbour_68 : decode cX6_neighbour 68 = .ok (.iload_n 1, 1) := by decide +kernel
theorem dX6_neighbour_69 : decode cX6_neighbour 69 = .ok (.ifCond .ne 10, 3) := by decide +kernel
theorem dX6_neighbour_72 : decode cX6_neighbour 72 = .ok (.iload_n 0, 1) := by decide +kernel
theorem dX6_neighbour_73 : decode cX6_neighbour 73 = .ok (.bipush 81, 2) := by decide +kernel
theorem dX6_neighbour_75 : decode cX6_neighbour 75 = .ok (.isub, 1) := by decide +kernel
theorem dX6_neighbour_76 : decode cX6_neighbour 76 = .ok (.goto 37, 3) := by decide +kernel
theorem dX6_neighbour_79 : decode cX6_neighbour 79 = .ok (.iload_n 1, 1) := by decide +kernel
theorem dX6_neighbour_80 : decode cX6_neighbour 80 = .ok (.iconst 1, 1) := by decide +kernel
theorem dX6_neighbour_81 : decode cX6_neighbour 81 = .ok (.if_icmp .ne 18, 3) := by decide +kernel
theorem dX6_neighbour_84 : decode cX6_neighbour 84 = .ok (.iload_n 3, 1) := by decide +kernel
theorem dX6_neighbour_85 : decode cX6_neighbour 85 = .ok (.ifCond .le 10, 3) := by decide +kernel
theorem dX6_neighbour_88 : decode cX6_neighbour 88 = .ok (.iload_n 0, 1) := by decide +kernel
theorem dX6_neighbour_89 : decode cX6_neighbour 89 = .ok (.bipush 9, 2) := by decide +kernel
theorem dX6_neighbour_91 : decode cX6_neighbour 91 = .ok (.isub, 1) := by decide +kernel
theorem dX6_neighbour_92 : decode cX6_neighbour 92 = .ok (.goto 21, 3) := by decide +kernel
theorem dX6_neighbour_95 : decode cX6_neighbour 95 = .ok (.iconst (-1), 1) := by decide +kernel
theorem dX6_neighbour_96 : decode cX6_neighbour 96 = .ok (.goto 17, 3) := by decide +kernel
theorem dX6_neighbour_99 : decode cX6_neighbour 99 = .ok (.iload_n 3, 1) := by decide +kernel
theorem dX6_neighbour_100 : decode cX6_neighbour 100 = .ok (.bipush 8, 2) := by decide +kernel
theorem dX6_neighbour_102 : decode cX6_neighbour 102 = .ok (.if_icmp .ge 10, 3) := by decide +kernel
theorem dX6_neighbour_105 : decode cX6_neighbour 105 = .ok (.iload_n 0, 1) := by decide +kernel
theorem dX6_neighbour_106 : decode cX6_neighbour 106 = .ok (.bipush 9, 2) := by decide +kernel
theorem dX6_neighbour_108 : decode cX6_neighbour 108 = .ok (.iadd, 1) := by decide +kernel
theorem dX6_neighbour_109 : decode cX6_neighbour 109 = .ok (.goto 4, 3) := by decide +kernel
theorem dX6_neighbour_112 : decode cX6_neighbour 112 = .ok (.iconst (-1), 1) := by decide +kernel
theorem dX6_neighbour_113 : decode cX6_neighbour 113 = .ok (.ireturn, 1) := by decide +kernel
abbrev rmX6_neighbour : Room := { frames := 0, cells := 0, slots := 0, locals := 0 }

set_option maxRecDepth 100000 in
set_option maxHeartbeats 4000000 in
theorem c_X6_neighbour {l : Launch} {g : Geo} {M : Nat → Nat → Int32} {P : Nat → Nat} {c k : Nat} (hc : c < 162) (hk : k < 3) : Met l yX6_neighbour wsX6_neighbour rmX6_neighbour (cPre g [.int (nI c), .int (nI k)] M P) (cQi g (fun r M' P' => (P = P' ∧ M = M') ∧ r = ngh (nb k c))) 0 0 (gA g) := by
  refine met_i (cc := cX6_neighbour) (maxL := 5) (by decide) rfl ⟨rfl, rfl⟩ (Nat.le_of_ble_eq_true rfl) (fun x hx h hret => ?_)
  replace h : Cxk x g cX6_neighbour 5 wsX6_neighbour RX6 rmX6_neighbour := h
  show X x 0 [(0, .int (nI c)), (1, .int (nI k))] [] M P
  refine x_iload_n h 0 dX6_neighbour_0 rfl rfl ?_
  refine x_bipush h (nI 81) dX6_neighbour_1 (by decide) ?_
  refine x_irem_n h dX6_neighbour_3 (by omega) (by decide) (by decide) ?_
  refine x_istore_n h [(2, .int (nI (c % 81))), (0, .int (nI c)), (1, .int (nI k))] dX6_neighbour_4 rfl (by decide) rfl ?_
  refine x_iload_n h 0 dX6_neighbour_5 rfl rfl ?_
  refine x_bipush h (nI 9) dX6_neighbour_6 (by decide) ?_
  refine x_idiv_n h dX6_neighbour_8 (by omega) (by decide) (by decide) ?_
  refine x_istore_n h [(3, .int (nI ((c % 81) / 9))), (2, .int (nI (c % 81))), (0, .int (nI c)), (1, .int (nI k))] dX6_neighbour_9 rfl (by decide) rfl ?_
  refine x_iload_n h 1 dX6_neighbour_10 rfl rfl ?_
  refine x_bipush h (nI 9) dX6_neighbour_11 (by decide) ?_
  refine x_irem_n h dX6_neighbour_13 (by omega) (by decide) (by decide) ?_
  refine x_istore h [(4, .int (nI ((c % 81) % 9))), (3, .int (nI ((c % 81) / 9))), (2, .int (nI (c % 81))), (0, .int (nI c)), (1, .int (nI k))] dX6_neighbour_14 (by decide) rfl ?_
  refine x_iload_n h 3 dX6_neighbour_16 rfl rfl ?_
  refine x_bipush h (nI 81) dX6_neighbour_17 (by decide) ?_
  refine x_icmp_ge_n h 68 dX6_neighbour_19 (by decide) (by omega) (by decide) (fun c_19 => ?_) (fun c_19 => ?_)
  · -- 19 true
    refine x_iload_n h 4 dX6_neighbour_68 rfl rfl ?_
    refine x_if_ne_n h 79 dX6_neighbour_69 (by decide) (by omega) (fun c_69 => ?_) (fun c_69 => ?_)
    · -- 69 true
      refine x_iload_n h 4 dX6_neighbour_79 rfl rfl ?_
      refine x_iconst h (nI 1) dX6_neighbour_80 (by decide) ?_
      refine x_icmp_ne_n h 99 dX6_neighbour_81 (by decide) (by omega) (by decide) (fun c_81 => ?_) (fun c_81 => ?_)
      · -- 81 true
        refine x_iload_n h 1 dX6_neighbour_99 rfl rfl ?_
        refine x_bipush h (nI 8) dX6_neighbour_100 (by decide) ?_
        refine x_icmp_ge_n h 112 dX6_neighbour_102 (by decide) (by omega) (by decide) (fun c_102 => ?_) (fun c_102 => ?_)
        · -- 102 true
          refine x_iconst h ((-1)) dX6_neighbour_112 (by decide) ?_
          exact hret _ _ _ _ _ dX6_neighbour_113 (by refine ⟨⟨rfl, rfl⟩, ?_⟩; unfold nb; split <;> (try split) <;> (try split) <;> first | rfl | omega)
        · -- 102 false
          refine x_iload_n h 3 dX6_neighbour_105 rfl rfl ?_
          refine x_bipush h (nI 9) dX6_neighbour_106 (by decide) ?_
          refine x_iadd_n h dX6_neighbour_108 ?_
          refine x_goto h 113 dX6_neighbour_109 (by decide) ?_
          exact hret _ _ _ _ _ dX6_neighbour_113 (by refine ⟨⟨rfl, rfl⟩, ?_⟩; unfold nb; split <;> (try split) <;> (try split) <;> first | rfl | omega)
      · -- 81 false
        refine x_iload_n h 1 dX6_neighbour_84 rfl rfl ?_
        refine x_if_le_n h 95 dX6_neighbour_85 (by decide) (by omega) (fun c_85 => ?_) (fun c_85 => ?_)
        · -- 85 true
          refine x_iconst h ((-1)) dX6_neighbour_95 (by decide) ?_
          refine x_goto h 113 dX6_neighbour_96 (by decide) ?_
          exact hret _ _ _ _ _ dX6_neighbour_113 (by refine ⟨⟨rfl, rfl⟩, ?_⟩; unfold nb; split <;> (try split) <;> (try split) <;> first | rfl | omega)
        · -- 85 false
          refine x_iload_n h 3 dX6_neighbour_88 rfl rfl ?_
          refine x_bipush h (nI 9) dX6_neighbour_89 (by decide) ?_
          refine x_isub_n h dX6_neighbour_91 (by omega) ?_
          refine x_goto h 113 dX6_neighbour_92 (by decide) ?_
          exact hret _ _ _ _ _ dX6_neighbour_113 (by refine ⟨⟨rfl, rfl⟩, ?_⟩; unfold nb; split <;> (try split) <;> (try split) <;> first | rfl | omega)
    · -- 69 false
      refine x_iload_n h 3 dX6_neighbour_72 rfl rfl ?_
      refine x_bipush h (nI 81) dX6_neighbour_73 (by decide) ?_
      refine x_isub_n h dX6_neighbour_75 (by omega) ?_
      refine x_goto h 113 dX6_neighbour_76 (by decide) ?_
      exact hret _ _ _ _ _ dX6_neighbour_113 (by refine ⟨⟨rfl, rfl⟩, ?_⟩; unfold nb; split <;> (try split) <;> (try split) <;> first | rfl | omega)
  · -- 19 false
    refine x_iload_n h 4 dX6_neighbour_22 rfl rfl ?_
    refine x_if_ne_n h 41 dX6_neighbour_23 (by decide) (by omega) (fun c_23 => ?_) (fun c_23 => ?_)
    · -- 23 true
      refine x_iload_n h 4 dX6_neighbour_41 rfl rfl ?_
      refine x_iconst h (nI 1) dX6_neighbour_42 (by decide) ?_
      refine x_icmp_ne_n h 63 dX6_neighbour_43 (by decide) (by omega) (by decide) (fun c_43 => ?_) (fun c_43 => ?_)
      · -- 43 true
        refine x_iload_n h 3 dX6_neighbour_63 rfl rfl ?_
        refine x_bipush h (nI 81) dX6_neighbour_64 (by decide) ?_
        refine x_iadd_n h dX6_neighbour_66 ?_
        exact hret _ _ _ _ _ dX6_neighbour_67 (by refine ⟨⟨rfl, rfl⟩, ?_⟩; unfold nb; split <;> (try split) <;> (try split) <;> first | rfl | omega)
      · -- 43 false
        refine x_iload h 0 dX6_neighbour_46 rfl ?_
        refine x_bipush h (nI 8) dX6_neighbour_48 (by decide) ?_
        refine x_icmp_ge_n h 59 dX6_neighbour_50 (by decide) (by omega) (by decide) (fun c_50 => ?_) (fun c_50 => ?_)
        · -- 50 true
          refine x_iconst h ((-1)) dX6_neighbour_59 (by decide) ?_
          refine x_goto h 67 dX6_neighbour_60 (by decide) ?_
          exact hret _ _ _ _ _ dX6_neighbour_67 (by refine ⟨⟨rfl, rfl⟩, ?_⟩; unfold nb; split <;> (try split) <;> (try split) <;> first | rfl | omega)
        · -- 50 false
          refine x_iload_n h 3 dX6_neighbour_53 rfl rfl ?_
          refine x_iconst h (nI 1) dX6_neighbour_54 (by decide) ?_
          refine x_iadd_n h dX6_neighbour_55 ?_
          refine x_goto h 67 dX6_neighbour_56 (by decide) ?_
          exact hret _ _ _ _ _ dX6_neighbour_67 (by refine ⟨⟨rfl, rfl⟩, ?_⟩; unfold nb; split <;> (try split) <;> (try split) <;> first | rfl | omega)
    · -- 23 false
      refine x_iload h 0 dX6_neighbour_26 rfl ?_
      refine x_if_le_n h 37 dX6_neighbour_28 (by decide) (by omega) (fun c_28 => ?_) (fun c_28 => ?_)
      · -- 28 true
        refine x_iconst h ((-1)) dX6_neighbour_37 (by decide) ?_
        refine x_goto h 67 dX6_neighbour_38 (by decide) ?_
        exact hret _ _ _ _ _ dX6_neighbour_67 (by refine ⟨⟨rfl, rfl⟩, ?_⟩; unfold nb; split <;> (try split) <;> (try split) <;> first | rfl | omega)
      · -- 28 false
        refine x_iload_n h 3 dX6_neighbour_31 rfl rfl ?_
        refine x_iconst h (nI 1) dX6_neighbour_32 (by decide) ?_
        refine x_isub_n h dX6_neighbour_33 (by omega) ?_
        refine x_goto h 67 dX6_neighbour_34 (by decide) ?_
        exact hret _ _ _ _ _ dX6_neighbour_67 (by refine ⟨⟨rfl, rfl⟩, ?_⟩; unfold nb; split <;> (try split) <;> (try split) <;> first | rfl | omega)

set_option maxRecDepth 20000 in
theorem ggX6_into_X6_in : GoodIn wsX6_into wsX6_in := goodIn_r _ [8] (by decide +kernel) (by decide +kernel)
set_option maxRecDepth 20000 in
theorem gX6_into_X6_in : GoodIn wsX6_into (va_wsS RX6 38 yX6_in wsX6_in) := goodIn_app (goodIn_of _ (by decide +kernel)) ggX6_into_X6_in
set_option maxRecDepth 20000 in
theorem ggX6_into_X6_of : GoodIn wsX6_into wsX6_of := goodIn_r _ [12, 1, 13, 14, 15, 16, 17, 18, 19, 20, 21, 22, 23, 24, 25, 26, 27, 28, 29, 30, 31] (by decide +kernel) (by decide +kernel)
set_option maxRecDepth 20000 in
theorem gX6_into_X6_of : GoodIn wsX6_into (wsV RX6 42 RX6 yX6_of wsX6_of) := goodIn_app (goodIn_of _ (by decide +kernel)) ggX6_into_X6_of
theorem dX6_into_0 : decode cX6_into 0 = .ok (.aload_n 0, 1) := by decide +kernel
theorem dX6_into_1 : decode cX6_into 1 = .ok (.getfield 7, 3) := by decide +kernel
theorem dX6_into_4 : decode cX6_into 4 = .ok (.bipush 7, 2) := by decide +kernel
theorem dX6_into_6 : decode cX6_into 6 = .ok (.iload_n 3, 1) := by decide +kernel
theorem dX6_into_7 : decode cX6_into 7 = .ok (.iadd, 1) := by decide +kernel
theorem dX6_into_8 : decode cX6_into 8 = .ok (.iaload, 1) := by decide +kernel
theorem dX6_into_9 : decode cX6_into 9 = .ok (.istore 4, 2) := by decide +kernel
theorem dX6_into_11 : decode cX6_into 11 = .ok (.iload_n 2, 1) := by decide +kernel
theorem dX6_into_12 : decode cX6_into 12 = .ok (.bipush 81, 2) := by decide +kernel
theorem dX6_into_14 : decode cX6_into 14 = .ok (.irem, 1) := by decide +kernel
theorem dX6_into_15 : decode cX6_into 15 = .ok (.iload_n 3, 1) := by decide +kernel
theorem dX6_into_16 : decode cX6_into 16 = .ok (.bipush 81, 2) := by decide +kernel
theorem dX6_into_18 : decode cX6_into 18 = .ok (.irem, 1) := by decide +kernel
theorem dX6_into_19 : decode cX6_into 19 = .ok (.if_icmp .ne 12, 3) := by decide +kernel
theorem dX6_into_22 : decode cX6_into 22 = .ok (.aload_n 0, 1) := by decide +kernel
theorem dX6_into_23 : decode cX6_into 23 = .ok (.getfield 7, 3) := by decide +kernel
theorem dX6_into_26 : decode cX6_into 26 = .ok (.iconst 0, 1) := by decide +kernel
theorem dX6_into_27 : decode cX6_into 27 = .ok (.iaload, 1) := by decide +kernel
theorem dX6_into_28 : decode cX6_into 28 = .ok (.goto 4, 3) := by decide +kernel
theorem dX6_into_31 : decode cX6_into 31 = .ok (.iconst 1, 1) := by decide +kernel
theorem dX6_into_32 : decode cX6_into 32 = .ok (.istore 5, 2) := by decide +kernel
theorem dX6_into_34 : decode cX6_into 34 = .ok (.aload_n 0, 1) := by decide +kernel
theorem dX6_into_35 : decode cX6_into 35 = .ok (.getfield 28, 3) := by decide +kernel
theorem dX6_into_38 : decode cX6_into 38 = .ok (.iload_n 3, 1) := by decide +kernel
theorem dX6_into_39 : decode cX6_into 39 = .ok (.baload, 1) := by decide +kernel
theorem dX6_into_40 : decode cX6_into 40 = .ok (.ifCond .ne 17, 3) := by decide +kernel
theorem dX6_into_43 : decode cX6_into 43 = .ok (.iload 4, 2) := by decide +kernel
theorem dX6_into_45 : decode cX6_into 45 = .ok (.ifCond .eq 12, 3) := by decide +kernel
theorem dX6_into_48 : decode cX6_into 48 = .ok (.iload 4, 2) := by decide +kernel
theorem dX6_into_50 : decode cX6_into 50 = .ok (.bipush 11, 2) := by decide +kernel
theorem dX6_into_52 : decode cX6_into 52 = .ok (.iload_n 1, 1) := by decide +kernel
theorem dX6_into_53 : decode cX6_into 53 = .ok (.iadd, 1) := by decide +kernel
theorem dX6_into_54 : decode cX6_into 54 = .ok (.if_icmp .ne 6, 3) := by decide +kernel
theorem dX6_into_57 : decode cX6_into 57 = .ok (.iload 5, 2) := by decide +kernel
theorem dX6_into_59 : decode cX6_into 59 = .ok (.ireturn, 1) := by decide +kernel
theorem dX6_into_60 : decode cX6_into 60 = .ok (.aload_n 0, 1) := by decide +kernel
theorem dX6_into_61 : decode cX6_into 61 = .ok (.getfield 92, 3) := by decide +kernel
theorem dX6_into_64 : decode cX6_into 64 = .ok (.ifCond .eq 36, 3) := by decide +kernel
theorem dX6_into_67 : decode cX6_into 67 = .ok (.iload 4, 2) := by decide +kernel
theorem dX6_into_69 : decode cX6_into 69 = .ok (.iconst 1, 1) := by decide +kernel
theorem dX6_into_70 : decode cX6_into 70 = .ok (.bipush 6, 2) := by decide +kernel
theorem dX6_into_72 : decode cX6_into 72 = .ok (.invokestatic 38, 3) := by decide +kernel
theorem dX6_into_75 : decode cX6_into 75 = .ok (.ifCond .eq 25, 3) := by decide +kernel
theorem dX6_into_78 : decode cX6_into 78 = .ok (.iload 5, 2) := by decide +kernel
theorem dX6_into_80 : decode cX6_into 80 = .ok (.aload_n 0, 1) := by decide +kernel
theorem dX6_into_81 : decode cX6_into 81 = .ok (.getfield 7, 3) := by decide +kernel
theorem dX6_into_84 : decode cX6_into 84 = .ok (.iconst 1, 1) := by decide +kernel
theorem dX6_into_85 : decode cX6_into 85 = .ok (.iaload, 1) := by decide +kernel
theorem dX6_into_86 : decode cX6_into 86 = .ok (.iadd, 1) := by decide +kernel
theorem dX6_into_87 : decode cX6_into 87 = .ok (.aload_n 0, 1) := by decide +kernel
theorem dX6_into_88 : decode cX6_into 88 = .ok (.iload 4, 2) := by decide +kernel
theorem dX6_into_90 : decode cX6_into 90 = .ok (.iconst 1, 1) := by decide +kernel
theorem dX6_into_91 : decode cX6_into 91 = .ok (.isub, 1) := by decide +kernel
theorem dX6_into_92 : decode cX6_into 92 = .ok (.iconst 3, 1) := by decide +kernel
theorem dX6_into_93 : decode cX6_into 93 = .ok (.invokevirtual 42, 3) := by decide +kernel
theorem dX6_into_96 : decode cX6_into 96 = .ok (.iadd, 1) := by decide +kernel
theorem dX6_into_97 : decode cX6_into 97 = .ok (.goto 5, 3) := by decide +kernel
theorem dX6_into_100 : decode cX6_into 100 = .ok (.ldc 96, 2) := by decide +kernel
theorem dX6_into_102 : decode cX6_into 102 = .ok (.ireturn, 1) := by decide +kernel
abbrev rmX6_into : Room := { frames := 1, cells := 0, slots := 0, locals := 22 }
set_option maxRecDepth 20000 in
theorem in_X6_into_X6 : ∀ w ∈ wsX60, w ∈ wsX6_into := by decide +kernel

set_option maxRecDepth 100000 in
set_option maxHeartbeats 4000000 in
theorem c_X6_into {l : Launch} {g : Geo} {M : Nat → Nat → Int32} {P : Nat → Nat} {N K B : Nat} (hI : InvX eM (M 159) N K B) {n : Nat} (hn : n < N) {dg : Bool} (hdg : M 158 13 = bI dg) {J : Nat → Bool} (hJ : ∀ a, a < 162 → M 165 a = bI (J a)) {tw : Nat → Option Nat} (hTJ : ∀ a, a < 162 → tw a = if J a = true then some 0 else twX eM (M 159) N n dg a) {c k t : Nat} (hc : c < 162) (hk : k < 3) (ht : nb k c = some t) : Met l yX6_into wsX6_into rmX6_into (cPre g [.ref (g.1 158), .int (nI n), .int (nI c), .int (nI t)] M P) (cQi g (fun r M' P' => (P = P' ∧ M = M') ∧ r = nI (inM (vcX (M 159)) tw k c t))) 0 0 (gA g) := by
  refine met_i (cc := cX6_into) (maxL := 6) (by decide) rfl ⟨rfl, rfl⟩ (Nat.le_of_ble_eq_true rfl) (fun x hx h hret => ?_)
  replace h : Cxk x g cX6_into 6 wsX6_into RX6 rmX6_into := h
  show X x 0 [(0, .ref (g.1 158)), (1, .int (nI n)), (2, .int (nI c)), (3, .int (nI t))] [] M P
  have hN := hI.1.1
  have hN6 := hI.1.2.1
  have hK := hI.1.2.2.1
  have hK12 := hI.1.2.2.2.1
  have hvc := hI.1.vc
  have hprX := hI.1.pr
  have htl := nb_lt hc ht
  refine x_aload_n h 0 dX6_into_0 rfl rfl ?_
  refine xg_X6_0 h in_X6_into_X6 (by decide +kernel) dX6_into_1 ?_
  refine x_bipush h (nI 7) dX6_into_4 (by decide) ?_
  refine x_iload_n h 3 dX6_into_6 rfl rfl ?_
  refine x_iadd_n h dX6_into_7 ?_
  refine xl_159 h dX6_into_8 (by omega) ?_
  refine x_istore h [(4, .int (M 159 (7 + t))), (0, .ref (g.1 158)), (1, .int (nI n)), (2, .int (nI c)), (3, .int (nI t))] dX6_into_9 (by decide) rfl ?_
  refine x_iload_n h 3 dX6_into_11 rfl rfl ?_
  refine x_bipush h (nI 81) dX6_into_12 (by decide) ?_
  refine x_irem_n h dX6_into_14 (by first | omega | (have := (hI.1.net hkk).st.2; omega)) (by decide) (by decide) ?_
  refine x_iload_n h 4 dX6_into_15 rfl rfl ?_
  refine x_bipush h (nI 81) dX6_into_16 (by decide) ?_
  refine x_irem_n h dX6_into_18 (by first | omega | (have := (hI.1.net hkk).st.2; omega)) (by decide) (by decide) ?_
  refine x_icmp_ne_n h 31 dX6_into_19 (by decide) (by first | omega | (have := (hI.1.net hkk).st.2; omega)) (by first | omega | (have := (hI.1.net hkk).st.2; omega)) (fun c_19 => ?_) (fun c_19 => ?_)
  · -- 19 true
    refine x_iconst h (nI 1) dX6_into_31 (by decide) ?_
    refine x_istore h [(5, .int (nI 1)), (4, .int (M 159 (7 + t))), (0, .ref (g.1 158)), (1, .int (nI n)), (2, .int (nI c)), (3, .int (nI t))] dX6_into_32 (by decide) rfl ?_
    refine x_aload_n h 2 dX6_into_34 rfl rfl ?_
    refine xg_X6_9 h in_X6_into_X6 (by decide +kernel) dX6_into_35 ?_
    refine x_iload_n h 5 dX6_into_38 rfl rfl ?_
    refine xl_165 h dX6_into_39 (by omega) ?_
    refine x_top ((bI (J t))) (hJ t htl) ?_
    refine x_if_ne h 57 dX6_into_40 (by decide) (fun c_40 => ?_) (fun c_40 => ?_)
    · -- 40 true
      refine x_iload h 0 dX6_into_57 rfl ?_
      exact hret _ _ _ _ _ dX6_into_59 (by 
                  have h0 : tw t = some 0 := by
                    rw [hTJ t htl]
                    by_cases q : J t = true
                    · exact if_pos q
                    · rw [if_neg q]; exact twE_f htl (by first | exact Or.inl c_45 | exact Or.inr c_54 | exact absurd (bI_1 c_40) q)
                  refine ⟨⟨rfl, rfl⟩, congrArg nI ?_⟩
                  exact ((inM_s h0).trans (congrArg (fun z => z + 0) ((show mv (vcX (M 159)) k c = 1 by first | exact (nb_way hc hk ht).1 c_19 | exact (nb_way hc hk ht).2 c_19)))).symm)
    · -- 40 false
      refine x_iload h 1 dX6_into_43 rfl ?_
      refine x_if_eq h 57 dX6_into_45 (by decide) (fun c_45 => ?_) (fun c_45 => ?_)
      · -- 45 true
        refine x_iload h 0 dX6_into_57 rfl ?_
        exact hret _ _ _ _ _ dX6_into_59 (by 
                      have h0 : tw t = some 0 := by
                        rw [hTJ t htl]
                        by_cases q : J t = true
                        · exact if_pos q
                        · rw [if_neg q]; exact twE_f htl (by first | exact Or.inl c_45 | exact Or.inr c_54 | exact absurd (bI_1 c_40) q)
                      refine ⟨⟨rfl, rfl⟩, congrArg nI ?_⟩
                      exact ((inM_s h0).trans (congrArg (fun z => z + 0) ((show mv (vcX (M 159)) k c = 1 by first | exact (nb_way hc hk ht).1 c_19 | exact (nb_way hc hk ht).2 c_19)))).symm)
      · -- 45 false
        refine x_iload h 1 dX6_into_48 rfl ?_
        refine x_bipush h (nI 11) dX6_into_50 (by decide) ?_
        refine x_iload_n h 3 dX6_into_52 rfl rfl ?_
        refine x_iadd_n h dX6_into_53 ?_
        refine x_icmp_ne h 60 dX6_into_54 (by decide) (fun c_54 => ?_) (fun c_54 => ?_)
        · -- 54 true
          refine x_aload_n h 2 dX6_into_60 rfl rfl ?_
          refine xg_X6_13 h in_X6_into_X6 (by decide +kernel) dX6_into_61 ?_
          refine x_top ((bI dg)) (hdg) ?_
          refine x_if_eq h 100 dX6_into_64 (by decide) (fun c_64 => ?_) (fun c_64 => ?_)
          · -- 64 true
            refine x_ldc h (nI 1000000000) (by decide +kernel) dX6_into_100 ?_
            exact hret _ _ _ _ _ dX6_into_102 (by refine ⟨⟨rfl, rfl⟩, congrArg nI (inM_n ?_).symm⟩; rw [hTJ t htl, if_neg (by rw [bI_0 c_40]; decide)]; exact twE_n (fun q => c_45 q) (fun q => c_54 q) (by first | exact Or.inl (bI_0 c_64) | exact Or.inr (fun k hk q => ni72 ((in_wire hN6 hI.2.1 htl).mpr ⟨k, hk, q⟩))))
          · -- 64 false
            refine x_iload h 1 dX6_into_67 rfl ?_
            refine x_iconst h (nI 1) dX6_into_69 (by decide) ?_
            refine x_bipush h (nI 6) dX6_into_70 (by decide) ?_
            refine x_callS h (As := [.int (M 159 (7 + t)), .int (nI 1), .int (nI 6)]) 3 hx (c_X6_in) gX6_into_X6_in rfl ⟨rfl, rfl⟩ (by decide +kernel) rfl (by decide) (Nat.le_of_ble_eq_true rfl) dX6_into_72 (fun rv M' P' hp => ?_)
            obtain ⟨⟨rfl, rfl⟩, hp⟩ := hp
            rcases hp with ⟨iy72, rfl⟩ | ⟨ni72, rfl⟩
            · -- wire
              obtain ⟨kk, hkk, ekk⟩ := (in_wire hN6 hI.2.1 htl).mp iy72
              have ekk2 : M 159 (7 + t) = nI (1 + kk) := ekk
              refine x_lvr (lv' := [(5, .int (nI 1)), (4, .int (nI (1 + kk))), (0, .ref (g.1 158)), (1, .int (nI n)), (2, .int (nI c)), (3, .int (nI t))]) ?_ (by rw [ekk2])
              refine x_if_eq h 100 dX6_into_75 (by decide) (fun c => absurd c (by decide)) (fun _ => ?_)
              refine x_iload h 0 dX6_into_78 rfl ?_
              refine x_aload_n h 2 dX6_into_80 rfl rfl ?_
              refine xg_X6_0 h in_X6_into_X6 (by decide +kernel) dX6_into_81 ?_
              refine x_iconst h (nI 1) dX6_into_84 (by decide) ?_
              refine xl_159 h dX6_into_85 (by decide) ?_
              refine x_top (nI (prX (M 159))) (hprX.1) ?_
              refine x_iadd_n h dX6_into_86 ?_
              refine x_aload_n h 2 dX6_into_87 rfl rfl ?_
              refine x_iload h 1 dX6_into_88 rfl ?_
              refine x_iconst h (nI 1) dX6_into_90 (by decide) ?_
              refine x_isub_n h dX6_into_91 (by omega) ?_
              refine x_top (nI kk) (by rw [Nat.add_sub_cancel_left]) ?_
              refine x_iconst h (nI 3) dX6_into_92 (by decide) ?_
              refine x_callV h (As := [.int (nI kk), .int (nI 3)]) 2 hx (c_X6_of (by omega) (by decide)) gX6_into_X6_of rfl ⟨rfl, rfl⟩ (by decide +kernel) rfl (by decide) (by decide) E_158 rfl rfl (Nat.le_of_ble_eq_true rfl) dX6_into_93 (fun rv M' P' hp => ?_)
              obtain ⟨⟨rfl, rfl⟩, rfl⟩ := hp
              refine x_top (nI (stX (M 159) kk)) (hI.1.net hkk).st.1 ?_
              refine x_iadd_n h dX6_into_96 ?_
              refine x_goto h 102 dX6_into_97 (by decide) ?_
              exact hret _ _ _ _ _ dX6_into_102 (by refine ⟨⟨rfl, rfl⟩, congrArg nI ?_⟩; rw [inM_s (w := prX (M 159) + stX (M 159) kk) (by rw [hTJ t htl, if_neg (by rw [bI_0 c_40]; decide), bI_1 c_64]; exact twE_w eM_g hN6 hn htl hkk ekk)]; have hwy := (show mv (vcX (M 159)) k c = 1 by first | exact (nb_way hc hk ht).1 c_19 | exact (nb_way hc hk ht).2 c_19); rw [hwy]; omega)
            · -- no wire
              refine x_if_eq h 100 dX6_into_75 (by decide) (fun _ => ?_) (fun c => absurd (by decide) c)
              refine x_ldc h (nI 1000000000) (by decide +kernel) dX6_into_100 ?_
              exact hret _ _ _ _ _ dX6_into_102 (by refine ⟨⟨rfl, rfl⟩, congrArg nI (inM_n ?_).symm⟩; rw [hTJ t htl, if_neg (by rw [bI_0 c_40]; decide)]; exact twE_n (fun q => c_45 q) (fun q => c_54 q) (by first | exact Or.inl (bI_0 c_64) | exact Or.inr (fun k hk q => ni72 ((in_wire hN6 hI.2.1 htl).mpr ⟨k, hk, q⟩))))
        · -- 54 false
          refine x_iload h 0 dX6_into_57 rfl ?_
          exact hret _ _ _ _ _ dX6_into_59 (by 
                          have h0 : tw t = some 0 := by
                            rw [hTJ t htl]
                            by_cases q : J t = true
                            · exact if_pos q
                            · rw [if_neg q]; exact twE_f htl (by first | exact Or.inl c_45 | exact Or.inr c_54 | exact absurd (bI_1 c_40) q)
                          refine ⟨⟨rfl, rfl⟩, congrArg nI ?_⟩
                          exact ((inM_s h0).trans (congrArg (fun z => z + 0) ((show mv (vcX (M 159)) k c = 1 by first | exact (nb_way hc hk ht).1 c_19 | exact (nb_way hc hk ht).2 c_19)))).symm)
  · -- 19 false
    refine x_aload_n h 1 dX6_into_22 rfl rfl ?_
    refine xg_X6_0 h in_X6_into_X6 (by decide +kernel) dX6_into_23 ?_
    refine x_iconst h (nI 0) dX6_into_26 (by decide) ?_
    refine xl_159 h dX6_into_27 (by decide) ?_
    refine x_top (nI (vcX (M 159))) (hvc.1) ?_
    refine x_goto h 32 dX6_into_28 (by decide) ?_
    refine x_istore h [(5, .int (nI (vcX (M 159)))), (4, .int (M 159 (7 + t))), (0, .ref (g.1 158)), (1, .int (nI n)), (2, .int (nI c)), (3, .int (nI t))] dX6_into_32 (by decide) rfl ?_
    refine x_aload_n h 2 dX6_into_34 rfl rfl ?_
    refine xg_X6_9 h in_X6_into_X6 (by decide +kernel) dX6_into_35 ?_
    refine x_iload_n h 5 dX6_into_38 rfl rfl ?_
    refine xl_165 h dX6_into_39 (by omega) ?_
    refine x_top ((bI (J t))) (hJ t htl) ?_
    refine x_if_ne h 57 dX6_into_40 (by decide) (fun c_40 => ?_) (fun c_40 => ?_)
    · -- 40 true
      refine x_iload h 0 dX6_into_57 rfl ?_
      exact hret _ _ _ _ _ dX6_into_59 (by 
                  have h0 : tw t = some 0 := by
                    rw [hTJ t htl]
                    by_cases q : J t = true
                    · exact if_pos q
                    · rw [if_neg q]; exact twE_f htl (by first | exact Or.inl c_45 | exact Or.inr c_54 | exact absurd (bI_1 c_40) q)
                  refine ⟨⟨rfl, rfl⟩, congrArg nI ?_⟩
                  exact ((inM_s h0).trans (congrArg (fun z => z + 0) ((show mv (vcX (M 159)) k c = vcX (M 159) by first | exact (nb_way hc hk ht).1 c_19 | exact (nb_way hc hk ht).2 c_19)))).symm)
    · -- 40 false
      refine x_iload h 1 dX6_into_43 rfl ?_
      refine x_if_eq h 57 dX6_into_45 (by decide) (fun c_45 => ?_) (fun c_45 => ?_)
      · -- 45 true
        refine x_iload h 0 dX6_into_57 rfl ?_
        exact hret _ _ _ _ _ dX6_into_59 (by 
                      have h0 : tw t = some 0 := by
                        rw [hTJ t htl]
                        by_cases q : J t = true
                        · exact if_pos q
                        · rw [if_neg q]; exact twE_f htl (by first | exact Or.inl c_45 | exact Or.inr c_54 | exact absurd (bI_1 c_40) q)
                      refine ⟨⟨rfl, rfl⟩, congrArg nI ?_⟩
                      exact ((inM_s h0).trans (congrArg (fun z => z + 0) ((show mv (vcX (M 159)) k c = vcX (M 159) by first | exact (nb_way hc hk ht).1 c_19 | exact (nb_way hc hk ht).2 c_19)))).symm)
      · -- 45 false
        refine x_iload h 1 dX6_into_48 rfl ?_
        refine x_bipush h (nI 11) dX6_into_50 (by decide) ?_
        refine x_iload_n h 3 dX6_into_52 rfl rfl ?_
        refine x_iadd_n h dX6_into_53 ?_
        refine x_icmp_ne h 60 dX6_into_54 (by decide) (fun c_54 => ?_) (fun c_54 => ?_)
        · -- 54 true
          refine x_aload_n h 2 dX6_into_60 rfl rfl ?_
          refine xg_X6_13 h in_X6_into_X6 (by decide +kernel) dX6_into_61 ?_
          refine x_top ((bI dg)) (hdg) ?_
          refine x_if_eq h 100 dX6_into_64 (by decide) (fun c_64 => ?_) (fun c_64 => ?_)
          · -- 64 true
            refine x_ldc h (nI 1000000000) (by decide +kernel) dX6_into_100 ?_
            exact hret _ _ _ _ _ dX6_into_102 (by refine ⟨⟨rfl, rfl⟩, congrArg nI (inM_n ?_).symm⟩; rw [hTJ t htl, if_neg (by rw [bI_0 c_40]; decide)]; exact twE_n (fun q => c_45 q) (fun q => c_54 q) (by first | exact Or.inl (bI_0 c_64) | exact Or.inr (fun k hk q => ni72 ((in_wire hN6 hI.2.1 htl).mpr ⟨k, hk, q⟩))))
          · -- 64 false
            refine x_iload h 1 dX6_into_67 rfl ?_
            refine x_iconst h (nI 1) dX6_into_69 (by decide) ?_
            refine x_bipush h (nI 6) dX6_into_70 (by decide) ?_
            refine x_callS h (As := [.int (M 159 (7 + t)), .int (nI 1), .int (nI 6)]) 3 hx (c_X6_in) gX6_into_X6_in rfl ⟨rfl, rfl⟩ (by decide +kernel) rfl (by decide) (Nat.le_of_ble_eq_true rfl) dX6_into_72 (fun rv M' P' hp => ?_)
            obtain ⟨⟨rfl, rfl⟩, hp⟩ := hp
            rcases hp with ⟨iy72, rfl⟩ | ⟨ni72, rfl⟩
            · -- wire
              obtain ⟨kk, hkk, ekk⟩ := (in_wire hN6 hI.2.1 htl).mp iy72
              have ekk2 : M 159 (7 + t) = nI (1 + kk) := ekk
              refine x_lvr (lv' := [(5, .int (nI (vcX (M 159)))), (4, .int (nI (1 + kk))), (0, .ref (g.1 158)), (1, .int (nI n)), (2, .int (nI c)), (3, .int (nI t))]) ?_ (by rw [ekk2])
              refine x_if_eq h 100 dX6_into_75 (by decide) (fun c => absurd c (by decide)) (fun _ => ?_)
              refine x_iload h 0 dX6_into_78 rfl ?_
              refine x_aload_n h 2 dX6_into_80 rfl rfl ?_
              refine xg_X6_0 h in_X6_into_X6 (by decide +kernel) dX6_into_81 ?_
              refine x_iconst h (nI 1) dX6_into_84 (by decide) ?_
              refine xl_159 h dX6_into_85 (by decide) ?_
              refine x_top (nI (prX (M 159))) (hprX.1) ?_
              refine x_iadd_n h dX6_into_86 ?_
              refine x_aload_n h 2 dX6_into_87 rfl rfl ?_
              refine x_iload h 1 dX6_into_88 rfl ?_
              refine x_iconst h (nI 1) dX6_into_90 (by decide) ?_
              refine x_isub_n h dX6_into_91 (by omega) ?_
              refine x_top (nI kk) (by rw [Nat.add_sub_cancel_left]) ?_
              refine x_iconst h (nI 3) dX6_into_92 (by decide) ?_
              refine x_callV h (As := [.int (nI kk), .int (nI 3)]) 2 hx (c_X6_of (by omega) (by decide)) gX6_into_X6_of rfl ⟨rfl, rfl⟩ (by decide +kernel) rfl (by decide) (by decide) E_158 rfl rfl (Nat.le_of_ble_eq_true rfl) dX6_into_93 (fun rv M' P' hp => ?_)
              obtain ⟨⟨rfl, rfl⟩, rfl⟩ := hp
              refine x_top (nI (stX (M 159) kk)) (hI.1.net hkk).st.1 ?_
              refine x_iadd_n h dX6_into_96 ?_
              refine x_goto h 102 dX6_into_97 (by decide) ?_
              exact hret _ _ _ _ _ dX6_into_102 (by refine ⟨⟨rfl, rfl⟩, congrArg nI ?_⟩; rw [inM_s (w := prX (M 159) + stX (M 159) kk) (by rw [hTJ t htl, if_neg (by rw [bI_0 c_40]; decide), bI_1 c_64]; exact twE_w eM_g hN6 hn htl hkk ekk)]; have hwy := (show mv (vcX (M 159)) k c = vcX (M 159) by first | exact (nb_way hc hk ht).1 c_19 | exact (nb_way hc hk ht).2 c_19); rw [hwy]; omega)
            · -- no wire
              refine x_if_eq h 100 dX6_into_75 (by decide) (fun _ => ?_) (fun c => absurd (by decide) c)
              refine x_ldc h (nI 1000000000) (by decide +kernel) dX6_into_100 ?_
              exact hret _ _ _ _ _ dX6_into_102 (by refine ⟨⟨rfl, rfl⟩, congrArg nI (inM_n ?_).symm⟩; rw [hTJ t htl, if_neg (by rw [bI_0 c_40]; decide)]; exact twE_n (fun q => c_45 q) (fun q => c_54 q) (by first | exact Or.inl (bI_0 c_64) | exact Or.inr (fun k hk q => ni72 ((in_wire hN6 hI.2.1 htl).mpr ⟨k, hk, q⟩))))
        · -- 54 false
          refine x_iload h 0 dX6_into_57 rfl ?_
          exact hret _ _ _ _ _ dX6_into_59 (by 
                          have h0 : tw t = some 0 := by
                            rw [hTJ t htl]
                            by_cases q : J t = true
                            · exact if_pos q
                            · rw [if_neg q]; exact twE_f htl (by first | exact Or.inl c_45 | exact Or.inr c_54 | exact absurd (bI_1 c_40) q)
                          refine ⟨⟨rfl, rfl⟩, congrArg nI ?_⟩
                          exact ((inM_s h0).trans (congrArg (fun z => z + 0) ((show mv (vcX (M 159)) k c = vcX (M 159) by first | exact (nb_way hc hk ht).1 c_19 | exact (nb_way hc hk ht).2 c_19)))).symm)

set_option maxRecDepth 20000 in
theorem ggX6_measures_X6_neighbour : GoodIn wsX6_measures wsX6_neighbour := goodIn_r _ [7] (by decide +kernel) (by decide +kernel)
set_option maxRecDepth 20000 in
theorem gX6_measures_X6_neighbour : GoodIn wsX6_measures (va_wsS RX6 97 yX6_neighbour wsX6_neighbour) := goodIn_app (goodIn_of _ (by decide +kernel)) ggX6_measures_X6_neighbour
set_option maxRecDepth 20000 in
theorem ggX6_measures_X6_into : GoodIn wsX6_measures wsX6_into := goodIn_r _ [11, 12, 2, 13, 3, 14, 15, 6, 16, 17, 18, 19, 20, 21, 22, 23, 24, 25, 26, 27, 28, 29, 30, 31, 32, 33, 34, 35, 36, 37, 38, 39] (by decide +kernel) (by decide +kernel)
set_option maxRecDepth 20000 in
theorem gX6_measures_X6_into : GoodIn wsX6_measures (wsV RX6 100 RX6 yX6_into wsX6_into) := goodIn_app (goodIn_of _ (by decide +kernel)) ggX6_measures_X6_into
theorem dX6_measures_0 : decode cX6_measures 0 = .ok (.iconst 0, 1) := by decide +kernel
theorem dX6_measures_1 : decode cX6_measures 1 = .ok (.istore_n 2, 1) := by decide +kernel
theorem dX6_measures_2 : decode cX6_measures 2 = .ok (.iload_n 2, 1) := by decide +kernel
theorem dX6_measures_3 : decode cX6_measures 3 = .ok (.sipush 162, 3) := by decide +kernel
theorem dX6_measures_6 : decode cX6_measures 6 = .ok (.if_icmp .ge 30, 3) := by decide +kernel
theorem dX6_measures_9 : decode cX6_measures 9 = .ok (.aload_n 0, 1) := by decide +kernel
theorem dX6_measures_10 : decode cX6_measures 10 = .ok (.getfield 25, 3) := by decide +kernel
theorem dX6_measures_13 : decode cX6_measures 13 = .ok (.iload_n 2, 1) := by decide +kernel
theorem dX6_measures_14 : decode cX6_measures 14 = .ok (.aload_n 0, 1) := by decide +kernel
theorem dX6_measures_15 : decode cX6_measures 15 = .ok (.getfield 28, 3) := by decide +kernel
theorem dX6_measures_18 : decode cX6_measures 18 = .ok (.iload_n 2, 1) := by decide +kernel
theorem dX6_measures_19 : decode cX6_measures 19 = .ok (.baload, 1) := by decide +kernel
theorem dX6_measures_20 : decode cX6_measures 20 = .ok (.ifCond .eq 7, 3) := by decide +kernel
theorem dX6_measures_23 : decode cX6_measures 23 = .ok (.iconst 0, 1) := by decide +kernel
theorem dX6_measures_24 : decode cX6_measures 24 = .ok (.goto 5, 3) := by decide +kernel
theorem dX6_measures_27 : decode cX6_measures 27 = .ok (.ldc 96, 2) := by decide +kernel
theorem dX6_measures_29 : decode cX6_measures 29 = .ok (.iastore, 1) := by decide +kernel
theorem dX6_measures_30 : decode cX6_measures 30 = .ok (.iinc 2 1, 3) := by decide +kernel
theorem dX6_measures_33 : decode cX6_measures 33 = .ok (.goto (-31), 3) := by decide +kernel
theorem dX6_measures_36 : decode cX6_measures 36 = .ok (.iconst 1, 1) := by decide +kernel
theorem dX6_measures_37 : decode cX6_measures 37 = .ok (.istore_n 2, 1) := by decide +kernel
theorem dX6_measures_38 : decode cX6_measures 38 = .ok (.iload_n 2, 1) := by decide +kernel
theorem dX6_measures_39 : decode cX6_measures 39 = .ok (.ifCond .eq 132, 3) := by decide +kernel
theorem dX6_measures_42 : decode cX6_measures 42 = .ok (.iconst 0, 1) := by decide +kernel
theorem dX6_measures_43 : decode cX6_measures 43 = .ok (.istore_n 2, 1) := by decide +kernel
theorem dX6_measures_44 : decode cX6_measures 44 = .ok (.iconst 0, 1) := by decide +kernel
theorem dX6_measures_45 : decode cX6_measures 45 = .ok (.istore_n 3, 1) := by decide +kernel
theorem dX6_measures_46 : decode cX6_measures 46 = .ok (.iload_n 3, 1) := by decide +kernel
theorem dX6_measures_47 : decode cX6_measures 47 = .ok (.sipush 162, 3) := by decide +kernel
theorem dX6_measures_50 : decode cX6_measures 50 = .ok (.if_icmp .ge 118, 3) := by decide +kernel
theorem dX6_measures_53 : decode cX6_measures 53 = .ok (.iconst 0, 1) := by decide +kernel
theorem dX6_measures_54 : decode cX6_measures 54 = .ok (.istore 4, 2) := by decide +kernel
theorem dX6_measures_56 : decode cX6_measures 56 = .ok (.iload 4, 2) := by decide +kernel
theorem dX6_measures_58 : decode cX6_measures 58 = .ok (.iconst 3, 1) := by decide +kernel
theorem dX6_measures_59 : decode cX6_measures 59 = .ok (.if_icmp .ge 103, 3) := by decide +kernel
theorem dX6_measures_62 : decode cX6_measures 62 = .ok (.iload_n 3, 1) := by decide +kernel
theorem dX6_measures_63 : decode cX6_measures 63 = .ok (.iload 4, 2) := by decide +kernel
theorem dX6_measures_65 : decode cX6_measures 65 = .ok (.invokestatic 97, 3) := by decide +kernel
theorem dX6_measures_68 : decode cX6_measures 68 = .ok (.istore 5, 2) := by decide +kernel
theorem dX6_measures_70 : decode cX6_measures 70 = .ok (.iload 5, 2) := by decide +kernel
theorem dX6_measures_72 : decode cX6_measures 72 = .ok (.iconst (-1), 1) := by decide +kernel
theorem dX6_measures_73 : decode cX6_measures 73 = .ok (.if_icmp .eq 24, 3) := by decide +kernel
theorem dX6_measures_76 : decode cX6_measures 76 = .ok (.aload_n 0, 1) := by decide +kernel
theorem dX6_measures_77 : decode cX6_measures 77 = .ok (.getfield 28, 3) := by decide +kernel
theorem dX6_measures_80 : decode cX6_measures 80 = .ok (.iload_n 3, 1) := by decide +kernel
theorem dX6_measures_81 : decode cX6_measures 81 = .ok (.baload, 1) := by decide +kernel
theorem dX6_measures_82 : decode cX6_measures 82 = .ok (.ifCond .ne 15, 3) := by decide +kernel
theorem dX6_measures_85 : decode cX6_measures 85 = .ok (.aload_n 0, 1) := by decide +kernel
theorem dX6_measures_86 : decode cX6_measures 86 = .ok (.getfield 25, 3) := by decide +kernel
theorem dX6_measures_89 : decode cX6_measures 89 = .ok (.iload 5, 2) := by decide +kernel
theorem dX6_measures_91 : decode cX6_measures 91 = .ok (.iaload, 1) := by decide +kernel
theorem dX6_measures_92 : decode cX6_measures 92 = .ok (.ldc 96, 2) := by decide +kernel
theorem dX6_measures_94 : decode cX6_measures 94 = .ok (.if_icmp .ne 8, 3) := by decide +kernel
theorem dX6_measures_97 : decode cX6_measures 97 = .ok (.ldc 96, 2) := by decide +kernel
theorem dX6_measures_99 : decode cX6_measures 99 = .ok (.goto 11, 3) := by decide +kernel
theorem dX6_measures_102 : decode cX6_measures 102 = .ok (.aload_n 0, 1) := by decide +kernel
theorem dX6_measures_103 : decode cX6_measures 103 = .ok (.iload_n 1, 1) := by decide +kernel
theorem dX6_measures_104 : decode cX6_measures 104 = .ok (.iload_n 3, 1) := by decide +kernel
theorem dX6_measures_105 : decode cX6_measures 105 = .ok (.iload 5, 2) := by decide +kernel
theorem dX6_measures_107 : decode cX6_measures 107 = .ok (.invokevirtual 100, 3) := by decide +kernel
theorem dX6_measures_110 : decode cX6_measures 110 = .ok (.istore 6, 2) := by decide +kernel
theorem dX6_measures_112 : decode cX6_measures 112 = .ok (.iload 6, 2) := by decide +kernel
theorem dX6_measures_114 : decode cX6_measures 114 = .ok (.ldc 96, 2) := by decide +kernel
theorem dX6_measures_116 : decode cX6_measures 116 = .ok (.if_icmp .ge 40, 3) := by decide +kernel
theorem dX6_measures_119 : decode cX6_measures 119 = .ok (.iload 6, 2) := by decide +kernel
theorem dX6_measures_121 : decode cX6_measures 121 = .ok (.aload_n 0, 1) := by decide +kernel
theorem dX6_measures_122 : decode cX6_measures 122 = .ok (.getfield 25, 3) := by decide +kernel
theorem dX6_measures_125 : decode cX6_measures 125 = .ok (.iload 5, 2) := by decide +kernel
theorem dX6_measures_127 : decode cX6_measures 127 = .ok (.iaload, 1) := by decide +kernel
theorem dX6_measures_128 : decode cX6_measures 128 = .ok (.iadd, 1) := by decide +kernel
theorem dX6_measures_129 : decode cX6_measures 129 = .ok (.aload_n 0, 1) := by decide +kernel
theorem dX6_measures_130 : decode cX6_measures 130 = .ok (.getfield 25, 3) := by decide +kernel
theorem dX6_measures_133 : decode cX6_measures 133 = .ok (.iload_n 3, 1) := by decide +kernel
theorem dX6_measures_134 : decode cX6_measures 134 = .ok (.iaload, 1) := by decide +kernel
theorem dX6_measures_135 : decode cX6_measures 135 = .ok (.if_icmp .ge 21, 3) := by decide +kernel
theorem dX6_measures_138 : decode cX6_measures 138 = .ok (.aload_n 0, 1) := by decide +kernel
theorem dX6_measures_139 : decode cX6_measures 139 = .ok (.getfield 25, 3) := by decide +kernel
theorem dX6_measures_142 : decode cX6_measures 142 = .ok (.iload_n 3, 1) := by decide +kernel
theorem dX6_measures_143 : decode cX6_measures 143 = .ok (.iload 6, 2) := by decide +kernel
theorem dX6_measures_145 : decode cX6_measures 145 = .ok (.aload_n 0, 1) := by decide +kernel
theorem dX6_measures_146 : decode cX6_measures 146 = .ok (.getfield 25, 3) := by decide +kernel
theorem dX6_measures_149 : decode cX6_measures 149 = .ok (.iload 5, 2) := by decide +kernel
theorem dX6_measures_151 : decode cX6_measures 151 = .ok (.iaload, 1) := by decide +kernel
theorem dX6_measures_152 : decode cX6_measures 152 = .ok (.iadd, 1) := by decide +kernel
theorem dX6_measures_153 : decode cX6_measures 153 = .ok (.iastore, 1) := by decide +kernel
theorem dX6_measures_154 : decode cX6_measures 154 = .ok (.iconst 1, 1) := by decide +kernel
theorem dX6_measures_155 : decode cX6_measures 155 = .ok (.istore_n 2, 1) := by decide +kernel
theorem dX6_measures_156 : decode cX6_measures 156 = .ok (.iinc 4 1, 3) := by decide +kernel
theorem dX6_measures_159 : decode cX6_measures 159 = .ok (.goto (-103), 3) := by decide +kernel
theorem dX6_measures_162 : decode cX6_measures 162 = .ok (.iinc 3 1, 3) := by decide +kernel
theorem dX6_measures_165 : decode cX6_measures 165 = .ok (.goto (-119), 3) := by decide +kernel
theorem dX6_measures_168 : decode cX6_measures 168 = .ok (.goto (-130), 3) := by decide +kernel
theorem dX6_measures_171 : decode cX6_measures 171 = .ok (.return_, 1) := by decide +kernel
abbrev rmX6_measures : Room := { frames := 2, cells := 0, slots := 0, locals := 47 }
set_option maxRecDepth 20000 in
theorem in_X6_measures_X6 : ∀ w ∈ wsX60, w ∈ wsX6_measures := by decide +kernel

set_option maxRecDepth 100000 in
set_option maxHeartbeats 16000000 in
theorem c_X6_measures {l : Launch} {g : Geo} {M : Nat → Nat → Int32} {P : Nat → Nat} {N K B : Nat} (hI : InvX eM (M 159) N K B) {n : Nat} (hn : n < N) {dg : Bool} (hdg : M 158 13 = bI dg) {J : Nat → Bool} (hJ : ∀ a, a < 162 → M 165 a = bI (J a)) {tw : Nat → Option Nat} (hTJ : ∀ a, a < 162 → tw a = if J a = true then some 0 else twX eM (M 159) N n dg a) (hTN : ∀ a, 162 ≤ a → tw a = none) : Met l yX6_measures wsX6_measures rmX6_measures (cPre g [.ref (g.1 158), .int (nI n)] M P) (cQv g (fun M' P' => P = P' ∧ FrD M M' ∧ ∃ d, Sol 1000000000 (vcX (M 159)) tw (fun c => J c = true) d ∧ ∀ a, a < 162 → M' 164 a = nI (d a))) 0 0 (gA g) := by
  refine met_v (cc := cX6_measures) (maxL := 7) (by decide) rfl ⟨rfl, rfl⟩ (Nat.le_of_ble_eq_true rfl) (fun x hx h hret => ?_)
  replace h : Cxk x g cX6_measures 7 wsX6_measures RX6 rmX6_measures := h
  show X x 0 [(0, .ref (g.1 158)), (1, .int (nI n))] [] M P
  have hN := hI.1.1
  have hN6 := hI.1.2.1
  have hK := hI.1.2.2.1
  have hK12 := hI.1.2.2.2.1
  have hvc := hI.1.vc
  have hprX := hI.1.pr
  have htw : ∀ a w, tw a = some w → w ≤ 59 := fun a w e => by
      by_cases ha : a < 162
      · rw [hTJ a ha] at e
        by_cases q : J a = true
        · rw [if_pos q] at e; cases e; omega
        · rw [if_neg q] at e; exact twG_le hI.1 a w e
      · rw [hTN a (by omega)] at e; cases e
  refine x_iconst h (nI 0) dX6_measures_0 (by decide) ?_
  refine x_istore_n h [(2, .int (nI 0)), (0, .ref (g.1 158)), (1, .int (nI n))] dX6_measures_1 rfl (by decide) rfl ?_
  have L2 : ∀ (fu : Nat) (i : Nat) (W : Nat → Nat → Int32), (162 - i) < fu → (i ≤ 162) → (FrD M W) → (∀ a, a < i → W 164 a = nI ((fun a => if J a = true then 0 else 1000000000) a)) → X x 2 [(0, .ref (g.1 158)), (1, .int (nI n)), (2, .int (nI i))] [] W P := by
    intro fu
    induction fu with
    | zero => intro i W hmu2; exact absurd hmu2 (Nat.not_lt_zero _)
    | succ fu ih2 =>
      intro i W hmu2 hi hF hW
      refine x_iload_n h 2 dX6_measures_2 rfl rfl ?_
      refine x_sipush h (nI 162) dX6_measures_3 (by decide) ?_
      refine x_icmp_ge_n h 36 dX6_measures_6 (by decide) (by first | omega | (have := hJD3.1 t htl; omega) | (have := hJD3.1 t htl; have := hJD3.1 c (by omega); omega)) (by decide) (fun c_6 => ?_) (fun c_6 => ?_)
      · -- 6 true
        refine x_iconst h (nI 1) dX6_measures_36 (by decide) ?_
        refine x_istore_n h [(2, .int (nI 1)), (0, .ref (g.1 158)), (1, .int (nI n))] dX6_measures_37 rfl (by decide) rfl ?_
        have L38 : ∀ (fu : Nat) (b : Bool) (D1 : Nat → Nat) (W1 : Nat → Nat → Int32), (sumN D1 162 + (if b = true then 1 else 0)) < fu → (FrD M W1) → (∀ a, a < 162 → W1 164 a = nI (D1 a)) → (J4 (vcX (M 159)) tw J D1) → (b = false → ∀ c, c < 162 → ∀ k, k < 3 → Eg (vcX (M 159)) tw J D1 c k) → X x 38 [(0, .ref (g.1 158)), (1, .int (nI n)), (2, .int (bI b))] [] W1 P := by
          intro fu
          induction fu with
          | zero => intro b D1 W1 hmu38; exact absurd hmu38 (Nat.not_lt_zero _)
          | succ fu ih38 =>
            intro b D1 W1 hmu38 hFD1 hDD1 hJD1 hE1
            refine x_iload_n h 2 dX6_measures_38 rfl rfl ?_
            refine x_if_eq h 171 dX6_measures_39 (by decide) (fun c_39 => ?_) (fun c_39 => ?_)
            · -- 39 true
              exact hret _ _ _ _ dX6_measures_171 (by exact ⟨rfl, hFD1, D1, J4_sol hJD1 (hE1 (bI_0 c_39)), hDD1⟩)
            · -- 39 false
              refine x_iconst h (nI 0) dX6_measures_42 (by decide) ?_
              refine x_istore_n h [(2, .int (nI 0)), (0, .ref (g.1 158)), (1, .int (nI n))] dX6_measures_43 rfl (by decide) rfl ?_
              refine x_iconst h (nI 0) dX6_measures_44 (by decide) ?_
              refine x_istore_n h [(3, .int (nI 0)), (2, .int (nI 0)), (0, .ref (g.1 158)), (1, .int (nI n))] dX6_measures_45 rfl (by decide) rfl ?_
              have L46 : ∀ (fu : Nat) (c : Nat) (b2 : Bool) (D2 : Nat → Nat) (W2 : Nat → Nat → Int32), (162 - c) < fu → (c ≤ 162) → (FrD M W2) → (∀ a, a < 162 → W2 164 a = nI (D2 a)) → (J4 (vcX (M 159)) tw J D2) → (sumN D2 162 + (if b2 = true then 1 else 0) ≤ sumN D1 162) → (b2 = false → ∀ q, q < c → ∀ k, k < 3 → Eg (vcX (M 159)) tw J D2 q k) → X x 46 [(0, .ref (g.1 158)), (1, .int (nI n)), (2, .int (bI b2)), (3, .int (nI c))] [] W2 P := by
                intro fu
                induction fu with
                | zero => intro c b2 D2 W2 hmu46; exact absurd hmu46 (Nat.not_lt_zero _)
                | succ fu ih46 =>
                  intro c b2 D2 W2 hmu46 hc hFD2 hDD2 hJD2 hs2 hE2
                  refine x_iload_n h 3 dX6_measures_46 rfl rfl ?_
                  refine x_sipush h (nI 162) dX6_measures_47 (by decide) ?_
                  refine x_icmp_ge_n h 168 dX6_measures_50 (by decide) (by first | omega | (have := hJD3.1 t htl; omega) | (have := hJD3.1 t htl; have := hJD3.1 c (by omega); omega)) (by decide) (fun c_50 => ?_) (fun c_50 => ?_)
                  · -- 50 true
                    refine x_goto h 38 dX6_measures_168 (by decide) ?_
                    exact x_lv (ih38 b2 D2 W2 (by have hb1 := bI_1 c_39; rw [if_pos hb1] at hmu38; have := hs2; omega) (by exact hFD2) (by exact hDD2) (by exact hJD2) (by exact fun e c hc k hk => hE2 e c (by omega) k hk)) [0, 1, 2] rfl
                  · -- 50 false
                    refine x_iconst h (nI 0) dX6_measures_53 (by decide) ?_
                    refine x_istore h [(4, .int (nI 0)), (0, .ref (g.1 158)), (1, .int (nI n)), (2, .int (bI b2)), (3, .int (nI c))] dX6_measures_54 (by decide) rfl ?_
                    have L56 : ∀ (fu : Nat) (k : Nat) (b3 : Bool) (D3 : Nat → Nat) (W3 : Nat → Nat → Int32), (3 - k) < fu → (k ≤ 3) → (FrD M W3) → (∀ a, a < 162 → W3 164 a = nI (D3 a)) → (J4 (vcX (M 159)) tw J D3) → (sumN D3 162 + (if b3 = true then 1 else 0) ≤ sumN D1 162) → (b3 = false → (∀ q, q < c → ∀ k, k < 3 → Eg (vcX (M 159)) tw J D3 q k) ∧ ∀ q, q < k → Eg (vcX (M 159)) tw J D3 c q) → X x 56 [(0, .ref (g.1 158)), (1, .int (nI n)), (2, .int (bI b3)), (3, .int (nI c)), (4, .int (nI k))] [] W3 P := by
                      intro fu
                      induction fu with
                      | zero => intro k b3 D3 W3 hmu56; exact absurd hmu56 (Nat.not_lt_zero _)
                      | succ fu ih56 =>
                        intro k b3 D3 W3 hmu56 hk hFD3 hDD3 hJD3 hs3 hE3
                        refine x_iload h 4 dX6_measures_56 rfl ?_
                        refine x_iconst h (nI 3) dX6_measures_58 (by decide) ?_
                        refine x_icmp_ge_n h 162 dX6_measures_59 (by decide) (by first | omega | (have := hJD3.1 t htl; omega) | (have := hJD3.1 t htl; have := hJD3.1 c (by omega); omega)) (by decide) (fun c_59 => ?_) (fun c_59 => ?_)
                        · -- 59 true
                          refine x_iinc_n h 3 (n := 1) [(3, .int (nI (c + 1))), (0, .ref (g.1 158)), (1, .int (nI n)), (2, .int (bI b3)), (4, .int (nI k))] dX6_measures_162 rfl (by decide) rfl ?_
                          refine x_goto h 46 dX6_measures_165 (by decide) ?_
                          exact x_lv (ih46 (c + 1) b3 D3 W3 (by omega) (by omega) (by exact hFD3) (by exact hDD3) (by exact hJD3) (by exact hs3) (by intro e q hq k hk; rcases Nat.lt_succ_iff_lt_or_eq.mp hq with h | h; exact (hE3 e).1 q h k hk; rw [h]; exact (hE3 e).2 k (by omega))) [1, 2, 3, 0] rfl
                        · -- 59 false
                          refine x_iload_n h 3 dX6_measures_62 rfl rfl ?_
                          refine x_iload h 4 dX6_measures_63 rfl ?_
                          refine x_callS h (As := [.int (nI c), .int (nI k)]) 2 hx (c_X6_neighbour (by omega) (by omega)) gX6_measures_X6_neighbour rfl ⟨rfl, rfl⟩ (by decide +kernel) rfl (by decide) (Nat.le_of_ble_eq_true rfl) dX6_measures_65 (fun rv M' P' hp => ?_)
                          obtain ⟨⟨rfl, rfl⟩, rfl⟩ := hp
                          refine x_istore h [(5, .int (ngh (nb k c))), (0, .ref (g.1 158)), (1, .int (nI n)), (2, .int (bI b3)), (3, .int (nI c)), (4, .int (nI k))] dX6_measures_68 (by decide) rfl ?_
                          refine x_iload h 0 dX6_measures_70 rfl ?_
                          refine x_iconst h ((-1)) dX6_measures_72 (by decide) ?_
                          refine x_icmp_eq h 97 dX6_measures_73 (by decide) (fun c_73 => ?_) (fun c_73 => ?_)
                          · -- 73 true
                            have hEg : Eg (vcX (M 159)) tw J D3 c k := fun _ t2 w2 e1 _ => by rw [ngh_m1 c_73 (fun z e => by have := nb_lt (by omega) e; omega)] at e1; cases e1
                            refine x_ldc h (nI 1000000000) (by decide +kernel) dX6_measures_97 ?_
                            refine x_goto h 110 dX6_measures_99 (by decide) ?_
                            refine x_istore h [(6, .int (nI 1000000000)), (5, .int (ngh (nb k c))), (0, .ref (g.1 158)), (1, .int (nI n)), (2, .int (bI b3)), (3, .int (nI c)), (4, .int (nI k))] dX6_measures_110 (by decide) rfl ?_
                            refine x_iload h 0 dX6_measures_112 rfl ?_
                            refine x_ldc h (nI 1000000000) (by decide +kernel) dX6_measures_114 ?_
                            refine x_icmp_ge h 156 dX6_measures_116 (by decide) (fun _ => ?_) (fun c => absurd (by decide) c)
                            refine x_iinc_n h 6 (n := 1) [(4, .int (nI (k + 1))), (6, .int (nI 1000000000)), (5, .int (ngh (nb k c))), (0, .ref (g.1 158)), (1, .int (nI n)), (2, .int (bI b3)), (3, .int (nI c))] dX6_measures_156 rfl (by decide) rfl ?_
                            refine x_goto h 56 dX6_measures_159 (by decide) ?_
                            exact x_lv (ih56 (k + 1) b3 D3 W3 (by omega) (by omega) (by first | exact hFD3 | exact fun q hq => (st2_n _ _ _ hq).trans (hFD3 q hq)) (by first | exact hDD3 | exact far_u hDD3) (by first | exact hJD3 | exact J4_u hJD3 (by omega) (by omega) (bI_0 c_82) hnb hw c_135) (by first | exact hs3 | (have := sum_u (D := D3) (c := c) (v := mv (vcX (M 159)) k c + w + D3 t) (by omega) c_135; rw [if_pos rfl]; omega)) (by first | exact fun e => absurd e (by decide) | exact fun e => ⟨(hE3 e).1, fun q hq => by rcases Nat.lt_succ_iff_lt_or_eq.mp hq with h | h; exact (hE3 e).2 q h; rw [h]; exact hEg⟩)) [3, 4, 5, 6, 0] rfl
                          · -- 73 false
                            obtain ⟨t, hnb⟩ := ngh_nm1 c_73
                            have htl := nb_lt (by omega) hnb
                            rw [hnb]
                            refine x_lv (lv' := [(5, .int (nI t)), (0, .ref (g.1 158)), (1, .int (nI n)), (2, .int (bI b3)), (3, .int (nI c)), (4, .int (nI k))]) ?_ [0, 1, 2, 3, 4, 5] rfl
                            refine x_aload_n h 1 dX6_measures_76 rfl rfl ?_
                            refine xg_X6_9 h in_X6_measures_X6 (by decide +kernel) dX6_measures_77 ?_
                            refine x_iload_n h 4 dX6_measures_80 rfl rfl ?_
                            refine xl_165 h dX6_measures_81 (by omega) ?_
                            refine x_top ((bI (J c))) (by rw [hFD3 165 (by decide)]; exact hJ c (by omega)) ?_
                            refine x_if_ne h 97 dX6_measures_82 (by decide) (fun c_82 => ?_) (fun c_82 => ?_)
                            · -- 82 true
                              have hEg : Eg (vcX (M 159)) tw J D3 c k := fun e => absurd (bI_1 c_82) (by rw [e]; decide)
                              refine x_ldc h (nI 1000000000) (by decide +kernel) dX6_measures_97 ?_
                              refine x_goto h 110 dX6_measures_99 (by decide) ?_
                              refine x_istore h [(6, .int (nI 1000000000)), (5, .int (nI t)), (0, .ref (g.1 158)), (1, .int (nI n)), (2, .int (bI b3)), (3, .int (nI c)), (4, .int (nI k))] dX6_measures_110 (by decide) rfl ?_
                              refine x_iload h 0 dX6_measures_112 rfl ?_
                              refine x_ldc h (nI 1000000000) (by decide +kernel) dX6_measures_114 ?_
                              refine x_icmp_ge h 156 dX6_measures_116 (by decide) (fun _ => ?_) (fun c => absurd (by decide) c)
                              refine x_iinc_n h 6 (n := 1) [(4, .int (nI (k + 1))), (6, .int (nI 1000000000)), (5, .int (nI t)), (0, .ref (g.1 158)), (1, .int (nI n)), (2, .int (bI b3)), (3, .int (nI c))] dX6_measures_156 rfl (by decide) rfl ?_
                              refine x_goto h 56 dX6_measures_159 (by decide) ?_
                              exact x_lv (ih56 (k + 1) b3 D3 W3 (by omega) (by omega) (by first | exact hFD3 | exact fun q hq => (st2_n _ _ _ hq).trans (hFD3 q hq)) (by first | exact hDD3 | exact far_u hDD3) (by first | exact hJD3 | exact J4_u hJD3 (by omega) (by omega) (bI_0 c_82) hnb hw c_135) (by first | exact hs3 | (have := sum_u (D := D3) (c := c) (v := mv (vcX (M 159)) k c + w + D3 t) (by omega) c_135; rw [if_pos rfl]; omega)) (by first | exact fun e => absurd e (by decide) | exact fun e => ⟨(hE3 e).1, fun q hq => by rcases Nat.lt_succ_iff_lt_or_eq.mp hq with h | h; exact (hE3 e).2 q h; rw [h]; exact hEg⟩)) [3, 4, 5, 6, 0] rfl
                            · -- 82 false
                              refine x_aload_n h 1 dX6_measures_85 rfl rfl ?_
                              refine xg_X6_8 h in_X6_measures_X6 (by decide +kernel) dX6_measures_86 ?_
                              refine x_iload h 0 dX6_measures_89 rfl ?_
                              refine xl_164 h dX6_measures_91 (by omega) ?_
                              refine x_top (nI (D3 t)) (hDD3 t htl) ?_
                              refine x_ldc h (nI 1000000000) (by decide +kernel) dX6_measures_92 ?_
                              refine x_icmp_ne_n h 102 dX6_measures_94 (by decide) (by first | omega | (have := hJD3.1 t htl; omega) | (have := hJD3.1 t htl; have := hJD3.1 c (by omega); omega)) (by decide) (fun c_94 => ?_) (fun c_94 => ?_)
                              · -- 94 true
                                refine x_aload_n h 1 dX6_measures_102 rfl rfl ?_
                                refine x_iload_n h 2 dX6_measures_103 rfl rfl ?_
                                refine x_iload_n h 4 dX6_measures_104 rfl rfl ?_
                                refine x_iload h 0 dX6_measures_105 rfl ?_
                                refine x_callV h (As := [.int (nI n), .int (nI c), .int (nI t)]) 3 hx (c_X6_into (N := N) (K := K) (B := B) (by rw [hFD3 159 (by decide)]; exact hI) hn (by rw [hFD3 158 (by decide)]; exact hdg) (J := J) (fun a ha => by rw [hFD3 165 (by decide)]; exact hJ a ha) (tw := tw) (fun a ha => by rw [hFD3 159 (by decide)]; exact hTJ a ha) (c := c) (k := k) (t := t) (by omega) (by omega) hnb) gX6_measures_X6_into rfl ⟨rfl, rfl⟩ (by decide +kernel) rfl (by decide) (by decide) E_158 rfl rfl (Nat.le_of_ble_eq_true rfl) dX6_measures_107 (fun rv M' P' hp => ?_)
                                rw [hFD3 159 (by decide)] at hp
                                obtain ⟨⟨rfl, rfl⟩, rfl⟩ := hp
                                cases hw : tw t with
                                | none =>
                                  refine x_top (nI 1000000000) (congrArg nI (inM_n hw)) ?_
                                  have hEg : Eg (vcX (M 159)) tw J D3 c k := fun _ t2 w2 e1 e2 => by rw [hnb] at e1; cases e1; rw [hw] at e2; cases e2
                                  refine x_istore h [(6, .int (nI 1000000000)), (5, .int (nI t)), (0, .ref (g.1 158)), (1, .int (nI n)), (2, .int (bI b3)), (3, .int (nI c)), (4, .int (nI k))] dX6_measures_110 (by decide) rfl ?_
                                  refine x_iload h 0 dX6_measures_112 rfl ?_
                                  refine x_ldc h (nI 1000000000) (by decide +kernel) dX6_measures_114 ?_
                                  refine x_icmp_ge h 156 dX6_measures_116 (by decide) (fun _ => ?_) (fun c => absurd (by decide) c)
                                  refine x_iinc_n h 6 (n := 1) [(4, .int (nI (k + 1))), (6, .int (nI 1000000000)), (5, .int (nI t)), (0, .ref (g.1 158)), (1, .int (nI n)), (2, .int (bI b3)), (3, .int (nI c))] dX6_measures_156 rfl (by decide) rfl ?_
                                  refine x_goto h 56 dX6_measures_159 (by decide) ?_
                                  exact x_lv (ih56 (k + 1) b3 D3 W3 (by omega) (by omega) (by first | exact hFD3 | exact fun q hq => (st2_n _ _ _ hq).trans (hFD3 q hq)) (by first | exact hDD3 | exact far_u hDD3) (by first | exact hJD3 | exact J4_u hJD3 (by omega) (by omega) (bI_0 c_82) hnb hw c_135) (by first | exact hs3 | (have := sum_u (D := D3) (c := c) (v := mv (vcX (M 159)) k c + w + D3 t) (by omega) c_135; rw [if_pos rfl]; omega)) (by first | exact fun e => absurd e (by decide) | exact fun e => ⟨(hE3 e).1, fun q hq => by rcases Nat.lt_succ_iff_lt_or_eq.mp hq with h | h; exact (hE3 e).2 q h; rw [h]; exact hEg⟩)) [3, 4, 5, 6, 0] rfl
                                | some w =>
                                  have hw59 : w ≤ 59 := htw t w hw
                                  have hmv20 := mv_le (k := k) (c := c) hvc.2.2
                                  refine x_top (nI (mv (vcX (M 159)) k c + w)) (congrArg nI (inM_s hw)) ?_
                                  refine x_istore h [(6, .int (nI (mv (vcX (M 159)) k c + w))), (5, .int (nI t)), (0, .ref (g.1 158)), (1, .int (nI n)), (2, .int (bI b3)), (3, .int (nI c)), (4, .int (nI k))] dX6_measures_110 (by decide) rfl ?_
                                  refine x_iload h 0 dX6_measures_112 rfl ?_
                                  refine x_ldc h (nI 1000000000) (by decide +kernel) dX6_measures_114 ?_
                                  refine x_icmp_ge_n h 156 dX6_measures_116 (by decide) (by first | omega | (have := hJD3.1 t htl; omega) | (have := hJD3.1 t htl; have := hJD3.1 c (by omega); omega)) (by decide) (fun c_116 => by omega) (fun c_116 => ?_)
                                  refine x_iload h 0 dX6_measures_119 rfl ?_
                                  refine x_aload_n h 2 dX6_measures_121 rfl rfl ?_
                                  refine xg_X6_8 h in_X6_measures_X6 (by decide +kernel) dX6_measures_122 ?_
                                  refine x_iload h 1 dX6_measures_125 rfl ?_
                                  refine xl_164 h dX6_measures_127 (by omega) ?_
                                  refine x_top (nI (D3 t)) (hDD3 t htl) ?_
                                  refine x_iadd_n h dX6_measures_128 ?_
                                  refine x_aload_n h 2 dX6_measures_129 rfl rfl ?_
                                  refine xg_X6_8 h in_X6_measures_X6 (by decide +kernel) dX6_measures_130 ?_
                                  refine x_iload_n h 5 dX6_measures_133 rfl rfl ?_
                                  refine xl_164 h dX6_measures_134 (by omega) ?_
                                  refine x_top (nI (D3 c)) (hDD3 c (by omega)) ?_
                                  refine x_icmp_ge_n h 156 dX6_measures_135 (by decide) (by first | omega | (have := hJD3.1 t htl; omega) | (have := hJD3.1 t htl; have := hJD3.1 c (by omega); omega)) (by first | omega | (have := hJD3.1 t htl; omega) | (have := hJD3.1 t htl; have := hJD3.1 c (by omega); omega)) (fun c_135 => ?_) (fun c_135 => ?_)
                                  · -- 135 true
                                    have hEg : Eg (vcX (M 159)) tw J D3 c k := fun _ t2 w2 e1 e2 => by rw [hnb] at e1; cases e1; rw [hw] at e2; cases e2; omega
                                    refine x_iinc_n h 6 (n := 1) [(4, .int (nI (k + 1))), (6, .int (nI (mv (vcX (M 159)) k c + w))), (5, .int (nI t)), (0, .ref (g.1 158)), (1, .int (nI n)), (2, .int (bI b3)), (3, .int (nI c))] dX6_measures_156 rfl (by decide) rfl ?_
                                    refine x_goto h 56 dX6_measures_159 (by decide) ?_
                                    exact x_lv (ih56 (k + 1) b3 D3 W3 (by omega) (by omega) (by first | exact hFD3 | exact fun q hq => (st2_n _ _ _ hq).trans (hFD3 q hq)) (by first | exact hDD3 | exact far_u hDD3) (by first | exact hJD3 | exact J4_u hJD3 (by omega) (by omega) (bI_0 c_82) hnb hw c_135) (by first | exact hs3 | (have := sum_u (D := D3) (c := c) (v := mv (vcX (M 159)) k c + w + D3 t) (by omega) c_135; rw [if_pos rfl]; omega)) (by first | exact fun e => absurd e (by decide) | exact fun e => ⟨(hE3 e).1, fun q hq => by rcases Nat.lt_succ_iff_lt_or_eq.mp hq with h | h; exact (hE3 e).2 q h; rw [h]; exact hEg⟩)) [3, 4, 5, 6, 0] rfl
                                  · -- 135 false
                                    refine x_aload_n h 2 dX6_measures_138 rfl rfl ?_
                                    refine xg_X6_8 h in_X6_measures_X6 (by decide +kernel) dX6_measures_139 ?_
                                    refine x_iload_n h 5 dX6_measures_142 rfl rfl ?_
                                    refine x_iload h 0 dX6_measures_143 rfl ?_
                                    refine x_aload_n h 2 dX6_measures_145 rfl rfl ?_
                                    refine xg_X6_8 h in_X6_measures_X6 (by decide +kernel) dX6_measures_146 ?_
                                    refine x_iload h 1 dX6_measures_149 rfl ?_
                                    refine xl_164 h dX6_measures_151 (by omega) ?_
                                    refine x_top (nI (D3 t)) (hDD3 t htl) ?_
                                    refine x_iadd_n h dX6_measures_152 ?_
                                    refine xs_164 h dX6_measures_153 (by omega) ?_
                                    refine x_iconst h (nI 1) dX6_measures_154 (by decide) ?_
                                    refine x_istore_n h [(2, .int (nI 1)), (6, .int (nI (mv (vcX (M 159)) k c + w))), (5, .int (nI t)), (0, .ref (g.1 158)), (1, .int (nI n)), (3, .int (nI c)), (4, .int (nI k))] dX6_measures_155 rfl (by decide) rfl ?_
                                    refine x_iinc_n h 6 (n := 1) [(4, .int (nI (k + 1))), (2, .int (nI 1)), (6, .int (nI (mv (vcX (M 159)) k c + w))), (5, .int (nI t)), (0, .ref (g.1 158)), (1, .int (nI n)), (3, .int (nI c))] dX6_measures_156 rfl (by decide) rfl ?_
                                    refine x_goto h 56 dX6_measures_159 (by decide) ?_
                                    exact x_lv (ih56 (k + 1) true (updN D3 c (mv (vcX (M 159)) k c + w + D3 t)) (st2 W3 164 c (nI ((mv (vcX (M 159)) k c + w) + (D3 t)))) (by omega) (by omega) (by first | exact hFD3 | exact fun q hq => (st2_n _ _ _ hq).trans (hFD3 q hq)) (by first | exact hDD3 | exact far_u hDD3) (by first | exact hJD3 | exact J4_u hJD3 (by omega) (by omega) (bI_0 c_82) hnb hw c_135) (by first | exact hs3 | (have := sum_u (D := D3) (c := c) (v := mv (vcX (M 159)) k c + w + D3 t) (by omega) c_135; rw [if_pos rfl]; omega)) (by first | exact fun e => absurd e (by decide) | exact fun e => ⟨(hE3 e).1, fun q hq => by rcases Nat.lt_succ_iff_lt_or_eq.mp hq with h | h; exact (hE3 e).2 q h; rw [h]; exact hEg⟩)) [4, 5, 1, 6, 0] rfl
                              · -- 94 false
                                have hEg : Eg (vcX (M 159)) tw J D3 c k := fun _ t2 w2 e1 _ => by rw [hnb] at e1; cases e1; have := hJD3.1 c (by omega); omega
                                refine x_ldc h (nI 1000000000) (by decide +kernel) dX6_measures_97 ?_
                                refine x_goto h 110 dX6_measures_99 (by decide) ?_
                                refine x_istore h [(6, .int (nI 1000000000)), (5, .int (nI t)), (0, .ref (g.1 158)), (1, .int (nI n)), (2, .int (bI b3)), (3, .int (nI c)), (4, .int (nI k))] dX6_measures_110 (by decide) rfl ?_
                                refine x_iload h 0 dX6_measures_112 rfl ?_
                                refine x_ldc h (nI 1000000000) (by decide +kernel) dX6_measures_114 ?_
                                refine x_icmp_ge h 156 dX6_measures_116 (by decide) (fun _ => ?_) (fun c => absurd (by decide) c)
                                refine x_iinc_n h 6 (n := 1) [(4, .int (nI (k + 1))), (6, .int (nI 1000000000)), (5, .int (nI t)), (0, .ref (g.1 158)), (1, .int (nI n)), (2, .int (bI b3)), (3, .int (nI c))] dX6_measures_156 rfl (by decide) rfl ?_
                                refine x_goto h 56 dX6_measures_159 (by decide) ?_
                                exact x_lv (ih56 (k + 1) b3 D3 W3 (by omega) (by omega) (by first | exact hFD3 | exact fun q hq => (st2_n _ _ _ hq).trans (hFD3 q hq)) (by first | exact hDD3 | exact far_u hDD3) (by first | exact hJD3 | exact J4_u hJD3 (by omega) (by omega) (bI_0 c_82) hnb hw c_135) (by first | exact hs3 | (have := sum_u (D := D3) (c := c) (v := mv (vcX (M 159)) k c + w + D3 t) (by omega) c_135; rw [if_pos rfl]; omega)) (by first | exact fun e => absurd e (by decide) | exact fun e => ⟨(hE3 e).1, fun q hq => by rcases Nat.lt_succ_iff_lt_or_eq.mp hq with h | h; exact (hE3 e).2 q h; rw [h]; exact hEg⟩)) [3, 4, 5, 6, 0] rfl
                    exact x_lv (L56 _ 0 b2 D2 W2 (Nat.lt_succ_self _) (by omega) (by exact hFD2) (by exact hDD2) (by exact hJD2) (by exact hs2) (by exact fun e => ⟨hE2 e, fun q hq => absurd hq (Nat.not_lt_zero q)⟩)) [1, 2, 3, 4, 0] rfl
              exact x_lv (L46 _ 0 false D1 W1 (Nat.lt_succ_self _) (by omega) (by exact hFD1) (by exact hDD1) (by exact hJD1) (by exact Nat.le_refl _) (by exact fun _ q hq => absurd hq (Nat.not_lt_zero q))) [2, 3, 1, 0] rfl
        exact x_lv (L38 _ true (fun a => if J a = true then 0 else 1000000000) W (Nat.lt_succ_self _) (by exact hF) (by obtain rfl : i = 162 := (by omega); exact hW) (by exact J4_0 _ tw J) (by exact fun e => absurd e (by decide))) [1, 2, 0] rfl
      · -- 6 false
        refine x_aload_n h 0 dX6_measures_9 rfl rfl ?_
        refine xg_X6_8 h in_X6_measures_X6 (by decide +kernel) dX6_measures_10 ?_
        refine x_iload_n h 2 dX6_measures_13 rfl rfl ?_
        refine x_aload_n h 0 dX6_measures_14 rfl rfl ?_
        refine xg_X6_9 h in_X6_measures_X6 (by decide +kernel) dX6_measures_15 ?_
        refine x_iload_n h 2 dX6_measures_18 rfl rfl ?_
        refine xl_165 h dX6_measures_19 (by omega) ?_
        refine x_top ((bI (J i))) (by rw [hF 165 (by decide)]; exact hJ i (by omega)) ?_
        refine x_if_eq h 27 dX6_measures_20 (by decide) (fun c_20 => ?_) (fun c_20 => ?_)
        · -- 20 true
          refine x_ldc h (nI 1000000000) (by decide +kernel) dX6_measures_27 ?_
          refine xs_164 h dX6_measures_29 (by omega) ?_
          refine x_iinc_n h 2 (n := 1) [(2, .int (nI (i + 1))), (0, .ref (g.1 158)), (1, .int (nI n))] dX6_measures_30 rfl (by decide) rfl ?_
          refine x_goto h 2 dX6_measures_33 (by decide) ?_
          exact x_lv (ih2 (i + 1) (st2 W 164 i (nI 1000000000)) (by omega) (by omega) (by exact fun k hk => (st2_n _ _ _ hk).trans (hF k hk)) (by intro a ha; rw [st2_k]; by_cases e : a = i; rw [e, pk_us]; show _ = nI (if J i = true then 0 else 1000000000); (first | (rw [bI_0 c_20]; rfl) | (rw [bI_1 c_20]; rfl)); rw [pk_un e]; exact hW a (by omega))) [1, 2, 0] rfl
        · -- 20 false
          refine x_iconst h (nI 0) dX6_measures_23 (by decide) ?_
          refine x_goto h 29 dX6_measures_24 (by decide) ?_
          refine xs_164 h dX6_measures_29 (by omega) ?_
          refine x_iinc_n h 2 (n := 1) [(2, .int (nI (i + 1))), (0, .ref (g.1 158)), (1, .int (nI n))] dX6_measures_30 rfl (by decide) rfl ?_
          refine x_goto h 2 dX6_measures_33 (by decide) ?_
          exact x_lv (ih2 (i + 1) (st2 W 164 i (nI 0)) (by omega) (by omega) (by exact fun k hk => (st2_n _ _ _ hk).trans (hF k hk)) (by intro a ha; rw [st2_k]; by_cases e : a = i; rw [e, pk_us]; show _ = nI (if J i = true then 0 else 1000000000); (first | (rw [bI_0 c_20]; rfl) | (rw [bI_1 c_20]; rfl)); rw [pk_un e]; exact hW a (by omega))) [1, 2, 0] rfl
  exact x_lv (L2 _ 0 M (Nat.lt_succ_self _) (by omega) (by exact fun k _ => rfl) (by exact fun a ha => absurd ha (Nat.not_lt_zero a))) [1, 2, 0] rfl

set_option maxRecDepth 20000 in
theorem ggX6_nextOf_X6_neighbour : GoodIn wsX6_nextOf wsX6_neighbour := goodIn_r _ [6] (by decide +kernel) (by decide +kernel)
set_option maxRecDepth 20000 in
theorem gX6_nextOf_X6_neighbour : GoodIn wsX6_nextOf (va_wsS RX6 97 yX6_neighbour wsX6_neighbour) := goodIn_app (goodIn_of _ (by decide +kernel)) ggX6_nextOf_X6_neighbour
set_option maxRecDepth 20000 in
theorem ggX6_nextOf_X6_into : GoodIn wsX6_nextOf wsX6_into := goodIn_r _ [10, 11, 12, 13, 2, 14, 15, 5, 16, 17, 18, 19, 20, 21, 22, 23, 24, 25, 26, 27, 28, 29, 30, 31, 32, 33, 34, 35, 36, 37, 38, 39] (by decide +kernel) (by decide +kernel)
set_option maxRecDepth 20000 in
theorem gX6_nextOf_X6_into : GoodIn wsX6_nextOf (wsV RX6 100 RX6 yX6_into wsX6_into) := goodIn_app (goodIn_of _ (by decide +kernel)) ggX6_nextOf_X6_into
theorem dX6_nextOf_0 : decode cX6_nextOf 0 = .ok (.iconst 0, 1) := by decide +kernel
theorem dX6_nextOf_1 : decode cX6_nextOf 1 = .ok (.istore_n 3, 1) := by decide +kernel
theorem dX6_nextOf_2 : decode cX6_nextOf 2 = .ok (.iload_n 3, 1) := by decide +kernel
theorem dX6_nextOf_3 : decode cX6_nextOf 3 = .ok (.iconst 3, 1) := by decide +kernel
theorem dX6_nextOf_4 : decode cX6_nextOf 4 = .ok (.if_icmp .ge 78, 3) := by decide +kernel
theorem dX6_nextOf_7 : decode cX6_nextOf 7 = .ok (.iload_n 2, 1) := by decide +kernel
theorem dX6_nextOf_8 : decode cX6_nextOf 8 = .ok (.iload_n 3, 1) := by decide +kernel
theorem dX6_nextOf_9 : decode cX6_nextOf 9 = .ok (.invokestatic 97, 3) := by decide +kernel
theorem dX6_nextOf_12 : decode cX6_nextOf 12 = .ok (.istore 4, 2) := by decide +kernel
theorem dX6_nextOf_14 : decode cX6_nextOf 14 = .ok (.iload 4, 2) := by decide +kernel
theorem dX6_nextOf_16 : decode cX6_nextOf 16 = .ok (.iconst (-1), 1) := by decide +kernel
theorem dX6_nextOf_17 : decode cX6_nextOf 17 = .ok (.if_icmp .eq 15, 3) := by decide +kernel
theorem dX6_nextOf_20 : decode cX6_nextOf 20 = .ok (.aload_n 0, 1) := by decide +kernel
theorem dX6_nextOf_21 : decode cX6_nextOf 21 = .ok (.getfield 25, 3) := by decide +kernel
theorem dX6_nextOf_24 : decode cX6_nextOf 24 = .ok (.iload 4, 2) := by decide +kernel
theorem dX6_nextOf_26 : decode cX6_nextOf 26 = .ok (.iaload, 1) := by decide +kernel
theorem dX6_nextOf_27 : decode cX6_nextOf 27 = .ok (.ldc 96, 2) := by decide +kernel
theorem dX6_nextOf_29 : decode cX6_nextOf 29 = .ok (.if_icmp .ne 8, 3) := by decide +kernel
theorem dX6_nextOf_32 : decode cX6_nextOf 32 = .ok (.ldc 96, 2) := by decide +kernel
theorem dX6_nextOf_34 : decode cX6_nextOf 34 = .ok (.goto 11, 3) := by decide +kernel
theorem dX6_nextOf_37 : decode cX6_nextOf 37 = .ok (.aload_n 0, 1) := by decide +kernel
theorem dX6_nextOf_38 : decode cX6_nextOf 38 = .ok (.iload_n 1, 1) := by decide +kernel
theorem dX6_nextOf_39 : decode cX6_nextOf 39 = .ok (.iload_n 2, 1) := by decide +kernel
theorem dX6_nextOf_40 : decode cX6_nextOf 40 = .ok (.iload 4, 2) := by decide +kernel
theorem dX6_nextOf_42 : decode cX6_nextOf 42 = .ok (.invokevirtual 100, 3) := by decide +kernel
theorem dX6_nextOf_45 : decode cX6_nextOf 45 = .ok (.istore 5, 2) := by decide +kernel
theorem dX6_nextOf_47 : decode cX6_nextOf 47 = .ok (.iload 5, 2) := by decide +kernel
theorem dX6_nextOf_49 : decode cX6_nextOf 49 = .ok (.ldc 96, 2) := by decide +kernel
theorem dX6_nextOf_51 : decode cX6_nextOf 51 = .ok (.if_icmp .ge 25, 3) := by decide +kernel
theorem dX6_nextOf_54 : decode cX6_nextOf 54 = .ok (.iload 5, 2) := by decide +kernel
theorem dX6_nextOf_56 : decode cX6_nextOf 56 = .ok (.aload_n 0, 1) := by decide +kernel
theorem dX6_nextOf_57 : decode cX6_nextOf 57 = .ok (.getfield 25, 3) := by decide +kernel
theorem dX6_nextOf_60 : decode cX6_nextOf 60 = .ok (.iload 4, 2) := by decide +kernel
theorem dX6_nextOf_62 : decode cX6_nextOf 62 = .ok (.iaload, 1) := by decide +kernel
theorem dX6_nextOf_63 : decode cX6_nextOf 63 = .ok (.iadd, 1) := by decide +kernel
theorem dX6_nextOf_64 : decode cX6_nextOf 64 = .ok (.aload_n 0, 1) := by decide +kernel
theorem dX6_nextOf_65 : decode cX6_nextOf 65 = .ok (.getfield 25, 3) := by decide +kernel
theorem dX6_nextOf_68 : decode cX6_nextOf 68 = .ok (.iload_n 2, 1) := by decide +kernel
theorem dX6_nextOf_69 : decode cX6_nextOf 69 = .ok (.iaload, 1) := by decide +kernel
theorem dX6_nextOf_70 : decode cX6_nextOf 70 = .ok (.if_icmp .ne 6, 3) := by decide +kernel
theorem dX6_nextOf_73 : decode cX6_nextOf 73 = .ok (.iload 4, 2) := by decide +kernel
theorem dX6_nextOf_75 : decode cX6_nextOf 75 = .ok (.ireturn, 1) := by decide +kernel
theorem dX6_nextOf_76 : decode cX6_nextOf 76 = .ok (.iinc 3 1, 3) := by decide +kernel
theorem dX6_nextOf_79 : decode cX6_nextOf 79 = .ok (.goto (-77), 3) := by decide +kernel
theorem dX6_nextOf_82 : decode cX6_nextOf 82 = .ok (.iconst (-1), 1) := by decide +kernel
theorem dX6_nextOf_83 : decode cX6_nextOf 83 = .ok (.ireturn, 1) := by decide +kernel
abbrev rmX6_nextOf : Room := { frames := 2, cells := 0, slots := 0, locals := 47 }
set_option maxRecDepth 20000 in
theorem in_X6_nextOf_X6 : ∀ w ∈ wsX60, w ∈ wsX6_nextOf := by decide +kernel

set_option maxRecDepth 100000 in
set_option maxHeartbeats 4000000 in
theorem c_X6_nextOf {l : Launch} {g : Geo} {M : Nat → Nat → Int32} {P : Nat → Nat} {N K B : Nat} (hI : InvX eM (M 159) N K B) {n : Nat} (hn : n < N) {dg : Bool} (hdg : M 158 13 = bI dg) {J : Nat → Bool} (hJ : ∀ a, a < 162 → M 165 a = bI (J a)) {tw : Nat → Option Nat} (hTJ : ∀ a, a < 162 → tw a = if J a = true then some 0 else twX eM (M 159) N n dg a) (hTN : ∀ a, 162 ≤ a → tw a = none) {d : Nat → Nat} (hd : ∀ a, a < 162 → M 164 a = nI (d a)) (hdl : ∀ a, a < 162 → d a ≤ 1000000000) {c : Nat} (hc : c < 162) : Met l yX6_nextOf wsX6_nextOf rmX6_nextOf (cPre g [.ref (g.1 158), .int (nI n), .int (nI c)] M P) (cQi g (fun r M' P' => (P = P' ∧ M = M') ∧ r = ngh (nxtM (vcX (M 159)) tw d c))) 0 0 (gA g) := by
  refine met_i (cc := cX6_nextOf) (maxL := 6) (by decide) rfl ⟨rfl, rfl⟩ (Nat.le_of_ble_eq_true rfl) (fun x hx h hret => ?_)
  replace h : Cxk x g cX6_nextOf 6 wsX6_nextOf RX6 rmX6_nextOf := h
  show X x 0 [(0, .ref (g.1 158)), (1, .int (nI n)), (2, .int (nI c))] [] M P
  have hN := hI.1.1
  have hN6 := hI.1.2.1
  have hK := hI.1.2.2.1
  have hK12 := hI.1.2.2.2.1
  have hvc := hI.1.vc
  have hprX := hI.1.pr
  have htw : ∀ a w, tw a = some w → w ≤ 59 := fun a w e => by
      by_cases ha : a < 162
      · rw [hTJ a ha] at e
        by_cases q : J a = true
        · rw [if_pos q] at e; cases e; omega
        · rw [if_neg q] at e; exact twG_le hI.1 a w e
      · rw [hTN a (by omega)] at e; cases e
  refine x_iconst h (nI 0) dX6_nextOf_0 (by decide) ?_
  refine x_istore_n h [(3, .int (nI 0)), (0, .ref (g.1 158)), (1, .int (nI n)), (2, .int (nI c))] dX6_nextOf_1 rfl (by decide) rfl ?_
  have L2 : ∀ (fu : Nat) (k : Nat), (3 - k) < fu → (k ≤ 3) → (∀ j, j < k → cndM (vcX (M 159)) tw d c j = none) → X x 2 [(0, .ref (g.1 158)), (1, .int (nI n)), (2, .int (nI c)), (3, .int (nI k))] [] M P := by
    intro fu
    induction fu with
    | zero => intro k hmu2; exact absurd hmu2 (Nat.not_lt_zero _)
    | succ fu ih2 =>
      intro k hmu2 hk hno
      refine x_iload_n h 3 dX6_nextOf_2 rfl rfl ?_
      refine x_iconst h (nI 3) dX6_nextOf_3 (by decide) ?_
      refine x_icmp_ge_n h 82 dX6_nextOf_4 (by decide) (by first | omega | (have := hdl t htl; omega) | (have := hdl t htl; have := hdl c hc; omega)) (by decide) (fun c_4 => ?_) (fun c_4 => ?_)
      · -- 4 true
        refine x_iconst h ((-1)) dX6_nextOf_82 (by decide) ?_
        exact hret _ _ _ _ _ dX6_nextOf_83 (by exact ⟨⟨rfl, rfl⟩, by rw [nxtM_none (fun j hj => hno j (by omega))]; rfl⟩)
      · -- 4 false
        refine x_iload_n h 2 dX6_nextOf_7 rfl rfl ?_
        refine x_iload_n h 3 dX6_nextOf_8 rfl rfl ?_
        refine x_callS h (As := [.int (nI c), .int (nI k)]) 2 hx (c_X6_neighbour (by omega) (by omega)) gX6_nextOf_X6_neighbour rfl ⟨rfl, rfl⟩ (by decide +kernel) rfl (by decide) (Nat.le_of_ble_eq_true rfl) dX6_nextOf_9 (fun rv M' P' hp => ?_)
        obtain ⟨⟨rfl, rfl⟩, rfl⟩ := hp
        refine x_istore h [(4, .int (ngh (nb k c))), (0, .ref (g.1 158)), (1, .int (nI n)), (2, .int (nI c)), (3, .int (nI k))] dX6_nextOf_12 (by decide) rfl ?_
        refine x_iload h 0 dX6_nextOf_14 rfl ?_
        refine x_iconst h ((-1)) dX6_nextOf_16 (by decide) ?_
        refine x_icmp_eq h 32 dX6_nextOf_17 (by decide) (fun c_17 => ?_) (fun c_17 => ?_)
        · -- 17 true
          have hcn := cndM_n (vc := vcX (M 159)) (tw := tw) (D := d) (c := c) (k := k) (fun t2 w2 e1 _ _ => by rw [ngh_m1 c_17 (fun z e => by have := nb_lt hc e; omega)] at e1; cases e1)
          refine x_ldc h (nI 1000000000) (by decide +kernel) dX6_nextOf_32 ?_
          refine x_goto h 45 dX6_nextOf_34 (by decide) ?_
          refine x_istore h [(5, .int (nI 1000000000)), (4, .int (ngh (nb k c))), (0, .ref (g.1 158)), (1, .int (nI n)), (2, .int (nI c)), (3, .int (nI k))] dX6_nextOf_45 (by decide) rfl ?_
          refine x_iload h 0 dX6_nextOf_47 rfl ?_
          refine x_ldc h (nI 1000000000) (by decide +kernel) dX6_nextOf_49 ?_
          refine x_icmp_ge h 76 dX6_nextOf_51 (by decide) (fun _ => ?_) (fun c => absurd (by decide) c)
          refine x_iinc_n h 5 (n := 1) [(3, .int (nI (k + 1))), (5, .int (nI 1000000000)), (4, .int (ngh (nb k c))), (0, .ref (g.1 158)), (1, .int (nI n)), (2, .int (nI c))] dX6_nextOf_76 rfl (by decide) rfl ?_
          refine x_goto h 2 dX6_nextOf_79 (by decide) ?_
          exact x_lv (ih2 (k + 1) (by omega) (by omega) (by (intro j hj; rcases Nat.lt_succ_iff_lt_or_eq.mp hj with e | rfl; exact hno j e; exact hcn))) [3, 4, 5, 0] rfl
        · -- 17 false
          obtain ⟨t, hnb⟩ := ngh_nm1 c_17
          have htl := nb_lt (by omega) hnb
          rw [hnb]
          refine x_lv (lv' := [(4, .int (nI t)), (0, .ref (g.1 158)), (1, .int (nI n)), (2, .int (nI c)), (3, .int (nI k))]) ?_ [0, 1, 2, 3, 4] rfl
          refine x_aload_n h 1 dX6_nextOf_20 rfl rfl ?_
          refine xg_X6_8 h in_X6_nextOf_X6 (by decide +kernel) dX6_nextOf_21 ?_
          refine x_iload h 0 dX6_nextOf_24 rfl ?_
          refine xl_164 h dX6_nextOf_26 (by omega) ?_
          refine x_top (nI (d t)) (hd t htl) ?_
          refine x_ldc h (nI 1000000000) (by decide +kernel) dX6_nextOf_27 ?_
          refine x_icmp_ne_n h 37 dX6_nextOf_29 (by decide) (by first | omega | (have := hdl t htl; omega) | (have := hdl t htl; have := hdl c hc; omega)) (by decide) (fun c_29 => ?_) (fun c_29 => ?_)
          · -- 29 true
            refine x_aload_n h 1 dX6_nextOf_37 rfl rfl ?_
            refine x_iload_n h 2 dX6_nextOf_38 rfl rfl ?_
            refine x_iload_n h 3 dX6_nextOf_39 rfl rfl ?_
            refine x_iload h 0 dX6_nextOf_40 rfl ?_
            refine x_callV h (As := [.int (nI n), .int (nI c), .int (nI t)]) 3 hx (c_X6_into hI hn hdg hJ hTJ hc (by omega) hnb) gX6_nextOf_X6_into rfl ⟨rfl, rfl⟩ (by decide +kernel) rfl (by decide) (by decide) E_158 rfl rfl (Nat.le_of_ble_eq_true rfl) dX6_nextOf_42 (fun rv M' P' hp => ?_)
            obtain ⟨⟨rfl, rfl⟩, rfl⟩ := hp
            cases hw : tw t with
            | none =>
              refine x_top (nI 1000000000) (congrArg nI (inM_n hw)) ?_
              have hcn := cndM_n (vc := vcX (M 159)) (tw := tw) (D := d) (c := c) (k := k) (fun t2 w2 e1 e2 _ => by rw [hnb] at e1; cases e1; rw [hw] at e2; cases e2)
              refine x_istore h [(5, .int (nI 1000000000)), (4, .int (nI t)), (0, .ref (g.1 158)), (1, .int (nI n)), (2, .int (nI c)), (3, .int (nI k))] dX6_nextOf_45 (by decide) rfl ?_
              refine x_iload h 0 dX6_nextOf_47 rfl ?_
              refine x_ldc h (nI 1000000000) (by decide +kernel) dX6_nextOf_49 ?_
              refine x_icmp_ge h 76 dX6_nextOf_51 (by decide) (fun _ => ?_) (fun c => absurd (by decide) c)
              refine x_iinc_n h 5 (n := 1) [(3, .int (nI (k + 1))), (5, .int (nI 1000000000)), (4, .int (nI t)), (0, .ref (g.1 158)), (1, .int (nI n)), (2, .int (nI c))] dX6_nextOf_76 rfl (by decide) rfl ?_
              refine x_goto h 2 dX6_nextOf_79 (by decide) ?_
              exact x_lv (ih2 (k + 1) (by omega) (by omega) (by (intro j hj; rcases Nat.lt_succ_iff_lt_or_eq.mp hj with e | rfl; exact hno j e; exact hcn))) [3, 4, 5, 0] rfl
            | some w =>
              have hw59 : w ≤ 59 := htw t w hw
              have hmv20 := mv_le (k := k) (c := c) hvc.2.2
              refine x_top (nI (mv (vcX (M 159)) k c + w)) (congrArg nI (inM_s hw)) ?_
              refine x_istore h [(5, .int (nI (mv (vcX (M 159)) k c + w))), (4, .int (nI t)), (0, .ref (g.1 158)), (1, .int (nI n)), (2, .int (nI c)), (3, .int (nI k))] dX6_nextOf_45 (by decide) rfl ?_
              refine x_iload h 0 dX6_nextOf_47 rfl ?_
              refine x_ldc h (nI 1000000000) (by decide +kernel) dX6_nextOf_49 ?_
              refine x_icmp_ge_n h 76 dX6_nextOf_51 (by decide) (by first | omega | (have := hdl t htl; omega) | (have := hdl t htl; have := hdl c hc; omega)) (by decide) (fun c_51 => by omega) (fun c_51 => ?_)
              refine x_iload h 0 dX6_nextOf_54 rfl ?_
              refine x_aload_n h 2 dX6_nextOf_56 rfl rfl ?_
              refine xg_X6_8 h in_X6_nextOf_X6 (by decide +kernel) dX6_nextOf_57 ?_
              refine x_iload h 1 dX6_nextOf_60 rfl ?_
              refine xl_164 h dX6_nextOf_62 (by omega) ?_
              refine x_top (nI (d t)) (hd t htl) ?_
              refine x_iadd_n h dX6_nextOf_63 ?_
              refine x_aload_n h 2 dX6_nextOf_64 rfl rfl ?_
              refine xg_X6_8 h in_X6_nextOf_X6 (by decide +kernel) dX6_nextOf_65 ?_
              refine x_iload_n h 4 dX6_nextOf_68 rfl rfl ?_
              refine xl_164 h dX6_nextOf_69 (by omega) ?_
              refine x_top (nI (d c)) (hd c hc) ?_
              refine x_icmp_ne_n h 76 dX6_nextOf_70 (by decide) (by first | omega | (have := hdl t htl; omega) | (have := hdl t htl; have := hdl c hc; omega)) (by first | omega | (have := hdl t htl; omega) | (have := hdl t htl; have := hdl c hc; omega)) (fun c_70 => ?_) (fun c_70 => ?_)
              · -- 70 true
                have hcn := cndM_n (vc := vcX (M 159)) (tw := tw) (D := d) (c := c) (k := k) (fun t2 w2 e1 e2 _ => by rw [hnb] at e1; cases e1; rw [hw] at e2; cases e2; omega)
                refine x_iinc_n h 5 (n := 1) [(3, .int (nI (k + 1))), (5, .int (nI (mv (vcX (M 159)) k c + w))), (4, .int (nI t)), (0, .ref (g.1 158)), (1, .int (nI n)), (2, .int (nI c))] dX6_nextOf_76 rfl (by decide) rfl ?_
                refine x_goto h 2 dX6_nextOf_79 (by decide) ?_
                exact x_lv (ih2 (k + 1) (by omega) (by omega) (by (intro j hj; rcases Nat.lt_succ_iff_lt_or_eq.mp hj with e | rfl; exact hno j e; exact hcn))) [3, 4, 5, 0] rfl
              · -- 70 false
                refine x_iload h 1 dX6_nextOf_73 rfl ?_
                exact hret _ _ _ _ _ dX6_nextOf_75 (by exact ⟨⟨rfl, rfl⟩, by rw [nxtM_k (by omega) (cndM_y hnb hw (by have := hdl t htl; omega) c_70) hno]; rfl⟩)
          · -- 29 false
            have hcn := cndM_n (vc := vcX (M 159)) (tw := tw) (D := d) (c := c) (k := k) (fun t2 w2 e1 _ e3 => by rw [hnb] at e1; cases e1; omega)
            refine x_ldc h (nI 1000000000) (by decide +kernel) dX6_nextOf_32 ?_
            refine x_goto h 45 dX6_nextOf_34 (by decide) ?_
            refine x_istore h [(5, .int (nI 1000000000)), (4, .int (nI t)), (0, .ref (g.1 158)), (1, .int (nI n)), (2, .int (nI c)), (3, .int (nI k))] dX6_nextOf_45 (by decide) rfl ?_
            refine x_iload h 0 dX6_nextOf_47 rfl ?_
            refine x_ldc h (nI 1000000000) (by decide +kernel) dX6_nextOf_49 ?_
            refine x_icmp_ge h 76 dX6_nextOf_51 (by decide) (fun _ => ?_) (fun c => absurd (by decide) c)
            refine x_iinc_n h 5 (n := 1) [(3, .int (nI (k + 1))), (5, .int (nI 1000000000)), (4, .int (nI t)), (0, .ref (g.1 158)), (1, .int (nI n)), (2, .int (nI c))] dX6_nextOf_76 rfl (by decide) rfl ?_
            refine x_goto h 2 dX6_nextOf_79 (by decide) ?_
            exact x_lv (ih2 (k + 1) (by omega) (by omega) (by (intro j hj; rcases Nat.lt_succ_iff_lt_or_eq.mp hj with e | rfl; exact hno j e; exact hcn))) [3, 4, 5, 0] rfl
  exact x_lv (L2 _ 0 (Nat.lt_succ_self _) (by omega) (by exact fun j hj => absurd hj (Nat.not_lt_zero j))) [1, 2, 3, 0] rfl
