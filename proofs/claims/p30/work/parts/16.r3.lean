def cndO (vc : Nat) (tw : Nat → Option Nat) (D : Nat → Nat) (c k : Nat) : Option Nat := match nb k c with
  | none => none
  | some t => match tw t with
    | none => none
    | some w => if D t < 1000000 ∧ D t + w + mv vc k c = D c then some t else none
def nxtO (vc : Nat) (tw : Nat → Option Nat) (D : Nat → Nat) (c : Nat) : Option Nat := match cndO vc tw D c 0 with
  | some t => some t
  | none => match cndO vc tw D c 1 with
    | some t => some t
    | none => cndO vc tw D c 2
def nxJ (vc : Nat) (tw : Nat → Option Nat) (J : Nat → Bool) (D : Nat → Nat) (c : Nat) : Option Nat := if J c = true then none else nxtO vc tw D c
theorem nxtO_k {vc : Nat} {tw : Nat → Option Nat} {D : Nat → Nat} {c k t : Nat} (hk : k < 3) (h : cndO vc tw D c k = some t) (hn : ∀ j, j < k → cndO vc tw D c j = none) : nxtO vc tw D c = some t := by
  unfold nxtO
  rcases (show k = 0 ∨ k = 1 ∨ k = 2 by omega) with rfl | rfl | rfl
  · rw [h]
  · rw [hn 0 (by omega), h]
  · rw [hn 0 (by omega), hn 1 (by omega)]; exact h
theorem nxtO_none {vc : Nat} {tw : Nat → Option Nat} {D : Nat → Nat} {c : Nat} (hn : ∀ j, j < 3 → cndO vc tw D c j = none) : nxtO vc tw D c = none := by
  unfold nxtO
  rw [hn 0 (by omega), hn 1 (by omega)]; exact hn 2 (by omega)
theorem cndO_some {vc : Nat} {tw : Nat → Option Nat} {D : Nat → Nat} {c k t : Nat} (h : cndO vc tw D c k = some t) : nb k c = some t ∧ ∃ w, tw t = some w ∧ D t < 1000000 ∧ D t + w + mv vc k c = D c := by
  unfold cndO at h
  cases h1 : nb k c with
  | none => rw [h1] at h; cases h
  | some t' =>
    rw [h1] at h
    dsimp only at h
    cases h2 : tw t' with
    | none => rw [h2] at h; cases h
    | some w =>
      rw [h2] at h
      dsimp only at h
      by_cases h3 : D t' < 1000000 ∧ D t' + w + mv vc k c = D c
      · rw [if_pos h3] at h
        cases h
        exact ⟨rfl, w, h2, h3⟩
      · rw [if_neg h3] at h; cases h
theorem nxtO_some {vc : Nat} {tw : Nat → Option Nat} {D : Nat → Nat} {c t : Nat} (h : nxtO vc tw D c = some t) : ∃ k, k < 3 ∧ nb k c = some t ∧ ∃ w, tw t = some w ∧ D t < 1000000 ∧ D t + w + mv vc k c = D c := by
  unfold nxtO at h
  cases h0 : cndO vc tw D c 0 with
  | some t' =>
    rw [h0] at h
    cases h
    exact ⟨0, by omega, cndO_some h0⟩
  | none =>
    rw [h0] at h
    dsimp only at h
    cases h1 : cndO vc tw D c 1 with
    | some t' =>
      rw [h1] at h
      cases h
      exact ⟨1, by omega, cndO_some h1⟩
    | none =>
      rw [h1] at h
      exact ⟨2, by omega, cndO_some h⟩
def pthL (vc : Nat) (tw : Nat → Option Nat) (J : Nat → Bool) (D : Nat → Nat) : Nat → Nat → List Nat
  | 0, c => [c]
  | f + 1, c => match nxJ vc tw J D c with
    | none => [c]
    | some t => c :: pthL vc tw J D f t
def startO (D : Nat → Nat) (p : Nat) : Option Nat := if D p ≤ D (p + 81) then (if D p < 1000000 then some p else none) else (if D (p + 81) < 1000000 then some (p + 81) else none)
def rst (vc : Nat) (tw : Nat → Option Nat) (J : Nat → Bool) (D : Nat → Nat) (i : Nat) (o : Option Nat) : List Nat := match o with
  | none => []
  | some a => if i < 162 then pthL vc tw J D (161 - i) a else []
theorem rst_step {vc : Nat} {tw : Nat → Option Nat} {J : Nat → Bool} {D : Nat → Nat} {i a : Nat} (hi : i < 162) : rst vc tw J D i (some a) = a :: rst vc tw J D (i + 1) (nxJ vc tw J D a) := by
  unfold rst
  dsimp only
  rw [if_pos hi]
  by_cases e : i = 161
  · subst e
    cases nxJ vc tw J D a with
    | none => rfl
    | some t => dsimp only; rw [if_neg (by omega)]; rfl
  · rw [show 161 - i = (161 - (i + 1)) + 1 by omega]
    rw [pthL]
    cases nxJ vc tw J D a with
    | none => rfl
    | some t => dsimp only; rw [if_pos (by omega)]
theorem rst_end {vc : Nat} {tw : Nat → Option Nat} {J : Nat → Bool} {D : Nat → Nat} {i : Nat} {o : Option Nat} (h : 162 ≤ i ∨ o = none) : rst vc tw J D i o = [] := by
  unfold rst
  cases o with
  | none => rfl
  | some a => dsimp only; rw [if_neg (by rcases h with h | h; omega; cases h)]
theorem ngh_neg {o : Option Nat} (h : ngh o < 0) (hl : ∀ t, o = some t → t < 2 ^ 31) : o = none := by
  cases o with
  | none => rfl
  | some t => exact absurd h (nI_pos (hl t rfl))
theorem ngh_m1 {o : Option Nat} (h : ngh o = -1) (hl : ∀ t, o = some t → t < 2 ^ 31) : o = none := by
  cases o with
  | none => rfl
  | some t => exact absurd h.symm (m1_ne (hl t rfl))
theorem ngh_pos {o : Option Nat} (h : ¬ ngh o < 0) : ∃ t, o = some t := by
  cases o with
  | none => exact absurd (by decide) h
  | some t => exact ⟨t, rfl⟩
theorem ngh_nm1 {o : Option Nat} (h : ¬ ngh o = -1) : ∃ t, o = some t := by
  cases o with
  | none => exact absurd rfl h
  | some t => exact ⟨t, rfl⟩
/-- what a route comes to: victims, price, what is owed to each -/
abbrev Acc : Type := Int32 × Int32 × (Nat → Int32)
def accS (X : Nat → Int32) (N w a : Nat) (acc : Acc) : Acc := if (∃ k, k < N ∧ X (7 + a) = nI k) then (acc.1 ||| (nI 1 <<< (X (7 + a) &&& 31)), acc.2.1 + nI w, upd acc.2.2 (X (7 + a)).toNatClampNeg (acc.2.2 (X (7 + a)).toNatClampNeg + nI w)) else acc
def accL (X : Nat → Int32) (N : Nat) (tw : Nat → Option Nat) (acc : Acc) (l : List Nat) : Acc := l.foldl (fun acc a => accS X N ((tw a).getD 0) a acc) acc
theorem accL_app (X : Nat → Int32) (N : Nat) (tw : Nat → Option Nat) (acc : Acc) (l : List Nat) (a : Nat) : accL X N tw acc (l ++ [a]) = accS X N ((tw a).getD 0) a (accL X N tw acc l) := by
  unfold accL; rw [List.foldl_append]; rfl
def RtM (M : Nat → Nat → Int32) (L : List Nat) (acc : Acc) : Prop := M 149 11 = nI L.length ∧ (∀ i, i < L.length → M 156 i = nI (L.getD i 0)) ∧ M 149 14 = acc.1 ∧ M 149 13 = acc.2.1 ∧ ∀ k, k < 6 → M 157 k = acc.2.2 k
def FrA (M M' : Nat → Nat → Int32) : Prop := (∀ k, k ≠ 149 → k ≠ 156 → k ≠ 157 → M' k = M k) ∧ ∀ j, j ≠ 11 → j ≠ 13 → j ≠ 14 → M' 149 j = M 149 j
theorem FrA_rf (M : Nat → Nat → Int32) : FrA M M := ⟨fun _ _ _ _ => rfl, fun _ _ _ _ => rfl⟩
theorem FrA_tr {M M1 M2 : Nat → Nat → Int32} (h : FrA M M1) (h2 : FrA M1 M2) : FrA M M2 := ⟨fun k a b c => (h2.1 k a b c).trans (h.1 k a b c), fun j a b c => (h2.2 j a b c).trans (h.2 j a b c)⟩
theorem FrA_a (M : Nat → Nat → Int32) {k : Nat} (j : Nat) (v : Int32) (hk : k = 156 ∨ k = 157) : FrA M (st2 M k j v) := ⟨fun q a b c => st2_n M j v (by omega), fun q _ _ _ => by rw [st2_n M j v (by omega)]⟩
theorem FrA_o (M : Nat → Nat → Int32) {j : Nat} (v : Int32) (hj : j = 11 ∨ j = 13 ∨ j = 14) : FrA M (st2 M 149 j v) := ⟨fun q a b c => st2_n M j v a, fun q a b c => by rw [st2_k, pk_un (by omega)]⟩
theorem RtM_add0 {M : Nat → Nat → Int32} {L : List Nat} {acc : Acc} (h : RtM M L acc) (a : Nat) : RtM (st2 (st2 M 156 L.length (nI a)) 149 11 (nI (L.length + 1))) (L ++ [a]) acc := by
  obtain ⟨h1, h2, h3, h4, h5⟩ := h
  refine ⟨by rw [st2_k, pk_us, List.length_append]; rfl, fun i hi => ?_, ?_, ?_, ?_⟩
  · rw [List.length_append] at hi
    have hi : i < L.length + 1 := hi
    rw [st2_n _ _ _ (by decide), st2_k]
    by_cases e : i = L.length
    · subst e; rw [pk_us]; simp
    · rw [pk_un e, h2 i (by omega)]
      congr 1
      simp only [List.getD_eq_getElem?_getD]
      rw [List.getElem?_append_left (by omega)]
  · rw [st2_k, pk_un (by decide), st2_n _ _ _ (by decide)]; exact h3
  · rw [st2_k, pk_un (by decide), st2_n _ _ _ (by decide)]; exact h4
  · intro k hk; rw [st2_n _ _ _ (by decide), st2_n _ _ _ (by decide)]; exact h5 k hk
theorem RtM_add1 {M : Nat → Nat → Int32} {X : Nat → Int32} {L : List Nat} {acc : Acc} {N w a k : Nat} (h : RtM M L acc) (hk : k < N) (hk6 : k < 6) (e : X (7 + a) = nI k) : RtM (st2 (st2 (st2 M 149 14 (acc.1 ||| (nI 1 <<< (nI k &&& 31)))) 157 k (acc.2.2 k + nI w)) 149 13 (acc.2.1 + nI w)) L (accS X N w a acc) := by
  obtain ⟨h1, h2, h3, h4, h5⟩ := h
  unfold accS
  rw [if_pos ⟨k, hk, e⟩, e, nI_clamp (by omega)]
  refine ⟨?_, fun i hi => ?_, ?_, ?_, ?_⟩
  · rw [st2_k, pk_un (by decide), st2_n _ _ _ (by decide), st2_k, pk_un (by decide)]; exact h1
  · rw [st2_n _ _ _ (by decide), st2_n _ _ _ (by decide), st2_n _ _ _ (by decide)]; exact h2 i hi
  · rw [st2_k, pk_un (by decide), st2_n _ _ _ (by decide), st2_k, pk_us]
  · rw [st2_k, pk_us]
  · intro q hq
    rw [st2_n _ _ _ (by decide), st2_k, st2_n _ _ _ (by decide)]
    by_cases e2 : q = k
    · subst e2; rw [pk_us]; exact (pk_us).symm
    · rw [pk_un e2, h5 q hq]; exact (pk_un e2).symm
def joinB (X : Nat → Int32) (v : Int32) (J : Nat → Bool) (a : Nat) : Nat → Bool := fun b => J b || decide (b = a) || (decide (X (7 + a) = v) && (decide (b = a % 81) || decide (b = a % 81 + 81)))
def joinL (X : Nat → Int32) (v : Int32) (J : Nat → Bool) (l : List Nat) : Nat → Bool := l.foldl (fun J a => joinB X v J a) J
def tw0 (tw : Nat → Option Nat) (l : List Nat) : Nat → Option Nat := fun a => if a ∈ l then some 0 else tw a

theorem jC_no {M : Nat → Nat → Int32} {X : Nat → Int32} {J : Nat → Bool} {a b : Nat} {v n : Int32} (hJ : ∀ a, a < 162 → M 151 a = bI (J a)) (h : ¬ X (7 + a) = n) (hb : b < 162) : st2 (st2 M 151 a (nI 1)) 152 a v 151 b = bI (joinB X n J a b) := by
  rw [st2_n _ _ _ (show (151 : Nat) ≠ 152 by decide), st2_k]
  unfold joinB
  by_cases e : b = a
  · subst e; rw [pk_us]; exact (bI_t (by simp)).symm
  · rw [pk_un e, hJ b hb]; congr 1; simp [e, h]
theorem jC_yes {M : Nat → Nat → Int32} {X : Nat → Int32} {J : Nat → Bool} {a b : Nat} {v n : Int32} (hJ : ∀ a, a < 162 → M 151 a = bI (J a)) (h : X (7 + a) = n) (hb : b < 162) : st2 (st2 (st2 (st2 M 151 a (nI 1)) 152 a v) 151 (a % 81) (nI 1)) 151 (a % 81 + 81) (nI 1) 151 b = bI (joinB X n J a b) := by
  rw [st2_k, st2_k, st2_n _ _ _ (show (151 : Nat) ≠ 152 by decide), st2_k]
  unfold joinB
  by_cases e1 : b = a % 81 + 81
  · subst e1; rw [pk_us]; exact (bI_t (by simp [h])).symm
  · rw [pk_un e1]
    by_cases e2 : b = a % 81
    · subst e2; rw [pk_us]; exact (bI_t (by simp [h])).symm
    · rw [pk_un e2]
      by_cases e : b = a
      · subst e; rw [pk_us]; exact (bI_t (by simp)).symm
      · rw [pk_un e, hJ b hb]; congr 1; simp [e, e1, e2]

theorem dX3_nearerCell_0 : decode cX3_nearerCell 0 = .ok (.iload_n 1, 1) := by decide +kernel
theorem dX3_nearerCell_1 : decode cX3_nearerCell 1 = .ok (.ifCond .lt 9, 3) := by decide +kernel
theorem dX3_nearerCell_4 : decode cX3_nearerCell 4 = .ok (.iload_n 1, 1) := by decide +kernel
theorem dX3_nearerCell_5 : decode cX3_nearerCell 5 = .ok (.bipush 81, 2) := by decide +kernel
theorem dX3_nearerCell_7 : decode cX3_nearerCell 7 = .ok (.if_icmp .lt 5, 3) := by decide +kernel
theorem dX3_nearerCell_10 : decode cX3_nearerCell 10 = .ok (.iconst (-1), 1) := by decide +kernel
theorem dX3_nearerCell_11 : decode cX3_nearerCell 11 = .ok (.ireturn, 1) := by decide +kernel
theorem dX3_nearerCell_12 : decode cX3_nearerCell 12 = .ok (.aload_n 0, 1) := by decide +kernel
theorem dX3_nearerCell_13 : decode cX3_nearerCell 13 = .ok (.getfield 22, 3) := by decide +kernel
theorem dX3_nearerCell_16 : decode cX3_nearerCell 16 = .ok (.iload_n 1, 1) := by decide +kernel
theorem dX3_nearerCell_17 : decode cX3_nearerCell 17 = .ok (.iaload, 1) := by decide +kernel
theorem dX3_nearerCell_18 : decode cX3_nearerCell 18 = .ok (.aload_n 0, 1) := by decide +kernel
theorem dX3_nearerCell_19 : decode cX3_nearerCell 19 = .ok (.getfield 22, 3) := by decide +kernel
theorem dX3_nearerCell_22 : decode cX3_nearerCell 22 = .ok (.iload_n 1, 1) := by decide +kernel
theorem dX3_nearerCell_23 : decode cX3_nearerCell 23 = .ok (.bipush 81, 2) := by decide +kernel
theorem dX3_nearerCell_25 : decode cX3_nearerCell 25 = .ok (.iadd, 1) := by decide +kernel
theorem dX3_nearerCell_26 : decode cX3_nearerCell 26 = .ok (.iaload, 1) := by decide +kernel
theorem dX3_nearerCell_27 : decode cX3_nearerCell 27 = .ok (.if_icmp .gt 7, 3) := by decide +kernel
theorem dX3_nearerCell_30 : decode cX3_nearerCell 30 = .ok (.iload_n 1, 1) := by decide +kernel
theorem dX3_nearerCell_31 : decode cX3_nearerCell 31 = .ok (.goto 7, 3) := by decide +kernel
theorem dX3_nearerCell_34 : decode cX3_nearerCell 34 = .ok (.iload_n 1, 1) := by decide +kernel
theorem dX3_nearerCell_35 : decode cX3_nearerCell 35 = .ok (.bipush 81, 2) := by decide +kernel
theorem dX3_nearerCell_37 : decode cX3_nearerCell 37 = .ok (.iadd, 1) := by decide +kernel
theorem dX3_nearerCell_38 : decode cX3_nearerCell 38 = .ok (.istore_n 2, 1) := by decide +kernel
theorem dX3_nearerCell_39 : decode cX3_nearerCell 39 = .ok (.aload_n 0, 1) := by decide +kernel
theorem dX3_nearerCell_40 : decode cX3_nearerCell 40 = .ok (.getfield 22, 3) := by decide +kernel
theorem dX3_nearerCell_43 : decode cX3_nearerCell 43 = .ok (.iload_n 2, 1) := by decide +kernel
theorem dX3_nearerCell_44 : decode cX3_nearerCell 44 = .ok (.iaload, 1) := by decide +kernel
theorem dX3_nearerCell_45 : decode cX3_nearerCell 45 = .ok (.ldc 114, 2) := by decide +kernel
theorem dX3_nearerCell_47 : decode cX3_nearerCell 47 = .ok (.if_icmp .ge 7, 3) := by decide +kernel
theorem dX3_nearerCell_50 : decode cX3_nearerCell 50 = .ok (.iload_n 2, 1) := by decide +kernel
theorem dX3_nearerCell_51 : decode cX3_nearerCell 51 = .ok (.goto 4, 3) := by decide +kernel
theorem dX3_nearerCell_54 : decode cX3_nearerCell 54 = .ok (.iconst (-1), 1) := by decide +kernel
theorem dX3_nearerCell_55 : decode cX3_nearerCell 55 = .ok (.ireturn, 1) := by decide +kernel
abbrev rmX3_nearerCell : Room := { frames := 0, cells := 0, slots := 0, locals := 0 }
set_option maxRecDepth 20000 in
theorem in_X3_nearerCell_X3 : ∀ w ∈ wsX30, w ∈ wsX3_nearerCell := by decide +kernel

set_option maxRecDepth 100000 in
set_option maxHeartbeats 4000000 in
theorem c_X3_nearerCell {l : Launch} {g : Geo} {M : Nat → Nat → Int32} {P : Nat → Nat} {D : Nat → Nat} (hD : ∀ a, a < 162 → M 153 a = nI (D a)) (hDl : ∀ a, a < 162 → D a ≤ 1000000) {p : Nat} (hp : p < 81) : Met l yX3_nearerCell wsX3_nearerCell rmX3_nearerCell (cPre g [.ref (g.1 149), .int (nI p)] M P) (cQi g (fun r M' P' => (P = P' ∧ M = M') ∧ r = ngh (startO D p))) 0 0 (gA g) := by
  refine met_i (cc := cX3_nearerCell) (maxL := 3) (by decide) rfl ⟨rfl, rfl⟩ (Nat.le_of_ble_eq_true rfl) (fun x hx h hret => ?_)
  replace h : Cxk x g cX3_nearerCell 3 wsX3_nearerCell RX3 rmX3_nearerCell := h
  show X x 0 [(0, .ref (g.1 149)), (1, .int (nI p))] [] M P
  refine x_iload_n h 1 dX3_nearerCell_0 rfl rfl ?_
  refine x_if_lt_n h 10 dX3_nearerCell_1 (by decide) (by first | omega | (have q1 := hDl p (by omega); have q2 := hDl (p + 81) (by omega); omega)) ?_
  refine x_iload_n h 1 dX3_nearerCell_4 rfl rfl ?_
  refine x_bipush h (nI 81) dX3_nearerCell_5 (by decide) ?_
  refine x_icmp_lt_n h 12 dX3_nearerCell_7 (by decide) (by first | omega | (have q1 := hDl p (by omega); have q2 := hDl (p + 81) (by omega); omega)) (by decide) (fun c_7 => ?_) (fun c_7 => ?_)
  · -- 7 true
    refine x_aload_n h 0 dX3_nearerCell_12 rfl rfl ?_
    refine xg_X3_3 h in_X3_nearerCell_X3 (by decide +kernel) dX3_nearerCell_13 ?_
    refine x_iload_n h 1 dX3_nearerCell_16 rfl rfl ?_
    refine xl_153 h dX3_nearerCell_17 (by omega) ?_
    refine x_top (nI (D p)) (hD p (by omega)) ?_
    refine x_aload_n h 0 dX3_nearerCell_18 rfl rfl ?_
    refine xg_X3_3 h in_X3_nearerCell_X3 (by decide +kernel) dX3_nearerCell_19 ?_
    refine x_iload_n h 1 dX3_nearerCell_22 rfl rfl ?_
    refine x_bipush h (nI 81) dX3_nearerCell_23 (by decide) ?_
    refine x_iadd_n h dX3_nearerCell_25 ?_
    refine xl_153 h dX3_nearerCell_26 (by omega) ?_
    refine x_top (nI (D (p + 81))) (hD (p + 81) (by omega)) ?_
    refine x_icmp_gt_n h 34 dX3_nearerCell_27 (by decide) (by first | omega | (have q1 := hDl p (by omega); have q2 := hDl (p + 81) (by omega); omega)) (by first | omega | (have q1 := hDl p (by omega); have q2 := hDl (p + 81) (by omega); omega)) (fun c_27 => ?_) (fun c_27 => ?_)
    · -- 27 true
      refine x_iload_n h 1 dX3_nearerCell_34 rfl rfl ?_
      refine x_bipush h (nI 81) dX3_nearerCell_35 (by decide) ?_
      refine x_iadd_n h dX3_nearerCell_37 ?_
      refine x_istore_n h [(2, .int (nI (p + 81))), (0, .ref (g.1 149)), (1, .int (nI p))] dX3_nearerCell_38 rfl (by decide) rfl ?_
      refine x_aload_n h 1 dX3_nearerCell_39 rfl rfl ?_
      refine xg_X3_3 h in_X3_nearerCell_X3 (by decide +kernel) dX3_nearerCell_40 ?_
      refine x_iload_n h 0 dX3_nearerCell_43 rfl rfl ?_
      refine xl_153 h dX3_nearerCell_44 (by omega) ?_
      refine x_top (nI (D (p + 81))) (hD _ (by omega)) ?_
      refine x_ldc h (nI 1000000) (by decide +kernel) dX3_nearerCell_45 ?_
      refine x_icmp_ge_n h 54 dX3_nearerCell_47 (by decide) (by first | omega | (have q1 := hDl p (by omega); have q2 := hDl (p + 81) (by omega); omega)) (by decide) (fun c_47 => ?_) (fun c_47 => ?_)
      · -- 47 true
        refine x_iconst h ((-1)) dX3_nearerCell_54 (by decide) ?_
        exact hret _ _ _ _ _ dX3_nearerCell_55 (by refine ⟨⟨rfl, rfl⟩, ?_⟩; unfold startO; first | (rw [if_pos c_27, if_pos c_47]; rfl) | (rw [if_pos c_27, if_neg (by omega)]; rfl) | (rw [if_neg (by omega), if_pos c_47]; rfl) | (rw [if_neg (by omega), if_neg (by omega)]; rfl))
      · -- 47 false
        refine x_iload_n h 0 dX3_nearerCell_50 rfl rfl ?_
        refine x_goto h 55 dX3_nearerCell_51 (by decide) ?_
        exact hret _ _ _ _ _ dX3_nearerCell_55 (by refine ⟨⟨rfl, rfl⟩, ?_⟩; unfold startO; first | (rw [if_pos c_27, if_pos c_47]; rfl) | (rw [if_pos c_27, if_neg (by omega)]; rfl) | (rw [if_neg (by omega), if_pos c_47]; rfl) | (rw [if_neg (by omega), if_neg (by omega)]; rfl))
    · -- 27 false
      refine x_iload_n h 1 dX3_nearerCell_30 rfl rfl ?_
      refine x_goto h 38 dX3_nearerCell_31 (by decide) ?_
      refine x_istore_n h [(2, .int (nI p)), (0, .ref (g.1 149)), (1, .int (nI p))] dX3_nearerCell_38 rfl (by decide) rfl ?_
      refine x_aload_n h 1 dX3_nearerCell_39 rfl rfl ?_
      refine xg_X3_3 h in_X3_nearerCell_X3 (by decide +kernel) dX3_nearerCell_40 ?_
      refine x_iload_n h 0 dX3_nearerCell_43 rfl rfl ?_
      refine xl_153 h dX3_nearerCell_44 (by omega) ?_
      refine x_top (nI (D p)) (hD _ (by omega)) ?_
      refine x_ldc h (nI 1000000) (by decide +kernel) dX3_nearerCell_45 ?_
      refine x_icmp_ge_n h 54 dX3_nearerCell_47 (by decide) (by first | omega | (have q1 := hDl p (by omega); have q2 := hDl (p + 81) (by omega); omega)) (by decide) (fun c_47 => ?_) (fun c_47 => ?_)
      · -- 47 true
        refine x_iconst h ((-1)) dX3_nearerCell_54 (by decide) ?_
        exact hret _ _ _ _ _ dX3_nearerCell_55 (by refine ⟨⟨rfl, rfl⟩, ?_⟩; unfold startO; first | (rw [if_pos c_27, if_pos c_47]; rfl) | (rw [if_pos c_27, if_neg (by omega)]; rfl) | (rw [if_neg (by omega), if_pos c_47]; rfl) | (rw [if_neg (by omega), if_neg (by omega)]; rfl))
      · -- 47 false
        refine x_iload_n h 0 dX3_nearerCell_50 rfl rfl ?_
        refine x_goto h 55 dX3_nearerCell_51 (by decide) ?_
        exact hret _ _ _ _ _ dX3_nearerCell_55 (by refine ⟨⟨rfl, rfl⟩, ?_⟩; unfold startO; first | (rw [if_pos c_27, if_pos c_47]; rfl) | (rw [if_pos c_27, if_neg (by omega)]; rfl) | (rw [if_neg (by omega), if_pos c_47]; rfl) | (rw [if_neg (by omega), if_neg (by omega)]; rfl))
  · -- 7 false
    refine x_iconst h ((-1)) dX3_nearerCell_10 (by decide) ?_
    exact hret _ _ _ _ _ dX3_nearerCell_11 (by refine ⟨⟨rfl, rfl⟩, ?_⟩; unfold startO; first | (rw [if_pos c_27, if_pos c_47]; rfl) | (rw [if_pos c_27, if_neg (by omega)]; rfl) | (rw [if_neg (by omega), if_pos c_47]; rfl) | (rw [if_neg (by omega), if_neg (by omega)]; rfl))

set_option maxRecDepth 20000 in
theorem ggX3_nextCell_X3_moveCost : GoodIn wsX3_nextCell wsX3_moveCost := goodIn_r _ [10, 11, 12, 13, 14, 15, 16, 17, 18, 19, 20, 21, 22, 23, 24, 25, 26] (by decide +kernel) (by decide +kernel)
set_option maxRecDepth 20000 in
theorem gX3_nextCell_X3_moveCost : GoodIn wsX3_nextCell (wsV RX3 119 RX3 yX3_moveCost wsX3_moveCost) := goodIn_app (goodIn_of _ (by decide +kernel)) ggX3_nextCell_X3_moveCost
theorem dX3_nextCell_0 : decode cX3_nextCell 0 = .ok (.aload_n 0, 1) := by decide +kernel
theorem dX3_nextCell_1 : decode cX3_nextCell 1 = .ok (.getfield 15, 3) := by decide +kernel
theorem dX3_nextCell_4 : decode cX3_nextCell 4 = .ok (.iload_n 1, 1) := by decide +kernel
theorem dX3_nextCell_5 : decode cX3_nextCell 5 = .ok (.baload, 1) := by decide +kernel
theorem dX3_nextCell_6 : decode cX3_nextCell 6 = .ok (.ifCond .eq 5, 3) := by decide +kernel
theorem dX3_nextCell_9 : decode cX3_nextCell 9 = .ok (.iconst (-1), 1) := by decide +kernel
theorem dX3_nextCell_10 : decode cX3_nextCell 10 = .ok (.ireturn, 1) := by decide +kernel
theorem dX3_nextCell_11 : decode cX3_nextCell 11 = .ok (.iconst 0, 1) := by decide +kernel
theorem dX3_nextCell_12 : decode cX3_nextCell 12 = .ok (.istore_n 2, 1) := by decide +kernel
theorem dX3_nextCell_13 : decode cX3_nextCell 13 = .ok (.iload_n 2, 1) := by decide +kernel
theorem dX3_nextCell_14 : decode cX3_nextCell 14 = .ok (.iconst 3, 1) := by decide +kernel
theorem dX3_nextCell_15 : decode cX3_nextCell 15 = .ok (.if_icmp .ge 66, 3) := by decide +kernel
theorem dX3_nextCell_18 : decode cX3_nextCell 18 = .ok (.aload_n 0, 1) := by decide +kernel
theorem dX3_nextCell_19 : decode cX3_nextCell 19 = .ok (.getfield 9, 3) := by decide +kernel
theorem dX3_nextCell_22 : decode cX3_nextCell 22 = .ok (.iconst 3, 1) := by decide +kernel
theorem dX3_nextCell_23 : decode cX3_nextCell 23 = .ok (.iload_n 1, 1) := by decide +kernel
theorem dX3_nextCell_24 : decode cX3_nextCell 24 = .ok (.imul, 1) := by decide +kernel
theorem dX3_nextCell_25 : decode cX3_nextCell 25 = .ok (.iload_n 2, 1) := by decide +kernel
theorem dX3_nextCell_26 : decode cX3_nextCell 26 = .ok (.iadd, 1) := by decide +kernel
theorem dX3_nextCell_27 : decode cX3_nextCell 27 = .ok (.iaload, 1) := by decide +kernel
theorem dX3_nextCell_28 : decode cX3_nextCell 28 = .ok (.istore_n 3, 1) := by decide +kernel
theorem dX3_nextCell_29 : decode cX3_nextCell 29 = .ok (.iload_n 3, 1) := by decide +kernel
theorem dX3_nextCell_30 : decode cX3_nextCell 30 = .ok (.ifCond .lt 45, 3) := by decide +kernel
theorem dX3_nextCell_33 : decode cX3_nextCell 33 = .ok (.aload_n 0, 1) := by decide +kernel
theorem dX3_nextCell_34 : decode cX3_nextCell 34 = .ok (.getfield 22, 3) := by decide +kernel
theorem dX3_nextCell_37 : decode cX3_nextCell 37 = .ok (.iload_n 3, 1) := by decide +kernel
theorem dX3_nextCell_38 : decode cX3_nextCell 38 = .ok (.iaload, 1) := by decide +kernel
theorem dX3_nextCell_39 : decode cX3_nextCell 39 = .ok (.ldc 114, 2) := by decide +kernel
theorem dX3_nextCell_41 : decode cX3_nextCell 41 = .ok (.if_icmp .ge 34, 3) := by decide +kernel
theorem dX3_nextCell_44 : decode cX3_nextCell 44 = .ok (.aload_n 0, 1) := by decide +kernel
theorem dX3_nextCell_45 : decode cX3_nextCell 45 = .ok (.getfield 22, 3) := by decide +kernel
theorem dX3_nextCell_48 : decode cX3_nextCell 48 = .ok (.iload_n 3, 1) := by decide +kernel
theorem dX3_nextCell_49 : decode cX3_nextCell 49 = .ok (.iaload, 1) := by decide +kernel
theorem dX3_nextCell_50 : decode cX3_nextCell 50 = .ok (.aload_n 0, 1) := by decide +kernel
theorem dX3_nextCell_51 : decode cX3_nextCell 51 = .ok (.getfield 19, 3) := by decide +kernel
theorem dX3_nextCell_54 : decode cX3_nextCell 54 = .ok (.iload_n 3, 1) := by decide +kernel
theorem dX3_nextCell_55 : decode cX3_nextCell 55 = .ok (.iaload, 1) := by decide +kernel
theorem dX3_nextCell_56 : decode cX3_nextCell 56 = .ok (.iadd, 1) := by decide +kernel
theorem dX3_nextCell_57 : decode cX3_nextCell 57 = .ok (.aload_n 0, 1) := by decide +kernel
theorem dX3_nextCell_58 : decode cX3_nextCell 58 = .ok (.iload_n 1, 1) := by decide +kernel
theorem dX3_nextCell_59 : decode cX3_nextCell 59 = .ok (.iload_n 2, 1) := by decide +kernel
theorem dX3_nextCell_60 : decode cX3_nextCell 60 = .ok (.invokevirtual 119, 3) := by decide +kernel
theorem dX3_nextCell_63 : decode cX3_nextCell 63 = .ok (.iadd, 1) := by decide +kernel
theorem dX3_nextCell_64 : decode cX3_nextCell 64 = .ok (.aload_n 0, 1) := by decide +kernel
theorem dX3_nextCell_65 : decode cX3_nextCell 65 = .ok (.getfield 22, 3) := by decide +kernel
theorem dX3_nextCell_68 : decode cX3_nextCell 68 = .ok (.iload_n 1, 1) := by decide +kernel
theorem dX3_nextCell_69 : decode cX3_nextCell 69 = .ok (.iaload, 1) := by decide +kernel
theorem dX3_nextCell_70 : decode cX3_nextCell 70 = .ok (.if_icmp .ne 5, 3) := by decide +kernel
theorem dX3_nextCell_73 : decode cX3_nextCell 73 = .ok (.iload_n 3, 1) := by decide +kernel
theorem dX3_nextCell_74 : decode cX3_nextCell 74 = .ok (.ireturn, 1) := by decide +kernel
theorem dX3_nextCell_75 : decode cX3_nextCell 75 = .ok (.iinc 2 1, 3) := by decide +kernel
theorem dX3_nextCell_78 : decode cX3_nextCell 78 = .ok (.goto (-65), 3) := by decide +kernel
theorem dX3_nextCell_81 : decode cX3_nextCell 81 = .ok (.iconst (-1), 1) := by decide +kernel
theorem dX3_nextCell_82 : decode cX3_nextCell 82 = .ok (.ireturn, 1) := by decide +kernel
abbrev rmX3_nextCell : Room := { frames := 1, cells := 0, slots := 0, locals := 23 }
set_option maxRecDepth 20000 in
theorem in_X3_nextCell_X3 : ∀ w ∈ wsX30, w ∈ wsX3_nextCell := by decide +kernel

set_option maxRecDepth 100000 in
set_option maxHeartbeats 4000000 in
theorem c_X3_nextCell {l : Launch} {g : Geo} {M : Nat → Nat → Int32} {P : Nat → Nat} {vc : Nat} (hvc : M 149 8 = nI vc) (hv : 1 ≤ vc ∧ vc ≤ 20) {D : Nat → Nat} (hD : ∀ a, a < 162 → M 153 a = nI (D a)) (hDl : ∀ a, a < 162 → D a ≤ 1000000) {tw : Nat → Option Nat} (hT : ∀ a, a < 162 → M 152 a = tollI (tw a)) (hw : ∀ a w, tw a = some w → w ≤ 59) {J : Nat → Bool} (hJ : ∀ a, a < 162 → M 151 a = bI (J a)) (hNb : Nbr M) (hDc : ∀ a, a < 162 → tw a = none → D a = 1000000) {a : Nat} (ha : a < 162) : Met l yX3_nextCell wsX3_nextCell rmX3_nextCell (cPre g [.ref (g.1 149), .int (nI a)] M P) (cQi g (fun r M' P' => (P = P' ∧ M = M') ∧ r = ngh (nxJ vc tw J D a))) 0 0 (gA g) := by
  refine met_i (cc := cX3_nextCell) (maxL := 4) (by decide) rfl ⟨rfl, rfl⟩ (Nat.le_of_ble_eq_true rfl) (fun x hx h hret => ?_)
  replace h : Cxk x g cX3_nextCell 4 wsX3_nextCell RX3 rmX3_nextCell := h
  show X x 0 [(0, .ref (g.1 149)), (1, .int (nI a))] [] M P
  refine x_aload_n h 0 dX3_nextCell_0 rfl rfl ?_
  refine xg_X3_1 h in_X3_nextCell_X3 (by decide +kernel) dX3_nextCell_1 ?_
  refine x_iload_n h 1 dX3_nextCell_4 rfl rfl ?_
  refine xl_151 h dX3_nextCell_5 (by omega) ?_
  refine x_top ((bI (J a))) (hJ a ha) ?_
  refine x_if_eq h 11 dX3_nextCell_6 (by decide) (fun c_6 => ?_) (fun c_6 => ?_)
  · -- 6 true
    refine x_iconst h (nI 0) dX3_nextCell_11 (by decide) ?_
    refine x_istore_n h [(2, .int (nI 0)), (0, .ref (g.1 149)), (1, .int (nI a))] dX3_nextCell_12 rfl (by decide) rfl ?_
    have L13 : ∀ (fu : Nat) (k : Nat), (3 - k) < fu → (k ≤ 3) → (∀ j, j < k → cndO vc tw D a j = none) → X x 13 [(0, .ref (g.1 149)), (1, .int (nI a)), (2, .int (nI k))] [] M P := by
      intro fu
      induction fu with
      | zero => intro k hmu13; exact absurd hmu13 (Nat.not_lt_zero _)
      | succ fu ih13 =>
        intro k hmu13 hk hno
        refine x_iload_n h 2 dX3_nextCell_13 rfl rfl ?_
        refine x_iconst h (nI 3) dX3_nextCell_14 (by decide) ?_
        refine x_icmp_ge_n h 81 dX3_nextCell_15 (by decide) (by first | omega | (have q1 := hDl a ha; omega) | (have q1 := hDl t htl; omega) | (have q1 := hDl t htl; have q2 := mv_le (k := k) (c := a) hv.2; omega)) (by decide) (fun c_15 => ?_) (fun c_15 => ?_)
        · -- 15 true
          refine x_iconst h ((-1)) dX3_nextCell_81 (by decide) ?_
          exact hret _ _ _ _ _ dX3_nextCell_82 (by refine ⟨⟨rfl, rfl⟩, ?_⟩; unfold nxJ; rw [if_neg (by rw [bI_0 c_6]; decide), nxtO_none (fun j hj => hno j (by omega))]; rfl)
        · -- 15 false
          refine x_aload_n h 0 dX3_nextCell_18 rfl rfl ?_
          refine xg_X3_0 h in_X3_nextCell_X3 (by decide +kernel) dX3_nextCell_19 ?_
          refine x_iconst h (nI 3) dX3_nextCell_22 (by decide) ?_
          refine x_iload_n h 1 dX3_nextCell_23 rfl rfl ?_
          refine x_imul_n h dX3_nextCell_24 ?_
          refine x_iload_n h 2 dX3_nextCell_25 rfl rfl ?_
          refine x_iadd_n h dX3_nextCell_26 ?_
          refine xl_150 h dX3_nextCell_27 (by omega) ?_
          refine x_top ((ngh (nb k a))) (hNb a k ha (by omega)) ?_
          refine x_istore_n h [(3, .int (ngh (nb k a))), (0, .ref (g.1 149)), (1, .int (nI a)), (2, .int (nI k))] dX3_nextCell_28 rfl (by decide) rfl ?_
          refine x_iload_n h 0 dX3_nextCell_29 rfl rfl ?_
          refine x_if_lt h 75 dX3_nextCell_30 (by decide) (fun c_30 => ?_) (fun c_30 => ?_)
          · -- 30 true
            refine x_iinc_n h 3 (n := 1) [(2, .int (nI (k + 1))), (3, .int (ngh (nb k a))), (0, .ref (g.1 149)), (1, .int (nI a))] dX3_nextCell_75 rfl (by decide) rfl ?_
            refine x_goto h 13 dX3_nextCell_78 (by decide) ?_
            exact x_lv (ih13 (k + 1) (by omega) (by omega) (by (intro j hj; rcases Nat.lt_succ_iff_lt_or_eq.mp hj with e | rfl; exact hno j e; unfold cndO; first | (rw [ngh_neg c_30 (fun t e => by have := nb_lt ha e; omega)]) | (rw [ht]; dsimp only; cases hq : tw t with | none => rfl | some w2 => dsimp only; rw [if_neg (by rintro ⟨q1, q2⟩; first | omega | (rw [hq] at hwt; cases hwt; exact c_70 q2))])))) [2, 3, 0] rfl
          · -- 30 false
            obtain ⟨t, ht⟩ := ngh_pos c_30
            have htl := nb_lt ha ht
            rw [ht]
            refine x_lv (lv' := [(3, .int (nI t)), (0, .ref (g.1 149)), (1, .int (nI a)), (2, .int (nI k))]) ?_ [0, 1, 2, 3] rfl
            refine x_aload_n h 1 dX3_nextCell_33 rfl rfl ?_
            refine xg_X3_3 h in_X3_nextCell_X3 (by decide +kernel) dX3_nextCell_34 ?_
            refine x_iload_n h 0 dX3_nextCell_37 rfl rfl ?_
            refine xl_153 h dX3_nextCell_38 (by omega) ?_
            refine x_top (nI (D t)) (hD t htl) ?_
            refine x_ldc h (nI 1000000) (by decide +kernel) dX3_nextCell_39 ?_
            refine x_icmp_ge_n h 75 dX3_nextCell_41 (by decide) (by first | omega | (have q1 := hDl a ha; omega) | (have q1 := hDl t htl; omega) | (have q1 := hDl t htl; have q2 := mv_le (k := k) (c := a) hv.2; omega)) (by decide) (fun c_41 => ?_) (fun c_41 => ?_)
            · -- 41 true
              refine x_iinc_n h 3 (n := 1) [(2, .int (nI (k + 1))), (3, .int (nI t)), (0, .ref (g.1 149)), (1, .int (nI a))] dX3_nextCell_75 rfl (by decide) rfl ?_
              refine x_goto h 13 dX3_nextCell_78 (by decide) ?_
              exact x_lv (ih13 (k + 1) (by omega) (by omega) (by (intro j hj; rcases Nat.lt_succ_iff_lt_or_eq.mp hj with e | rfl; exact hno j e; unfold cndO; first | (rw [ngh_neg c_30 (fun t e => by have := nb_lt ha e; omega)]) | (rw [ht]; dsimp only; cases hq : tw t with | none => rfl | some w2 => dsimp only; rw [if_neg (by rintro ⟨q1, q2⟩; first | omega | (rw [hq] at hwt; cases hwt; exact c_70 q2))])))) [2, 3, 0] rfl
            · -- 41 false
              obtain ⟨w, hwt⟩ : ∃ w, tw t = some w := Option.ne_none_iff_exists'.mp (fun e => by have := hDc t htl e; omega)
              have hw59 := hw t w hwt
              refine x_aload_n h 1 dX3_nextCell_44 rfl rfl ?_
              refine xg_X3_3 h in_X3_nextCell_X3 (by decide +kernel) dX3_nextCell_45 ?_
              refine x_iload_n h 0 dX3_nextCell_48 rfl rfl ?_
              refine xl_153 h dX3_nextCell_49 (by omega) ?_
              refine x_top (nI (D t)) (hD t htl) ?_
              refine x_aload_n h 1 dX3_nextCell_50 rfl rfl ?_
              refine xg_X3_2 h in_X3_nextCell_X3 (by decide +kernel) dX3_nextCell_51 ?_
              refine x_iload_n h 0 dX3_nextCell_54 rfl rfl ?_
              refine xl_152 h dX3_nextCell_55 (by omega) ?_
              refine x_top (nI w) (by rw [hT t htl, hwt]; rfl) ?_
              refine x_iadd_n h dX3_nextCell_56 ?_
              refine x_aload_n h 1 dX3_nextCell_57 rfl rfl ?_
              refine x_iload_n h 2 dX3_nextCell_58 rfl rfl ?_
              refine x_iload_n h 3 dX3_nextCell_59 rfl rfl ?_
              refine x_callV h (As := [.int (nI a), .int (nI k)]) 2 hx (c_X3_moveCost hvc (by omega) (by omega)) gX3_nextCell_X3_moveCost rfl ⟨rfl, rfl⟩ (by decide +kernel) rfl (by decide) (by decide) E_149 rfl rfl (Nat.le_of_ble_eq_true rfl) dX3_nextCell_60 (fun rv M' P' hp => ?_)
              obtain ⟨⟨rfl, rfl⟩, rfl⟩ := hp
              refine x_iadd_n h dX3_nextCell_63 ?_
              refine x_aload_n h 1 dX3_nextCell_64 rfl rfl ?_
              refine xg_X3_3 h in_X3_nextCell_X3 (by decide +kernel) dX3_nextCell_65 ?_
              refine x_iload_n h 2 dX3_nextCell_68 rfl rfl ?_
              refine xl_153 h dX3_nextCell_69 (by omega) ?_
              refine x_top (nI (D a)) (hD a ha) ?_
              refine x_icmp_ne_n h 75 dX3_nextCell_70 (by decide) (by first | omega | (have q1 := hDl a ha; omega) | (have q1 := hDl t htl; omega) | (have q1 := hDl t htl; have q2 := mv_le (k := k) (c := a) hv.2; omega)) (by first | omega | (have q1 := hDl a ha; omega) | (have q1 := hDl t htl; omega) | (have q1 := hDl t htl; have q2 := mv_le (k := k) (c := a) hv.2; omega)) (fun c_70 => ?_) (fun c_70 => ?_)
              · -- 70 true
                refine x_iinc_n h 3 (n := 1) [(2, .int (nI (k + 1))), (3, .int (nI t)), (0, .ref (g.1 149)), (1, .int (nI a))] dX3_nextCell_75 rfl (by decide) rfl ?_
                refine x_goto h 13 dX3_nextCell_78 (by decide) ?_
                exact x_lv (ih13 (k + 1) (by omega) (by omega) (by (intro j hj; rcases Nat.lt_succ_iff_lt_or_eq.mp hj with e | rfl; exact hno j e; unfold cndO; first | (rw [ngh_neg c_30 (fun t e => by have := nb_lt ha e; omega)]) | (rw [ht]; dsimp only; cases hq : tw t with | none => rfl | some w2 => dsimp only; rw [if_neg (by rintro ⟨q1, q2⟩; first | omega | (rw [hq] at hwt; cases hwt; exact c_70 q2))])))) [2, 3, 0] rfl
              · -- 70 false
                refine x_iload_n h 0 dX3_nextCell_73 rfl rfl ?_
                exact hret _ _ _ _ _ dX3_nextCell_74 (by refine ⟨⟨rfl, rfl⟩, ?_⟩; unfold nxJ; rw [if_neg (by rw [bI_0 c_6]; decide), nxtO_k (k := k) (t := t) (by omega) (by unfold cndO; rw [ht]; dsimp only; rw [hwt]; dsimp only; rw [if_pos ⟨by omega, c_70⟩]) hno]; rfl)
    exact x_lv (L13 _ 0 (Nat.lt_succ_self _) (by omega) (by exact fun j hj => absurd hj (Nat.not_lt_zero j))) [1, 2, 0] rfl
  · -- 6 false
    refine x_iconst h ((-1)) dX3_nextCell_9 (by decide) ?_
    exact hret _ _ _ _ _ dX3_nextCell_10 (by refine ⟨⟨rfl, rfl⟩, ?_⟩; unfold nxJ; rw [if_pos (bI_1 c_6)]; rfl)

set_option maxRecDepth 20000 in
theorem ggX3_addCell_X0_hasNet : GoodIn wsX3_addCell wsX0_hasNet := goodIn_r _ [12, 13, 29, 30, 31, 32, 33, 34, 35, 36] (by decide +kernel) (by decide +kernel)
set_option maxRecDepth 20000 in
theorem gX3_addCell_X0_hasNet : GoodIn wsX3_addCell (wsV RX3 51 RX0 yX0_hasNet wsX0_hasNet) := goodIn_app (goodIn_of _ (by decide +kernel)) ggX3_addCell_X0_hasNet
theorem dX3_addCell_0 : decode cX3_addCell 0 = .ok (.aload_n 0, 1) := by decide +kernel
theorem dX3_addCell_1 : decode cX3_addCell 1 = .ok (.getfield 37, 3) := by decide +kernel
theorem dX3_addCell_4 : decode cX3_addCell 4 = .ok (.aload_n 0, 1) := by decide +kernel
theorem dX3_addCell_5 : decode cX3_addCell 5 = .ok (.getfield 31, 3) := by decide +kernel
theorem dX3_addCell_8 : decode cX3_addCell 8 = .ok (.arraylength, 1) := by decide +kernel
theorem dX3_addCell_9 : decode cX3_addCell 9 = .ok (.if_icmp .lt 4, 3) := by decide +kernel
theorem dX3_addCell_12 : decode cX3_addCell 12 = .ok (.return_, 1) := by decide +kernel
theorem dX3_addCell_13 : decode cX3_addCell 13 = .ok (.aload_n 0, 1) := by decide +kernel
theorem dX3_addCell_14 : decode cX3_addCell 14 = .ok (.getfield 31, 3) := by decide +kernel
theorem dX3_addCell_17 : decode cX3_addCell 17 = .ok (.aload_n 0, 1) := by decide +kernel
theorem dX3_addCell_18 : decode cX3_addCell 18 = .ok (.getfield 37, 3) := by decide +kernel
theorem dX3_addCell_21 : decode cX3_addCell 21 = .ok (.iload_n 2, 1) := by decide +kernel
theorem dX3_addCell_22 : decode cX3_addCell 22 = .ok (.iastore, 1) := by decide +kernel
theorem dX3_addCell_23 : decode cX3_addCell 23 = .ok (.aload_n 0, 1) := by decide +kernel
theorem dX3_addCell_24 : decode cX3_addCell 24 = .ok (.dup, 1) := by decide +kernel
theorem dX3_addCell_25 : decode cX3_addCell 25 = .ok (.getfield 37, 3) := by decide +kernel
theorem dX3_addCell_28 : decode cX3_addCell 28 = .ok (.iconst 1, 1) := by decide +kernel
theorem dX3_addCell_29 : decode cX3_addCell 29 = .ok (.iadd, 1) := by decide +kernel
theorem dX3_addCell_30 : decode cX3_addCell 30 = .ok (.putfield 37, 3) := by decide +kernel
theorem dX3_addCell_33 : decode cX3_addCell 33 = .ok (.aload_n 1, 1) := by decide +kernel
theorem dX3_addCell_34 : decode cX3_addCell 34 = .ok (.getfield 123, 3) := by decide +kernel
theorem dX3_addCell_37 : decode cX3_addCell 37 = .ok (.iload_n 2, 1) := by decide +kernel
theorem dX3_addCell_38 : decode cX3_addCell 38 = .ok (.iaload, 1) := by decide +kernel
theorem dX3_addCell_39 : decode cX3_addCell 39 = .ok (.istore_n 3, 1) := by decide +kernel
theorem dX3_addCell_40 : decode cX3_addCell 40 = .ok (.aload_n 1, 1) := by decide +kernel
theorem dX3_addCell_41 : decode cX3_addCell 41 = .ok (.iload_n 3, 1) := by decide +kernel
theorem dX3_addCell_42 : decode cX3_addCell 42 = .ok (.invokevirtual 51, 3) := by decide +kernel
theorem dX3_addCell_45 : decode cX3_addCell 45 = .ok (.ifCond .eq 45, 3) := by decide +kernel
theorem dX3_addCell_48 : decode cX3_addCell 48 = .ok (.aload_n 0, 1) := by decide +kernel
theorem dX3_addCell_49 : decode cX3_addCell 49 = .ok (.dup, 1) := by decide +kernel
theorem dX3_addCell_50 : decode cX3_addCell 50 = .ok (.getfield 48, 3) := by decide +kernel
theorem dX3_addCell_53 : decode cX3_addCell 53 = .ok (.iconst 1, 1) := by decide +kernel
theorem dX3_addCell_54 : decode cX3_addCell 54 = .ok (.iload_n 3, 1) := by decide +kernel
theorem dX3_addCell_55 : decode cX3_addCell 55 = .ok (.ishl, 1) := by decide +kernel
theorem dX3_addCell_56 : decode cX3_addCell 56 = .ok (.ior, 1) := by decide +kernel
theorem dX3_addCell_57 : decode cX3_addCell 57 = .ok (.putfield 48, 3) := by decide +kernel
theorem dX3_addCell_60 : decode cX3_addCell 60 = .ok (.aload_n 0, 1) := by decide +kernel
theorem dX3_addCell_61 : decode cX3_addCell 61 = .ok (.getfield 34, 3) := by decide +kernel
theorem dX3_addCell_64 : decode cX3_addCell 64 = .ok (.iload_n 3, 1) := by decide +kernel
theorem dX3_addCell_65 : decode cX3_addCell 65 = .ok (.dup2, 1) := by decide +kernel
theorem dX3_addCell_66 : decode cX3_addCell 66 = .ok (.iaload, 1) := by decide +kernel
theorem dX3_addCell_67 : decode cX3_addCell 67 = .ok (.aload_n 0, 1) := by decide +kernel
theorem dX3_addCell_68 : decode cX3_addCell 68 = .ok (.getfield 19, 3) := by decide +kernel
theorem dX3_addCell_71 : decode cX3_addCell 71 = .ok (.iload_n 2, 1) := by decide +kernel
theorem dX3_addCell_72 : decode cX3_addCell 72 = .ok (.iaload, 1) := by decide +kernel
theorem dX3_addCell_73 : decode cX3_addCell 73 = .ok (.iadd, 1) := by decide +kernel
theorem dX3_addCell_74 : decode cX3_addCell 74 = .ok (.iastore, 1) := by decide +kernel
theorem dX3_addCell_75 : decode cX3_addCell 75 = .ok (.aload_n 0, 1) := by decide +kernel
theorem dX3_addCell_76 : decode cX3_addCell 76 = .ok (.dup, 1) := by decide +kernel
theorem dX3_addCell_77 : decode cX3_addCell 77 = .ok (.getfield 45, 3) := by decide +kernel
theorem dX3_addCell_80 : decode cX3_addCell 80 = .ok (.aload_n 0, 1) := by decide +kernel
theorem dX3_addCell_81 : decode cX3_addCell 81 = .ok (.getfield 19, 3) := by decide +kernel
theorem dX3_addCell_84 : decode cX3_addCell 84 = .ok (.iload_n 2, 1) := by decide +kernel
theorem dX3_addCell_85 : decode cX3_addCell 85 = .ok (.iaload, 1) := by decide +kernel
theorem dX3_addCell_86 : decode cX3_addCell 86 = .ok (.iadd, 1) := by decide +kernel
theorem dX3_addCell_87 : decode cX3_addCell 87 = .ok (.putfield 45, 3) := by decide +kernel
theorem dX3_addCell_90 : decode cX3_addCell 90 = .ok (.return_, 1) := by decide +kernel
abbrev rmX3_addCell : Room := { frames := 1, cells := 0, slots := 0, locals := 21 }
set_option maxRecDepth 20000 in
theorem in_X3_addCell_X0 : ∀ w ∈ wsX00, w ∈ wsX3_addCell := by decide +kernel
set_option maxRecDepth 20000 in
theorem in_X3_addCell_X3 : ∀ w ∈ wsX30, w ∈ wsX3_addCell := by decide +kernel

set_option maxRecDepth 100000 in
set_option maxHeartbeats 4000000 in
theorem c_X3_addCell {l : Launch} {g : Geo} {M : Nat → Nat → Int32} {P : Nat → Nat} {c : Nat} (hc : c < 6) {N : Nat} (hN : M c 5 = nI N) (hN6 : N ≤ 6) {L : List Nat} {acc : Acc} {w a : Nat} (hL : L.length < 324) (hR : RtM M L acc) (ha : a < 162) (hwa : M 152 a = nI w) : Met l yX3_addCell wsX3_addCell rmX3_addCell (cPre g [.ref (g.1 149), .ref (g.1 (24 * c)), .int (nI a)] M P) (cQv g (fun M' P' => P = P' ∧ FrA M M' ∧ RtM M' (L ++ [a]) (accS (M c) N w a acc))) 0 0 (gA g) := by
  refine met_v (cc := cX3_addCell) (maxL := 4) (by decide) rfl ⟨rfl, rfl⟩ (Nat.le_of_ble_eq_true rfl) (fun x hx h hret => ?_)
  replace h : Cxk x g cX3_addCell 4 wsX3_addCell RX3 rmX3_addCell := h
  show X x 0 [(0, .ref (g.1 149)), (1, .ref (g.1 (24 * c))), (2, .int (nI a))] [] M P
  refine x_aload_n h 0 dX3_addCell_0 rfl rfl ?_
  refine xg_X3_11 h in_X3_addCell_X3 (by decide +kernel) dX3_addCell_1 ?_
  refine x_top (nI L.length) (hR.1) ?_
  refine x_aload_n h 0 dX3_addCell_4 rfl rfl ?_
  refine xg_X3_9 h in_X3_addCell_X3 (by decide +kernel) dX3_addCell_5 ?_
  refine xn_156 h dX3_addCell_8 ?_
  refine x_icmp_lt_n h 13 dX3_addCell_9 (by decide) (by omega) (by decide) (fun c_9 => ?_) (fun c_9 => by omega)
  refine x_aload_n h 0 dX3_addCell_13 rfl rfl ?_
  refine xg_X3_9 h in_X3_addCell_X3 (by decide +kernel) dX3_addCell_14 ?_
  refine x_aload_n h 0 dX3_addCell_17 rfl rfl ?_
  refine xg_X3_11 h in_X3_addCell_X3 (by decide +kernel) dX3_addCell_18 ?_
  refine x_top (nI L.length) (hR.1) ?_
  refine x_iload_n h 2 dX3_addCell_21 rfl rfl ?_
  refine xs_156 h dX3_addCell_22 (by omega) ?_
  refine x_aload_n h 0 dX3_addCell_23 rfl rfl ?_
  refine x_dup h dX3_addCell_24 rfl ?_
  refine xg_X3_11 h in_X3_addCell_X3 (by decide +kernel) dX3_addCell_25 ?_
  refine x_top (nI L.length) (by rw [st2_n _ _ _ (by decide)]; exact hR.1) ?_
  refine x_iconst h (nI 1) dX3_addCell_28 (by decide) ?_
  refine x_iadd_n h dX3_addCell_29 ?_
  refine xp_X3_11 h in_X3_addCell_X3 (by decide +kernel) dX3_addCell_30 ?_
  refine x_aload_n h 1 dX3_addCell_33 rfl rfl ?_
  refine xg_X0_1 h hc in_X3_addCell_X0 (by decide +kernel) dX3_addCell_34 ?_
  refine x_iload_n h 2 dX3_addCell_37 rfl rfl ?_
  refine xl_own h hc dX3_addCell_38 (by omega) ?_
  refine x_top ((M c (7 + a))) (by rw [st2_n _ _ _ (by omega), st2_n _ _ _ (by omega)]) ?_
  refine x_istore_n h [(3, .int (M c (7 + a))), (0, .ref (g.1 149)), (1, .ref (g.1 (24 * c))), (2, .int (nI a))] dX3_addCell_39 rfl (by decide) rfl ?_
  refine x_aload_n h 2 dX3_addCell_40 rfl rfl ?_
  refine x_iload_n h 0 dX3_addCell_41 rfl rfl ?_
  refine x_callV h (As := [.int (M c (7 + a))]) 1 hx (c_X0_hasNet hc (by rw [st2_n _ _ _ (by omega), st2_n _ _ _ (by omega)]; exact hN) hN6) gX3_addCell_X0_hasNet rfl ⟨rfl, rfl⟩ (by decide +kernel) rfl (by decide) (hk_chip hc) (E_chip hc) rfl rfl (Nat.le_of_ble_eq_true rfl) dX3_addCell_42 (fun rv M' P' hp => ?_)
  obtain ⟨⟨rfl, rfl⟩, hp⟩ := hp
  rcases hp with ⟨⟨k42, hk42, ek42⟩, rfl⟩ | ⟨nk42, rfl⟩
  · -- call 42
    refine x_if_eq h 90 dX3_addCell_45 (by decide) (fun c => absurd c (by decide)) (fun _ => ?_)
    rw [ek42]
    refine x_aload_n h 1 dX3_addCell_48 rfl rfl ?_
    refine x_dup h dX3_addCell_49 rfl ?_
    refine xg_X3_14 h in_X3_addCell_X3 (by decide +kernel) dX3_addCell_50 ?_
    refine x_top (acc.1) (by rw [st2_k, pk_un (by decide), st2_n _ _ _ (by decide)]; exact hR.2.2.1) ?_
    refine x_iconst h (nI 1) dX3_addCell_53 (by decide) ?_
    refine x_iload_n h 0 dX3_addCell_54 rfl rfl ?_
    refine x_ishl h dX3_addCell_55 ?_
    refine x_ior h dX3_addCell_56 ?_
    refine xp_X3_14 h in_X3_addCell_X3 (by decide +kernel) dX3_addCell_57 ?_
    refine x_aload_n h 1 dX3_addCell_60 rfl rfl ?_
    refine xg_X3_10 h in_X3_addCell_X3 (by decide +kernel) dX3_addCell_61 ?_
    refine x_iload_n h 0 dX3_addCell_64 rfl rfl ?_
    refine x_dup2 h dX3_addCell_65 rfl rfl ?_
    refine xl_157 h dX3_addCell_66 (by omega) ?_
    refine x_top ((acc.2.2 k42)) (by rw [st2_n _ _ _ (by decide), st2_n _ _ _ (by decide), st2_n _ _ _ (by decide), hR.2.2.2.2 k42 (by omega)]) ?_
    refine x_aload_n h 1 dX3_addCell_67 rfl rfl ?_
    refine xg_X3_2 h in_X3_addCell_X3 (by decide +kernel) dX3_addCell_68 ?_
    refine x_iload_n h 3 dX3_addCell_71 rfl rfl ?_
    refine xl_152 h dX3_addCell_72 (by omega) ?_
    refine x_top (nI w) (by rw [st2_n _ _ _ (by decide), st2_n _ _ _ (by decide), st2_n _ _ _ (by decide)]; exact hwa) ?_
    refine x_iadd h dX3_addCell_73 ?_
    refine xs_157 h dX3_addCell_74 (by omega) ?_
    refine x_aload_n h 1 dX3_addCell_75 rfl rfl ?_
    refine x_dup h dX3_addCell_76 rfl ?_
    refine xg_X3_13 h in_X3_addCell_X3 (by decide +kernel) dX3_addCell_77 ?_
    refine x_top (acc.2.1) (by rw [st2_n _ _ _ (by decide), st2_k, pk_un (by decide), st2_k, pk_un (by decide), st2_n _ _ _ (by decide)]; exact hR.2.2.2.1) ?_
    refine x_aload_n h 1 dX3_addCell_80 rfl rfl ?_
    refine xg_X3_2 h in_X3_addCell_X3 (by decide +kernel) dX3_addCell_81 ?_
    refine x_iload_n h 3 dX3_addCell_84 rfl rfl ?_
    refine xl_152 h dX3_addCell_85 (by omega) ?_
    refine x_top (nI w) (by rw [st2_n _ _ _ (by decide), st2_n _ _ _ (by decide), st2_n _ _ _ (by decide), st2_n _ _ _ (by decide)]; exact hwa) ?_
    refine x_iadd h dX3_addCell_86 ?_
    refine xp_X3_13 h in_X3_addCell_X3 (by decide +kernel) dX3_addCell_87 ?_
    exact hret _ _ _ _ dX3_addCell_90 (by refine ⟨rfl, FrA_tr (FrA_tr (FrA_a _ _ _ (Or.inl rfl)) (FrA_o _ _ (Or.inl rfl))) (FrA_tr (FrA_tr (FrA_o _ _ (Or.inr (Or.inr rfl))) (FrA_a _ _ _ (Or.inr rfl))) (FrA_o _ _ (Or.inr (Or.inl rfl)))), ?_⟩; exact RtM_add1 (RtM_add0 hR a) hk42 (by omega) ek42)
  · -- call 42
    refine x_if_eq h 90 dX3_addCell_45 (by decide) (fun _ => ?_) (fun c => absurd (by decide) c)
    exact hret _ _ _ _ dX3_addCell_90 (by refine ⟨rfl, FrA_tr (FrA_a _ _ _ (Or.inl rfl)) (FrA_o _ _ (Or.inl rfl)), ?_⟩; unfold accS; rw [if_neg nk42]; exact RtM_add0 hR a)

theorem dX3_joinPlace_0 : decode cX3_joinPlace 0 = .ok (.iload_n 1, 1) := by decide +kernel
theorem dX3_joinPlace_1 : decode cX3_joinPlace 1 = .ok (.ifCond .lt 26, 3) := by decide +kernel
theorem dX3_joinPlace_4 : decode cX3_joinPlace 4 = .ok (.iload_n 1, 1) := by decide +kernel
theorem dX3_joinPlace_5 : decode cX3_joinPlace 5 = .ok (.bipush 81, 2) := by decide +kernel
theorem dX3_joinPlace_7 : decode cX3_joinPlace 7 = .ok (.if_icmp .ge 20, 3) := by decide +kernel
theorem dX3_joinPlace_10 : decode cX3_joinPlace 10 = .ok (.aload_n 0, 1) := by decide +kernel
theorem dX3_joinPlace_11 : decode cX3_joinPlace 11 = .ok (.getfield 15, 3) := by decide +kernel
theorem dX3_joinPlace_14 : decode cX3_joinPlace 14 = .ok (.iload_n 1, 1) := by decide +kernel
theorem dX3_joinPlace_15 : decode cX3_joinPlace 15 = .ok (.iconst 1, 1) := by decide +kernel
theorem dX3_joinPlace_16 : decode cX3_joinPlace 16 = .ok (.bastore, 1) := by decide +kernel
theorem dX3_joinPlace_17 : decode cX3_joinPlace 17 = .ok (.aload_n 0, 1) := by decide +kernel
theorem dX3_joinPlace_18 : decode cX3_joinPlace 18 = .ok (.getfield 15, 3) := by decide +kernel
theorem dX3_joinPlace_21 : decode cX3_joinPlace 21 = .ok (.iload_n 1, 1) := by decide +kernel
theorem dX3_joinPlace_22 : decode cX3_joinPlace 22 = .ok (.bipush 81, 2) := by decide +kernel
theorem dX3_joinPlace_24 : decode cX3_joinPlace 24 = .ok (.iadd, 1) := by decide +kernel
theorem dX3_joinPlace_25 : decode cX3_joinPlace 25 = .ok (.iconst 1, 1) := by decide +kernel
theorem dX3_joinPlace_26 : decode cX3_joinPlace 26 = .ok (.bastore, 1) := by decide +kernel
theorem dX3_joinPlace_27 : decode cX3_joinPlace 27 = .ok (.return_, 1) := by decide +kernel
abbrev rmX3_joinPlace : Room := { frames := 0, cells := 0, slots := 0, locals := 0 }
set_option maxRecDepth 20000 in
theorem in_X3_joinPlace_X3 : ∀ w ∈ wsX30, w ∈ wsX3_joinPlace := by decide +kernel

set_option maxRecDepth 100000 in
set_option maxHeartbeats 4000000 in
theorem c_X3_joinPlace {l : Launch} {g : Geo} {M : Nat → Nat → Int32} {P : Nat → Nat} {p : Nat} (hp : p < 81) : Met l yX3_joinPlace wsX3_joinPlace rmX3_joinPlace (cPre g [.ref (g.1 149), .int (nI p)] M P) (cQv g (fun M' P' => P = P' ∧ M' = st2 (st2 M 151 p (nI 1)) 151 (p + 81) (nI 1))) 0 0 (gA g) := by
  refine met_v (cc := cX3_joinPlace) (maxL := 2) (by decide) rfl ⟨rfl, rfl⟩ (Nat.le_of_ble_eq_true rfl) (fun x hx h hret => ?_)
  replace h : Cxk x g cX3_joinPlace 2 wsX3_joinPlace RX3 rmX3_joinPlace := h
  show X x 0 [(0, .ref (g.1 149)), (1, .int (nI p))] [] M P
  refine x_iload_n h 1 dX3_joinPlace_0 rfl rfl ?_
  refine x_if_lt_n h 27 dX3_joinPlace_1 (by decide) (by omega) ?_
  refine x_iload_n h 1 dX3_joinPlace_4 rfl rfl ?_
  refine x_bipush h (nI 81) dX3_joinPlace_5 (by decide) ?_
  refine x_icmp_ge_n h 27 dX3_joinPlace_7 (by decide) (by omega) (by decide) (fun c_7 => by omega) (fun c_7 => ?_)
  refine x_aload_n h 0 dX3_joinPlace_10 rfl rfl ?_
  refine xg_X3_1 h in_X3_joinPlace_X3 (by decide +kernel) dX3_joinPlace_11 ?_
  refine x_iload_n h 1 dX3_joinPlace_14 rfl rfl ?_
  refine x_iconst h (nI 1) dX3_joinPlace_15 (by decide) ?_
  refine xs_151 h dX3_joinPlace_16 (by decide) (by omega) ?_
  refine x_aload_n h 0 dX3_joinPlace_17 rfl rfl ?_
  refine xg_X3_1 h in_X3_joinPlace_X3 (by decide +kernel) dX3_joinPlace_18 ?_
  refine x_iload_n h 1 dX3_joinPlace_21 rfl rfl ?_
  refine x_bipush h (nI 81) dX3_joinPlace_22 (by decide) ?_
  refine x_iadd_n h dX3_joinPlace_24 ?_
  refine x_iconst h (nI 1) dX3_joinPlace_25 (by decide) ?_
  refine xs_151 h dX3_joinPlace_26 (by decide) (by omega) ?_
  exact hret _ _ _ _ dX3_joinPlace_27 (by exact ⟨rfl, rfl⟩)

set_option maxRecDepth 20000 in
theorem ggX3_joinCell_X3_joinPlace : GoodIn wsX3_joinCell wsX3_joinPlace := goodIn_r _ [8, 1, 9, 10, 11, 12, 13, 14, 15, 16, 17, 18, 19, 20, 21, 22, 23] (by decide +kernel) (by decide +kernel)
set_option maxRecDepth 20000 in
theorem gX3_joinCell_X3_joinPlace : GoodIn wsX3_joinCell (wsV RX3 76 RX3 yX3_joinPlace wsX3_joinPlace) := goodIn_app (goodIn_of _ (by decide +kernel)) ggX3_joinCell_X3_joinPlace
theorem dX3_joinCell_0 : decode cX3_joinCell 0 = .ok (.aload_n 0, 1) := by decide +kernel
theorem dX3_joinCell_1 : decode cX3_joinCell 1 = .ok (.getfield 15, 3) := by decide +kernel
theorem dX3_joinCell_4 : decode cX3_joinCell 4 = .ok (.iload_n 3, 1) := by decide +kernel
theorem dX3_joinCell_5 : decode cX3_joinCell 5 = .ok (.iconst 1, 1) := by decide +kernel
theorem dX3_joinCell_6 : decode cX3_joinCell 6 = .ok (.bastore, 1) := by decide +kernel
theorem dX3_joinCell_7 : decode cX3_joinCell 7 = .ok (.aload_n 0, 1) := by decide +kernel
theorem dX3_joinCell_8 : decode cX3_joinCell 8 = .ok (.getfield 19, 3) := by decide +kernel
theorem dX3_joinCell_11 : decode cX3_joinCell 11 = .ok (.iload_n 3, 1) := by decide +kernel
theorem dX3_joinCell_12 : decode cX3_joinCell 12 = .ok (.iconst 0, 1) := by decide +kernel
theorem dX3_joinCell_13 : decode cX3_joinCell 13 = .ok (.iastore, 1) := by decide +kernel
theorem dX3_joinCell_14 : decode cX3_joinCell 14 = .ok (.aload_n 1, 1) := by decide +kernel
theorem dX3_joinCell_15 : decode cX3_joinCell 15 = .ok (.getfield 123, 3) := by decide +kernel
theorem dX3_joinCell_18 : decode cX3_joinCell 18 = .ok (.iload_n 3, 1) := by decide +kernel
theorem dX3_joinCell_19 : decode cX3_joinCell 19 = .ok (.iaload, 1) := by decide +kernel
theorem dX3_joinCell_20 : decode cX3_joinCell 20 = .ok (.bipush 10, 2) := by decide +kernel
theorem dX3_joinCell_22 : decode cX3_joinCell 22 = .ok (.iload_n 2, 1) := by decide +kernel
theorem dX3_joinCell_23 : decode cX3_joinCell 23 = .ok (.iadd, 1) := by decide +kernel
theorem dX3_joinCell_24 : decode cX3_joinCell 24 = .ok (.if_icmp .ne 11, 3) := by decide +kernel
theorem dX3_joinCell_27 : decode cX3_joinCell 27 = .ok (.aload_n 0, 1) := by decide +kernel
theorem dX3_joinCell_28 : decode cX3_joinCell 28 = .ok (.iload_n 3, 1) := by decide +kernel
theorem dX3_joinCell_29 : decode cX3_joinCell 29 = .ok (.bipush 81, 2) := by decide +kernel
theorem dX3_joinCell_31 : decode cX3_joinCell 31 = .ok (.irem, 1) := by decide +kernel
theorem dX3_joinCell_32 : decode cX3_joinCell 32 = .ok (.invokevirtual 76, 3) := by decide +kernel
theorem dX3_joinCell_35 : decode cX3_joinCell 35 = .ok (.return_, 1) := by decide +kernel
abbrev rmX3_joinCell : Room := { frames := 1, cells := 0, slots := 0, locals := 21 }
set_option maxRecDepth 20000 in
theorem in_X3_joinCell_X0 : ∀ w ∈ wsX00, w ∈ wsX3_joinCell := by decide +kernel
set_option maxRecDepth 20000 in
theorem in_X3_joinCell_X3 : ∀ w ∈ wsX30, w ∈ wsX3_joinCell := by decide +kernel

set_option maxRecDepth 100000 in
set_option maxHeartbeats 4000000 in
theorem c_X3_joinCell {l : Launch} {g : Geo} {M : Nat → Nat → Int32} {P : Nat → Nat} {c : Nat} (hc : c < 6) {J : Nat → Bool} (hJ : ∀ a, a < 162 → M 151 a = bI (J a)) {n a : Nat} (ha : a < 162) : Met l yX3_joinCell wsX3_joinCell rmX3_joinCell (cPre g [.ref (g.1 149), .ref (g.1 (24 * c)), .int (nI n), .int (nI a)] M P) (cQv g (fun M' P' => P = P' ∧ (∀ k, k ≠ 151 → k ≠ 152 → M' k = M k) ∧ (∀ b, b < 162 → M' 151 b = bI (joinB (M c) (nI (10 + n)) J a b)) ∧ M' 152 = upd (M 152) a (nI 0))) 0 0 (gA g) := by
  refine met_v (cc := cX3_joinCell) (maxL := 4) (by decide) rfl ⟨rfl, rfl⟩ (Nat.le_of_ble_eq_true rfl) (fun x hx h hret => ?_)
  replace h : Cxk x g cX3_joinCell 4 wsX3_joinCell RX3 rmX3_joinCell := h
  show X x 0 [(0, .ref (g.1 149)), (1, .ref (g.1 (24 * c))), (2, .int (nI n)), (3, .int (nI a))] [] M P
  refine x_aload_n h 0 dX3_joinCell_0 rfl rfl ?_
  refine xg_X3_1 h in_X3_joinCell_X3 (by decide +kernel) dX3_joinCell_1 ?_
  refine x_iload_n h 3 dX3_joinCell_4 rfl rfl ?_
  refine x_iconst h (nI 1) dX3_joinCell_5 (by decide) ?_
  refine xs_151 h dX3_joinCell_6 (by decide) (by omega) ?_
  refine x_aload_n h 0 dX3_joinCell_7 rfl rfl ?_
  refine xg_X3_2 h in_X3_joinCell_X3 (by decide +kernel) dX3_joinCell_8 ?_
  refine x_iload_n h 3 dX3_joinCell_11 rfl rfl ?_
  refine x_iconst h (nI 0) dX3_joinCell_12 (by decide) ?_
  refine xs_152 h dX3_joinCell_13 (by omega) ?_
  refine x_aload_n h 1 dX3_joinCell_14 rfl rfl ?_
  refine xg_X0_1 h hc in_X3_joinCell_X0 (by decide +kernel) dX3_joinCell_15 ?_
  refine x_iload_n h 3 dX3_joinCell_18 rfl rfl ?_
  refine xl_own h hc dX3_joinCell_19 (by omega) ?_
  refine x_top ((M c (7 + a))) (by rw [st2_n _ _ _ (by omega), st2_n _ _ _ (by omega)]) ?_
  refine x_bipush h (nI 10) dX3_joinCell_20 (by decide) ?_
  refine x_iload_n h 2 dX3_joinCell_22 rfl rfl ?_
  refine x_iadd_n h dX3_joinCell_23 ?_
  refine x_icmp_ne h 35 dX3_joinCell_24 (by decide) (fun c_24 => ?_) (fun c_24 => ?_)
  · -- 24 true
    exact hret _ _ _ _ dX3_joinCell_35 (by refine ⟨rfl, fun k h1 h2 => by rw [st2_n _ _ _ h2, st2_n _ _ _ h1], fun b hb => ?_, by rw [st2_k, st2_n _ _ _ (by decide)]⟩; exact jC_no hJ c_24 hb)
  · -- 24 false
    refine x_aload_n h 0 dX3_joinCell_27 rfl rfl ?_
    refine x_iload_n h 3 dX3_joinCell_28 rfl rfl ?_
    refine x_bipush h (nI 81) dX3_joinCell_29 (by decide) ?_
    refine x_irem_n h dX3_joinCell_31 (by omega) (by decide) (by decide) ?_
    refine x_callVv h (As := [.int (nI (a % 81))]) 1 hx (c_X3_joinPlace (Nat.mod_lt _ (by decide))) gX3_joinCell_X3_joinPlace rfl ⟨rfl, rfl⟩ (by decide +kernel) rfl (by decide) (by decide) E_149 rfl rfl (Nat.le_of_ble_eq_true rfl) dX3_joinCell_32 (fun M32 P' hp => ?_)
    obtain ⟨rfl, hM32⟩ := hp
    exact hret _ _ _ _ dX3_joinCell_35 (by refine ⟨rfl, fun k h1 h2 => by rw [hM32, st2_n _ _ _ h1, st2_n _ _ _ h1, st2_n _ _ _ h2, st2_n _ _ _ h1], fun b hb => ?_, by rw [hM32, st2_n _ _ _ (by decide), st2_n _ _ _ (by decide), st2_k, st2_n _ _ _ (by decide)]⟩; rw [hM32]; exact jC_yes hJ c_24 hb)

theorem dX3_cellAt_0 : decode cX3_cellAt 0 = .ok (.iload_n 1, 1) := by decide +kernel
theorem dX3_cellAt_1 : decode cX3_cellAt 1 = .ok (.ifCond .lt 29, 3) := by decide +kernel
theorem dX3_cellAt_4 : decode cX3_cellAt 4 = .ok (.iload_n 1, 1) := by decide +kernel
theorem dX3_cellAt_5 : decode cX3_cellAt 5 = .ok (.aload_n 0, 1) := by decide +kernel
theorem dX3_cellAt_6 : decode cX3_cellAt 6 = .ok (.getfield 37, 3) := by decide +kernel
theorem dX3_cellAt_9 : decode cX3_cellAt 9 = .ok (.if_icmp .ge 21, 3) := by decide +kernel
theorem dX3_cellAt_12 : decode cX3_cellAt 12 = .ok (.iload_n 1, 1) := by decide +kernel
theorem dX3_cellAt_13 : decode cX3_cellAt 13 = .ok (.aload_n 0, 1) := by decide +kernel
theorem dX3_cellAt_14 : decode cX3_cellAt 14 = .ok (.getfield 31, 3) := by decide +kernel
theorem dX3_cellAt_17 : decode cX3_cellAt 17 = .ok (.arraylength, 1) := by decide +kernel
theorem dX3_cellAt_18 : decode cX3_cellAt 18 = .ok (.if_icmp .ge 12, 3) := by decide +kernel
theorem dX3_cellAt_21 : decode cX3_cellAt 21 = .ok (.aload_n 0, 1) := by decide +kernel
theorem dX3_cellAt_22 : decode cX3_cellAt 22 = .ok (.getfield 31, 3) := by decide +kernel
theorem dX3_cellAt_25 : decode cX3_cellAt 25 = .ok (.iload_n 1, 1) := by decide +kernel
theorem dX3_cellAt_26 : decode cX3_cellAt 26 = .ok (.iaload, 1) := by decide +kernel
theorem dX3_cellAt_27 : decode cX3_cellAt 27 = .ok (.goto 5, 3) := by decide +kernel
theorem dX3_cellAt_30 : decode cX3_cellAt 30 = .ok (.ldc 41, 2) := by decide +kernel
theorem dX3_cellAt_32 : decode cX3_cellAt 32 = .ok (.ireturn, 1) := by decide +kernel
abbrev rmX3_cellAt : Room := { frames := 0, cells := 0, slots := 0, locals := 0 }
set_option maxRecDepth 20000 in
theorem in_X3_cellAt_X3 : ∀ w ∈ wsX30, w ∈ wsX3_cellAt := by decide +kernel

set_option maxRecDepth 100000 in
set_option maxHeartbeats 4000000 in
theorem c_X3_cellAt {l : Launch} {g : Geo} {M : Nat → Nat → Int32} {P : Nat → Nat} {L : List Nat} {acc : Acc} {i : Nat} (hR : RtM M L acc) (hL : L.length ≤ 324) (hi : i < L.length) : Met l yX3_cellAt wsX3_cellAt rmX3_cellAt (cPre g [.ref (g.1 149), .int (nI i)] M P) (cQi g (fun r M' P' => (P = P' ∧ M = M') ∧ r = nI (L.getD i 0))) 0 0 (gA g) := by
  refine met_i (cc := cX3_cellAt) (maxL := 2) (by decide) rfl ⟨rfl, rfl⟩ (Nat.le_of_ble_eq_true rfl) (fun x hx h hret => ?_)
  replace h : Cxk x g cX3_cellAt 2 wsX3_cellAt RX3 rmX3_cellAt := h
  show X x 0 [(0, .ref (g.1 149)), (1, .int (nI i))] [] M P
  refine x_iload_n h 1 dX3_cellAt_0 rfl rfl ?_
  refine x_if_lt_n h 30 dX3_cellAt_1 (by decide) (by omega) ?_
  refine x_iload_n h 1 dX3_cellAt_4 rfl rfl ?_
  refine x_aload_n h 0 dX3_cellAt_5 rfl rfl ?_
  refine xg_X3_11 h in_X3_cellAt_X3 (by decide +kernel) dX3_cellAt_6 ?_
  refine x_top (nI L.length) (hR.1) ?_
  refine x_icmp_ge_n h 30 dX3_cellAt_9 (by decide) (by omega) (by omega) (fun c_9 => by omega) (fun c_9 => ?_)
  refine x_iload_n h 1 dX3_cellAt_12 rfl rfl ?_
  refine x_aload_n h 0 dX3_cellAt_13 rfl rfl ?_
  refine xg_X3_9 h in_X3_cellAt_X3 (by decide +kernel) dX3_cellAt_14 ?_
  refine xn_156 h dX3_cellAt_17 ?_
  refine x_icmp_ge_n h 30 dX3_cellAt_18 (by decide) (by omega) (by decide) (fun c_18 => by omega) (fun c_18 => ?_)
  refine x_aload_n h 0 dX3_cellAt_21 rfl rfl ?_
  refine xg_X3_9 h in_X3_cellAt_X3 (by decide +kernel) dX3_cellAt_22 ?_
  refine x_iload_n h 1 dX3_cellAt_25 rfl rfl ?_
  refine xl_156 h dX3_cellAt_26 (by omega) ?_
  refine x_top (nI (L.getD i 0)) (hR.2.1 i hi) ?_
  refine x_goto h 32 dX3_cellAt_27 (by decide) ?_
  exact hret _ _ _ _ _ dX3_cellAt_32 (by exact ⟨⟨rfl, rfl⟩, rfl⟩)
