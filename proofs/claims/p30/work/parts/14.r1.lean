def tollI (o : Option Nat) : Int32 := match o with
  | none => -1
  | some w => nI w
def ngh (o : Option Nat) : Int32 := match o with
  | none => -1
  | some t => nI t
def bI (b : Bool) : Int32 := if b = true then nI 1 else nI 0
def Nbr (M : Nat → Nat → Int32) : Prop := ∀ c k, c < 162 → k < 3 → M 150 (3 * c + k) = ngh (nb k c)
def QI (M : Nat → Nat → Int32) (D : Nat → Nat) (q : List Nat) (f : Nat) : Prop := M 149 6 = nI f ∧ f < 162 ∧ M 149 7 = nI q.length ∧ q.length ≤ 162 ∧ (∀ i, i < q.length → M 155 ((f + i) % 162) = nI (q.getD i 0)) ∧ (∀ c, c < 162 → M 154 c = bI (decide (c ∈ q))) ∧ ∀ c, c < 162 → M 153 c = nI (D c)
/-- what the queue's work leaves as it was -/
def FrQ (M M' : Nat → Nat → Int32) : Prop := (∀ k, k ≠ 149 → k ≠ 153 → k ≠ 154 → k ≠ 155 → M' k = M k) ∧ ∀ j, j ≠ 6 → j ≠ 7 → M' 149 j = M 149 j
theorem FrQ_rf (M : Nat → Nat → Int32) : FrQ M M := ⟨fun _ _ _ _ _ => rfl, fun _ _ _ => rfl⟩
theorem FrQ_tr {M M1 M2 : Nat → Nat → Int32} (h : FrQ M M1) (h2 : FrQ M1 M2) : FrQ M M2 := ⟨fun k a b c d => (h2.1 k a b c d).trans (h.1 k a b c d), fun j a b => (h2.2 j a b).trans (h.2 j a b)⟩
theorem FrQ_a (M : Nat → Nat → Int32) {k : Nat} (j : Nat) (v : Int32) (hk : k = 153 ∨ k = 154 ∨ k = 155) : FrQ M (st2 M k j v) := ⟨fun q a b c d => st2_n M j v (by omega), fun q _ _ => by rw [st2_n M j v (by omega)]⟩
theorem FrQ_o (M : Nat → Nat → Int32) {j : Nat} (v : Int32) (hj : j = 6 ∨ j = 7) : FrQ M (st2 M 149 j v) := ⟨fun q a b c d => st2_n M j v a, fun q a b => by rw [st2_k, pk_un (by omega)]⟩
theorem bI_t {b : Bool} (h : b = true) : bI b = nI 1 := by subst h; rfl
theorem bI_f {b : Bool} (h : b = false) : bI b = nI 0 := by subst h; rfl
theorem bI_0 {b : Bool} (h : bI b = 0) : b = false := by
  cases b
  · rfl
  · exact absurd h (by decide)
theorem bI_1 {b : Bool} (h : ¬ bI b = 0) : b = true := by
  cases b
  · exact absurd (show bI false = 0 by decide) h
  · rfl
theorem bI_or (b : Bool) : bI b = 0 ∨ bI b = 1 := by cases b <;> decide
theorem QI_push {M : Nat → Nat → Int32} {D : Nat → Nat} {q : List Nat} {f t x : Nat} (h : QI M D q f) (ht : t < 162) (hn : t ∉ q) (hl : q.length < 162) : QI (st2 (st2 (st2 (st2 M 153 t (nI x)) 154 t (nI 1)) 155 ((f + q.length) % 162) (nI t)) 149 7 (nI (q.length + 1))) (updN D t x) (q ++ [t]) f := by
  obtain ⟨h1, h2, h3, h4, h5, h6, h7⟩ := h
  refine ⟨?_, h2, ?_, by rw [List.length_append]; exact hl, fun i hi => ?_, fun c hc => ?_, fun c hc => ?_⟩
  · rw [st2_k, pk_un (by decide), st2_n _ _ _ (by decide), st2_n _ _ _ (by decide), st2_n _ _ _ (by decide)]; exact h1
  · rw [st2_k, pk_us, List.length_append]; rfl
  · rw [List.length_append] at hi
    have hi : i < q.length + 1 := hi
    rw [st2_n _ _ _ (by decide), st2_k]
    by_cases e : i = q.length
    · subst e
      rw [pk_us]
      simp
    · rw [pk_un (by omega), st2_n _ _ _ (by decide), st2_n _ _ _ (by decide), h5 i (by omega)]
      congr 1
      simp only [List.getD_eq_getElem?_getD]
      rw [List.getElem?_append_left (by omega)]
  · rw [st2_n _ _ _ (by decide), st2_n _ _ _ (by decide), st2_k]
    by_cases e : c = t
    · subst e
      rw [pk_us]; exact (bI_t (by simp)).symm
    · rw [pk_un e, st2_n _ _ _ (by decide), h6 c hc]
      congr 1
      simp [e]
  · rw [st2_n _ _ _ (by decide), st2_n _ _ _ (by decide), st2_n _ _ _ (by decide), st2_k]
    unfold updN
    by_cases e : c = t
    · subst e; rw [pk_us, if_pos rfl]
    · rw [pk_un e, if_neg e, h7 c hc]
theorem QI_set {M : Nat → Nat → Int32} {D : Nat → Nat} {q : List Nat} {f t x : Nat} (h : QI M D q f) : QI (st2 M 153 t (nI x)) (updN D t x) q f := by
  obtain ⟨h1, h2, h3, h4, h5, h6, h7⟩ := h
  refine ⟨?_, h2, ?_, h4, fun i hi => ?_, fun c hc => ?_, fun c hc => ?_⟩
  · rw [st2_n _ _ _ (by decide)]; exact h1
  · rw [st2_n _ _ _ (by decide)]; exact h3
  · rw [st2_n _ _ _ (by decide)]; exact h5 i hi
  · rw [st2_n _ _ _ (by decide)]; exact h6 c hc
  · rw [st2_k]
    unfold updN
    by_cases e : c = t
    · subst e; rw [pk_us, if_pos rfl]
    · rw [pk_un e, if_neg e, h7 c hc]
theorem QI_pop {M : Nat → Nat → Int32} {D : Nat → Nat} {q : List Nat} {f u : Nat} (h : QI M D (u :: q) f) (hn : u ∉ q) (hu : u < 162) : QI (st2 (st2 (st2 M 149 6 (nI ((f + 1) % 162))) 149 7 (nI q.length)) 154 u (nI 0)) D q ((f + 1) % 162) := by
  obtain ⟨h1, h2, h3, h4, h5, h6, h7⟩ := h
  rw [List.length_cons] at h3 h4 h5
  refine ⟨?_, Nat.mod_lt _ (by decide), ?_, by omega, fun i hi => ?_, fun c hc => ?_, fun c hc => ?_⟩
  · rw [st2_n _ _ _ (by decide), st2_k, pk_un (by decide), st2_k, pk_us]
  · rw [st2_n _ _ _ (by decide), st2_k, pk_us]
  · rw [st2_n _ _ _ (by decide), st2_n _ _ _ (by decide), st2_n _ _ _ (by decide), show ((f + 1) % 162 + i) % 162 = (f + (i + 1)) % 162 by omega, h5 (i + 1) (by omega)]
    rfl
  · rw [st2_k]
    by_cases e : c = u
    · subst e; rw [pk_us]; exact (bI_f (by simp [hn])).symm
    · rw [pk_un e, st2_n _ _ _ (by decide), st2_n _ _ _ (by decide), h6 c hc]
      congr 1
      simp [e]
  · rw [st2_n _ _ _ (by decide), st2_n _ _ _ (by decide), st2_n _ _ _ (by decide)]; exact h7 c hc
noncomputable def dS (vc : Nat) (tw : Nat → Option Nat) (J : Nat → Bool) : Nat → Nat := Classical.epsilon (fun d => Sol 1000000 vc tw (fun c => J c = true) d)
theorem dS_sol {vc : Nat} (hv : 1 ≤ vc) (tw : Nat → Option Nat) (J : Nat → Bool) : Sol 1000000 vc tw (fun c => J c = true) (dS vc tw J) := Classical.epsilon_spec (Sol.ex 1000000 vc tw (fun c => J c = true) hv)
/-- the distances as the class has them: a closed cell is far -/
def dcl (tw : Nat → Option Nat) (d : Nat → Nat) (c : Nat) : Nat := if tw c = none then 1000000 else d c
def dst0 (J : Nat → Bool) (i c : Nat) : Nat := if c < i ∧ J c = true then 0 else 1000000
theorem SI_init {vc : Nat} {tw : Nat → Option Nat} {J : Nat → Bool} {ds : Nat → Nat} (hS : Sol 1000000 vc tw (fun c => J c = true) ds) (hJ : ∀ c, J c = true → tw c ≠ none) : SI vc tw (fun c => J c = true) ds (dst0 J 162) ((List.range 162).filter J) (fun _ => False) := by
  refine ⟨fun c hc => ?_, fun c hc hj => if_pos ⟨hc, hj⟩, fun c hc hn => if_neg (fun e => hJ c e.2 hn), fun c hc hn => ?_, fun a ha => ?_, ?_, fun u hu hq _ w hw hD => ?_⟩
  · unfold dst0
    split
    · omega
    · exact Nat.le_refl _
  · unfold dst0
    split
    · rename_i e; rw [hS.2.1 c hc e.2]; exact Nat.le_refl _
    · exact hS.1 c hc
  · rw [List.mem_filter] at ha
    have hl := List.mem_range.mp ha.1
    exact ⟨hl, hJ a ha.2, by unfold dst0; rw [if_pos ⟨hl, ha.2⟩]; decide⟩
  · exact List.Pairwise.sublist List.filter_sublist List.nodup_range
  · by_cases e : J u = true
    · exact absurd (List.mem_filter.mpr ⟨List.mem_range.mpr hu, e⟩) hq
    · unfold dst0 at hD
      rw [if_neg (by rintro ⟨_, z⟩; exact e z)] at hD
      exact absurd hD (Nat.lt_irrefl _)

theorem tl_none {o : Option Nat} (hw : ∀ w, o = some w → w < 2 ^ 31) (h : tollI o = -1) : o = none := by
  cases o with
  | none => rfl
  | some w => exact absurd h.symm (m1_ne (hw w rfl))
theorem tl_some {o : Option Nat} (h : ¬ tollI o = -1) : ∃ w, o = some w := by
  cases o with
  | none => exact absurd rfl h
  | some w => exact ⟨w, rfl⟩

theorem dX3_moveCost_0 : decode cX3_moveCost 0 = .ok (.iload_n 1, 1) := by decide +kernel
theorem dX3_moveCost_1 : decode cX3_moveCost 1 = .ok (.bipush 81, 2) := by decide +kernel
theorem dX3_moveCost_3 : decode cX3_moveCost 3 = .ok (.if_icmp .ge 7, 3) := by decide +kernel
theorem dX3_moveCost_6 : decode cX3_moveCost 6 = .ok (.iconst 2, 1) := by decide +kernel
theorem dX3_moveCost_7 : decode cX3_moveCost 7 = .ok (.goto 4, 3) := by decide +kernel
theorem dX3_moveCost_10 : decode cX3_moveCost 10 = .ok (.iconst 0, 1) := by decide +kernel
theorem dX3_moveCost_11 : decode cX3_moveCost 11 = .ok (.istore_n 3, 1) := by decide +kernel
theorem dX3_moveCost_12 : decode cX3_moveCost 12 = .ok (.iload_n 2, 1) := by decide +kernel
theorem dX3_moveCost_13 : decode cX3_moveCost 13 = .ok (.iload_n 3, 1) := by decide +kernel
theorem dX3_moveCost_14 : decode cX3_moveCost 14 = .ok (.if_icmp .ne 10, 3) := by decide +kernel
theorem dX3_moveCost_17 : decode cX3_moveCost 17 = .ok (.aload_n 0, 1) := by decide +kernel
theorem dX3_moveCost_18 : decode cX3_moveCost 18 = .ok (.getfield 60, 3) := by decide +kernel
theorem dX3_moveCost_21 : decode cX3_moveCost 21 = .ok (.goto 4, 3) := by decide +kernel
theorem dX3_moveCost_24 : decode cX3_moveCost 24 = .ok (.iconst 1, 1) := by decide +kernel
theorem dX3_moveCost_25 : decode cX3_moveCost 25 = .ok (.ireturn, 1) := by decide +kernel
abbrev rmX3_moveCost : Room := { frames := 0, cells := 0, slots := 0, locals := 0 }
set_option maxRecDepth 20000 in
theorem in_X3_moveCost_X3 : ∀ w ∈ wsX30, w ∈ wsX3_moveCost := by decide +kernel

set_option maxRecDepth 100000 in
set_option maxHeartbeats 4000000 in
theorem c_X3_moveCost {l : Launch} {g : Geo} {M : Nat → Nat → Int32} {P : Nat → Nat} {vc a k : Nat} (hvc : M 149 8 = nI vc) (ha : a < 162) (hk : k < 3) : Met l yX3_moveCost wsX3_moveCost rmX3_moveCost (cPre g [.ref (g.1 149), .int (nI a), .int (nI k)] M P) (cQi g (fun r M' P' => (P = P' ∧ M = M') ∧ r = nI (mv vc k a))) 0 0 (gA g) := by
  refine met_i (cc := cX3_moveCost) (maxL := 4) (by decide) rfl ⟨rfl, rfl⟩ (Nat.le_of_ble_eq_true rfl) (fun x hx h hret => ?_)
  replace h : Cxk x g cX3_moveCost 4 wsX3_moveCost RX3 rmX3_moveCost := h
  show X x 0 [(0, .ref (g.1 149)), (1, .int (nI a)), (2, .int (nI k))] [] M P
  refine x_iload_n h 1 dX3_moveCost_0 rfl rfl ?_
  refine x_bipush h (nI 81) dX3_moveCost_1 (by decide) ?_
  refine x_icmp_ge_n h 10 dX3_moveCost_3 (by decide) (by omega) (by decide) (fun c_3 => ?_) (fun c_3 => ?_)
  · -- 3 true
    refine x_iconst h (nI 0) dX3_moveCost_10 (by decide) ?_
    refine x_istore_n h [(3, .int (nI 0)), (0, .ref (g.1 149)), (1, .int (nI a)), (2, .int (nI k))] dX3_moveCost_11 rfl (by decide) rfl ?_
    refine x_iload_n h 3 dX3_moveCost_12 rfl rfl ?_
    refine x_iload_n h 0 dX3_moveCost_13 rfl rfl ?_
    refine x_icmp_ne_n h 24 dX3_moveCost_14 (by decide) (by omega) (by decide) (fun c_14 => ?_) (fun c_14 => ?_)
    · -- 14 true
      refine x_iconst h (nI 1) dX3_moveCost_24 (by decide) ?_
      exact hret _ _ _ _ _ dX3_moveCost_25 (by refine ⟨⟨rfl, rfl⟩, ?_⟩; unfold mv; rw [if_neg (by omega)])
    · -- 14 false
      refine x_aload_n h 1 dX3_moveCost_17 rfl rfl ?_
      refine xg_X3_8 h in_X3_moveCost_X3 (by decide +kernel) dX3_moveCost_18 ?_
      refine x_top (nI vc) (hvc) ?_
      refine x_goto h 25 dX3_moveCost_21 (by decide) ?_
      exact hret _ _ _ _ _ dX3_moveCost_25 (by refine ⟨⟨rfl, rfl⟩, ?_⟩; unfold mv; rw [if_pos (by omega)])
  · -- 3 false
    refine x_iconst h (nI 2) dX3_moveCost_6 (by decide) ?_
    refine x_goto h 11 dX3_moveCost_7 (by decide) ?_
    refine x_istore_n h [(3, .int (nI 2)), (0, .ref (g.1 149)), (1, .int (nI a)), (2, .int (nI k))] dX3_moveCost_11 rfl (by decide) rfl ?_
    refine x_iload_n h 3 dX3_moveCost_12 rfl rfl ?_
    refine x_iload_n h 0 dX3_moveCost_13 rfl rfl ?_
    refine x_icmp_ne_n h 24 dX3_moveCost_14 (by decide) (by omega) (by decide) (fun c_14 => ?_) (fun c_14 => ?_)
    · -- 14 true
      refine x_iconst h (nI 1) dX3_moveCost_24 (by decide) ?_
      exact hret _ _ _ _ _ dX3_moveCost_25 (by refine ⟨⟨rfl, rfl⟩, ?_⟩; unfold mv; rw [if_neg (by omega)])
    · -- 14 false
      refine x_aload_n h 1 dX3_moveCost_17 rfl rfl ?_
      refine xg_X3_8 h in_X3_moveCost_X3 (by decide +kernel) dX3_moveCost_18 ?_
      refine x_top (nI vc) (hvc) ?_
      refine x_goto h 25 dX3_moveCost_21 (by decide) ?_
      exact hret _ _ _ _ _ dX3_moveCost_25 (by refine ⟨⟨rfl, rfl⟩, ?_⟩; unfold mv; rw [if_pos (by omega)])

theorem dX3_offer_0 : decode cX3_offer 0 = .ok (.iload_n 1, 1) := by decide +kernel
theorem dX3_offer_1 : decode cX3_offer 1 = .ok (.ifCond .lt 23, 3) := by decide +kernel
theorem dX3_offer_4 : decode cX3_offer 4 = .ok (.aload_n 0, 1) := by decide +kernel
theorem dX3_offer_5 : decode cX3_offer 5 = .ok (.getfield 19, 3) := by decide +kernel
theorem dX3_offer_8 : decode cX3_offer 8 = .ok (.iload_n 1, 1) := by decide +kernel
theorem dX3_offer_9 : decode cX3_offer 9 = .ok (.iaload, 1) := by decide +kernel
theorem dX3_offer_10 : decode cX3_offer 10 = .ok (.iconst (-1), 1) := by decide +kernel
theorem dX3_offer_11 : decode cX3_offer 11 = .ok (.if_icmp .eq 13, 3) := by decide +kernel
theorem dX3_offer_14 : decode cX3_offer 14 = .ok (.iload_n 2, 1) := by decide +kernel
theorem dX3_offer_15 : decode cX3_offer 15 = .ok (.aload_n 0, 1) := by decide +kernel
theorem dX3_offer_16 : decode cX3_offer 16 = .ok (.getfield 22, 3) := by decide +kernel
theorem dX3_offer_19 : decode cX3_offer 19 = .ok (.iload_n 1, 1) := by decide +kernel
theorem dX3_offer_20 : decode cX3_offer 20 = .ok (.iaload, 1) := by decide +kernel
theorem dX3_offer_21 : decode cX3_offer 21 = .ok (.if_icmp .lt 4, 3) := by decide +kernel
theorem dX3_offer_24 : decode cX3_offer 24 = .ok (.return_, 1) := by decide +kernel
theorem dX3_offer_25 : decode cX3_offer 25 = .ok (.aload_n 0, 1) := by decide +kernel
theorem dX3_offer_26 : decode cX3_offer 26 = .ok (.getfield 22, 3) := by decide +kernel
theorem dX3_offer_29 : decode cX3_offer 29 = .ok (.iload_n 1, 1) := by decide +kernel
theorem dX3_offer_30 : decode cX3_offer 30 = .ok (.iload_n 2, 1) := by decide +kernel
theorem dX3_offer_31 : decode cX3_offer 31 = .ok (.iastore, 1) := by decide +kernel
theorem dX3_offer_32 : decode cX3_offer 32 = .ok (.aload_n 0, 1) := by decide +kernel
theorem dX3_offer_33 : decode cX3_offer 33 = .ok (.getfield 25, 3) := by decide +kernel
theorem dX3_offer_36 : decode cX3_offer 36 = .ok (.iload_n 1, 1) := by decide +kernel
theorem dX3_offer_37 : decode cX3_offer 37 = .ok (.baload, 1) := by decide +kernel
theorem dX3_offer_38 : decode cX3_offer 38 = .ok (.ifCond .ne 39, 3) := by decide +kernel
theorem dX3_offer_41 : decode cX3_offer 41 = .ok (.aload_n 0, 1) := by decide +kernel
theorem dX3_offer_42 : decode cX3_offer 42 = .ok (.getfield 25, 3) := by decide +kernel
theorem dX3_offer_45 : decode cX3_offer 45 = .ok (.iload_n 1, 1) := by decide +kernel
theorem dX3_offer_46 : decode cX3_offer 46 = .ok (.iconst 1, 1) := by decide +kernel
theorem dX3_offer_47 : decode cX3_offer 47 = .ok (.bastore, 1) := by decide +kernel
theorem dX3_offer_48 : decode cX3_offer 48 = .ok (.aload_n 0, 1) := by decide +kernel
theorem dX3_offer_49 : decode cX3_offer 49 = .ok (.getfield 28, 3) := by decide +kernel
theorem dX3_offer_52 : decode cX3_offer 52 = .ok (.aload_n 0, 1) := by decide +kernel
theorem dX3_offer_53 : decode cX3_offer 53 = .ok (.getfield 108, 3) := by decide +kernel
theorem dX3_offer_56 : decode cX3_offer 56 = .ok (.aload_n 0, 1) := by decide +kernel
theorem dX3_offer_57 : decode cX3_offer 57 = .ok (.getfield 111, 3) := by decide +kernel
theorem dX3_offer_60 : decode cX3_offer 60 = .ok (.iadd, 1) := by decide +kernel
theorem dX3_offer_61 : decode cX3_offer 61 = .ok (.sipush 162, 3) := by decide +kernel
theorem dX3_offer_64 : decode cX3_offer 64 = .ok (.irem, 1) := by decide +kernel
theorem dX3_offer_65 : decode cX3_offer 65 = .ok (.iload_n 1, 1) := by decide +kernel
theorem dX3_offer_66 : decode cX3_offer 66 = .ok (.iastore, 1) := by decide +kernel
theorem dX3_offer_67 : decode cX3_offer 67 = .ok (.aload_n 0, 1) := by decide +kernel
theorem dX3_offer_68 : decode cX3_offer 68 = .ok (.dup, 1) := by decide +kernel
theorem dX3_offer_69 : decode cX3_offer 69 = .ok (.getfield 111, 3) := by decide +kernel
theorem dX3_offer_72 : decode cX3_offer 72 = .ok (.iconst 1, 1) := by decide +kernel
theorem dX3_offer_73 : decode cX3_offer 73 = .ok (.iadd, 1) := by decide +kernel
theorem dX3_offer_74 : decode cX3_offer 74 = .ok (.putfield 111, 3) := by decide +kernel
theorem dX3_offer_77 : decode cX3_offer 77 = .ok (.return_, 1) := by decide +kernel
abbrev rmX3_offer : Room := { frames := 0, cells := 0, slots := 0, locals := 0 }
set_option maxRecDepth 20000 in
theorem in_X3_offer_X3 : ∀ w ∈ wsX30, w ∈ wsX3_offer := by decide +kernel

set_option maxRecDepth 100000 in
set_option maxHeartbeats 4000000 in
theorem c_X3_offer {l : Launch} {g : Geo} {M : Nat → Nat → Int32} {P : Nat → Nat} {o : Option Nat} {z f : Nat} {D : Nat → Nat} {q : List Nat} {tw : Nat → Option Nat} (ho : ∀ t, o = some t → t < 162) (hT : ∀ t, o = some t → M 152 t = tollI (tw t)) (hw : ∀ c w, tw c = some w → w ≤ 59) (hD : ∀ c, c < 162 → D c ≤ 1000000) (hz : z < 2 ^ 31) (hQ : QI M D q f) (hnd : q.Nodup) (hal : ∀ a, a ∈ q → a < 162) : Met l yX3_offer wsX3_offer rmX3_offer (cPre g [.ref (g.1 149), .int (ngh o), .int (nI z)] M P) (cQv g (fun M' P' => P = P' ∧ FrQ M M' ∧ QI M' (offr tw D q o z).1 (offr tw D q o z).2 f)) 0 0 (gA g) := by
  refine met_v (cc := cX3_offer) (maxL := 3) (by decide) rfl ⟨rfl, rfl⟩ (Nat.le_of_ble_eq_true rfl) (fun x hx h hret => ?_)
  replace h : Cxk x g cX3_offer 3 wsX3_offer RX3 rmX3_offer := h
  show X x 0 [(0, .ref (g.1 149)), (1, .int (ngh o)), (2, .int (nI z))] [] M P
  cases o with
  | none =>
    refine x_lv (lv' := [(0, .ref (g.1 149)), (1, .int (-1)), (2, .int (nI z))]) ?_ [0, 1, 2] rfl
    refine x_iload_n h 1 dX3_offer_0 rfl rfl ?_
    refine x_if_lt h 24 dX3_offer_1 (by decide) (fun _ => ?_) (fun c => absurd (by decide) c)
    exact hret _ _ _ _ dX3_offer_24 (by exact ⟨rfl, FrQ_rf M, hQ⟩)
  | some t =>
    have ht := ho t rfl
    refine x_lv (lv' := [(0, .ref (g.1 149)), (1, .int (nI t)), (2, .int (nI z))]) ?_ [0, 1, 2] rfl
    refine x_iload_n h 1 dX3_offer_0 rfl rfl ?_
    refine x_if_lt_n h 24 dX3_offer_1 (by decide) (by first | omega | (have := hD t ht; omega) | (have := hQ.2.1; have := hQ.2.2.2.1; omega)) ?_
    refine x_aload_n h 0 dX3_offer_4 rfl rfl ?_
    refine xg_X3_2 h in_X3_offer_X3 (by decide +kernel) dX3_offer_5 ?_
    refine x_iload_n h 1 dX3_offer_8 rfl rfl ?_
    refine xl_152 h dX3_offer_9 (by omega) ?_
    refine x_top ((tollI (tw t))) (hT t rfl) ?_
    refine x_iconst h ((-1)) dX3_offer_10 (by decide) ?_
    refine x_icmp_eq h 24 dX3_offer_11 (by decide) (fun c_11 => ?_) (fun c_11 => ?_)
    · -- 11 true
      exact hret _ _ _ _ dX3_offer_24 (by refine ⟨rfl, FrQ_rf M, ?_⟩; unfold offr; dsimp only; rw [if_pos (by first | exact Or.inr c_21 | exact Or.inl (tl_none (fun w e => by have := hw t w e; omega) c_11))]; exact hQ)
    · -- 11 false
      refine x_iload_n h 2 dX3_offer_14 rfl rfl ?_
      refine x_aload_n h 0 dX3_offer_15 rfl rfl ?_
      refine xg_X3_3 h in_X3_offer_X3 (by decide +kernel) dX3_offer_16 ?_
      refine x_iload_n h 1 dX3_offer_19 rfl rfl ?_
      refine xl_153 h dX3_offer_20 (by omega) ?_
      refine x_top (nI (D t)) (hQ.2.2.2.2.2.2 t ht) ?_
      refine x_icmp_lt_n h 25 dX3_offer_21 (by decide) (by first | omega | (have := hD t ht; omega) | (have := hQ.2.1; have := hQ.2.2.2.1; omega)) (by first | omega | (have := hD t ht; omega) | (have := hQ.2.1; have := hQ.2.2.2.1; omega)) (fun c_21 => ?_) (fun c_21 => ?_)
      · -- 21 true
        refine x_aload_n h 0 dX3_offer_25 rfl rfl ?_
        refine xg_X3_3 h in_X3_offer_X3 (by decide +kernel) dX3_offer_26 ?_
        refine x_iload_n h 1 dX3_offer_29 rfl rfl ?_
        refine x_iload_n h 2 dX3_offer_30 rfl rfl ?_
        refine xs_153 h dX3_offer_31 (by omega) ?_
        refine x_aload_n h 0 dX3_offer_32 rfl rfl ?_
        refine xg_X3_4 h in_X3_offer_X3 (by decide +kernel) dX3_offer_33 ?_
        refine x_iload_n h 1 dX3_offer_36 rfl rfl ?_
        refine xl_154 h dX3_offer_37 (by omega) ?_
        refine x_top (bI (decide (t ∈ q))) (by rw [st2_n _ _ _ (by decide)]; exact hQ.2.2.2.2.2.1 t ht) ?_
        refine x_if_ne h 77 dX3_offer_38 (by decide) (fun c_38 => ?_) (fun c_38 => ?_)
        · -- 38 true
          replace c_38 : t ∈ q := of_decide_eq_true (bI_1 c_38)
          exact hret _ _ _ _ dX3_offer_77 (by refine ⟨rfl, FrQ_a M t _ (Or.inl rfl), ?_⟩; unfold offr; dsimp only; rw [if_neg (by rintro (e | e); exact c_11 (by rw [e]; rfl); omega), if_pos c_38]; exact QI_set hQ)
        · -- 38 false
          replace c_38 : t ∉ q := of_decide_eq_false (bI_0 c_38)
          have hlen : q.length < 162 := by
            have e := nodup_len (q := q ++ [t]) (n := 162) (List.nodup_append.mpr ⟨hnd, List.nodup_cons.mpr ⟨List.not_mem_nil, List.nodup_nil⟩, fun a ha b hb e => by rw [List.mem_singleton.mp hb] at e; subst e; exact c_38 ha⟩) (fun a ha => (List.mem_append.mp ha).elim (hal a) (fun e => by rw [List.mem_singleton.mp e]; exact ht))
            rw [List.length_append] at e; exact e
          refine x_aload_n h 0 dX3_offer_41 rfl rfl ?_
          refine xg_X3_4 h in_X3_offer_X3 (by decide +kernel) dX3_offer_42 ?_
          refine x_iload_n h 1 dX3_offer_45 rfl rfl ?_
          refine x_iconst h (nI 1) dX3_offer_46 (by decide) ?_
          refine xs_154 h dX3_offer_47 (by decide) (by omega) ?_
          refine x_aload_n h 0 dX3_offer_48 rfl rfl ?_
          refine xg_X3_5 h in_X3_offer_X3 (by decide +kernel) dX3_offer_49 ?_
          refine x_aload_n h 0 dX3_offer_52 rfl rfl ?_
          refine xg_X3_6 h in_X3_offer_X3 (by decide +kernel) dX3_offer_53 ?_
          refine x_top (nI f) (by rw [st2_n _ _ _ (by decide), st2_n _ _ _ (by decide)]; exact hQ.1) ?_
          refine x_aload_n h 0 dX3_offer_56 rfl rfl ?_
          refine xg_X3_7 h in_X3_offer_X3 (by decide +kernel) dX3_offer_57 ?_
          refine x_top (nI q.length) (by rw [st2_n _ _ _ (by decide), st2_n _ _ _ (by decide)]; exact hQ.2.2.1) ?_
          refine x_iadd_n h dX3_offer_60 ?_
          refine x_sipush h (nI 162) dX3_offer_61 (by decide) ?_
          refine x_irem_n h dX3_offer_64 (by first | omega | (have := hD t ht; omega) | (have := hQ.2.1; have := hQ.2.2.2.1; omega)) (by decide) (by decide) ?_
          refine x_iload_n h 1 dX3_offer_65 rfl rfl ?_
          refine xs_155 h dX3_offer_66 (by exact Nat.mod_lt _ (by decide)) ?_
          refine x_aload_n h 0 dX3_offer_67 rfl rfl ?_
          refine x_dup h dX3_offer_68 rfl ?_
          refine xg_X3_7 h in_X3_offer_X3 (by decide +kernel) dX3_offer_69 ?_
          refine x_top (nI q.length) (by rw [st2_n _ _ _ (by decide), st2_n _ _ _ (by decide), st2_n _ _ _ (by decide)]; exact hQ.2.2.1) ?_
          refine x_iconst h (nI 1) dX3_offer_72 (by decide) ?_
          refine x_iadd_n h dX3_offer_73 ?_
          refine xp_X3_7 h in_X3_offer_X3 (by decide +kernel) dX3_offer_74 ?_
          exact hret _ _ _ _ dX3_offer_77 (by refine ⟨rfl, FrQ_tr (FrQ_tr (FrQ_tr (FrQ_a M t _ (Or.inl rfl)) (FrQ_a _ _ _ (Or.inr (Or.inl rfl)))) (FrQ_a _ _ _ (Or.inr (Or.inr rfl)))) (FrQ_o _ _ (Or.inr rfl)), ?_⟩; unfold offr; dsimp only; rw [if_neg (by rintro (e | e); exact c_11 (by rw [e]; rfl); omega), if_neg c_38]; exact QI_push hQ ht c_38 hlen)
      · -- 21 false
        exact hret _ _ _ _ dX3_offer_24 (by refine ⟨rfl, FrQ_rf M, ?_⟩; unfold offr; dsimp only; rw [if_pos (by first | exact Or.inr c_21 | exact Or.inl (tl_none (fun w e => by have := hw t w e; omega) c_11))]; exact hQ)
