/-! the chips that a WireDigs points at: now, trial, past -/
theorem eRest_P {g : Geo} {Y : Nat → Int32} {P P' : Nat → Nat} {k : Nat} (h1 : k ≠ 144) (h2 : k ≠ 145) : eRest g Y P k = eRest g Y P' k := by
  unfold eRest; rw [if_neg h1, if_neg h1, if_neg h2, if_neg h2]
theorem enc_now {g : Geo} {M : Nat → Nat → Int32} {P P' : Nat → Nat} {e : va_E} (he : eRest g (M 144) P' 144 = e) (hp : ∀ i, P' (2 + i) = P (2 + i)) : va_up (enc g M P) 144 e = enc g M P' := by
  funext k
  by_cases h1 : k = 144
  · subst h1
    rw [enc_r g M P' (by decide), he]
    exact if_pos rfl
  · rw [va_up_n _ _ h1]
    by_cases h2 : k = 145
    · subst h2
      have q : (fun i => some (g.1 (24 * P (2 + i)))) = fun i => some (g.1 (24 * P' (2 + i))) := funext (fun i => by rw [hp])
      rw [E_145, E_145, q]
    · by_cases h3 : k < 144
      · rw [enc_c g M P (show k / 24 < 6 by omega) (Nat.mod_lt k (by decide)) (by omega), enc_c g M P' (show k / 24 < 6 by omega) (Nat.mod_lt k (by decide)) (by omega)]
      · rw [enc_r g M P (by omega), enc_r g M P' (by omega), eRest_P h1 h2]
theorem enc_past {g : Geo} {M : Nat → Nat → Int32} {P P' : Nat → Nat} {e : va_E} (he : eRest g (M 145) P' 145 = e) (h0 : P' 0 = P 0) (h1 : P' 1 = P 1) : va_up (enc g M P) 145 e = enc g M P' := by
  funext k
  by_cases h2 : k = 145
  · subst h2
    rw [enc_r g M P' (by decide), he]
    exact if_pos rfl
  · rw [va_up_n _ _ h2]
    by_cases h3 : k = 144
    · subst h3; rw [E_144, E_144, h0, h1]
    · by_cases h4 : k < 144
      · rw [enc_c g M P (show k / 24 < 6 by omega) (Nat.mod_lt k (by decide)) (by omega), enc_c g M P' (show k / 24 < 6 by omega) (Nat.mod_lt k (by decide)) (by omega)]
      · rw [enc_r g M P (by omega), enc_r g M P' (by omega), eRest_P h3 h2]
section PTR
variable {x : Ctx} {g : Geo} {cc : ByteArray} {nL : Nat} {Ts : List Cond} {own : String} {rm : Room} {pc index : Nat} {lv : List (Nat × Value)} {st : List Value} {M : Nat → Nat → Int32} {P : Nat → Nat} {q : Nat}
theorem x_topr (b : Nat) {a : Nat} (hv : a = b) (k : X x pc lv (.ref (g.1 (24 * b)) :: st) M P) : X x pc lv (.ref (g.1 (24 * a)) :: st) M P := hv ▸ k
theorem x_ptr (P' : Nat → Nat) (hv : P = P') (k : X x pc lv st M P') : X x pc lv st M P := hv ▸ k
theorem x_past (h : Cxk x g cc nL Ts own rm) {j : Nat} (hj : j < 4) (hq : q < 6) (hd : decode cc pc = .ok (.aastore, 1)) (kk : X x (pc + 1) lv st M (va_up P (2 + j) q)) : X x pc lv (.ref (g.1 (24 * q)) :: .int (nI j) :: .ref (g.1 145) :: st) M P :=
  x_aast h (k := 145) (n := 4) (j := j) (kv := 24 * q) 4 (va_up P (2 + j) q) (by decide) (by omega) rfl E_145 (E_chip hq) rfl hd hj (by decide) (enc_past (by
    have : (fun i => some (g.1 (24 * va_up P (2 + j) q (2 + i)))) = va_up (fun i => some (g.1 (24 * P (2 + i)))) j (some (g.1 (24 * q))) := by
      funext i
      by_cases e : i = j
      · subst e; rw [va_up_k, va_up_k]
      · rw [va_up_n _ _ e, va_up_n _ _ (by omega)]
    exact congrArg (fun f => (.inl (g.2.2.1 4, 4, .inr (.inr (.inr (.inr f)))) : va_E)) this) (va_up_n _ _ (by omega)) (va_up_n _ _ (by omega))) kk
theorem x_pnow (h : Cxk x g cc nL Ts own rm) (hin : ∀ w ∈ u_ws RX5 TX5 7, w ∈ Ts) (hlink : Cond.fieldLink own index "WireDigs" "now" "LWireDigs$Chip;" ∈ Ts) (hd : decode cc pc = .ok (.putfield index, 3)) (kk : X x (pc + 3) lv st M (va_up P 0 q)) : X x pc lv (.ref (g.1 (24 * q)) :: .ref (g.1 144) :: st) M P := x_put h 4 M (va_up P 0 q) tyX5 (by decide) E_144 rfl (by decide) rfl tyX5_ok nmX5 rfl rfl rfl rfl (enc_now rfl (fun i => va_up_n _ _ (by omega))) hin hlink hd kk
theorem x_ptrial (h : Cxk x g cc nL Ts own rm) (hin : ∀ w ∈ u_ws RX5 TX5 7, w ∈ Ts) (hlink : Cond.fieldLink own index "WireDigs" "trial" "LWireDigs$Chip;" ∈ Ts) (hd : decode cc pc = .ok (.putfield index, 3)) (kk : X x (pc + 3) lv st M (va_up P 1 q)) : X x pc lv (.ref (g.1 (24 * q)) :: .ref (g.1 144) :: st) M P := x_put h 5 M (va_up P 1 q) tyX5 (by decide) E_144 rfl (by decide) rfl tyX5_ok nmX5 rfl rfl rfl rfl (enc_now rfl (fun i => va_up_n _ _ (by omega))) hin hlink hd kk
end PTR
def StP (P : Nat → Nat) : Prop := (∀ i, i < 6 → P i < 6) ∧ ∀ i j, i < 6 → j < 6 → P i = P j → i = j
def rotP (P : Nat → Nat) : Nat → Nat := va_up (va_up (va_up (va_up (va_up (va_up P 2 (P 3)) 3 (P 4)) 4 (P 5)) 5 (P 0)) 0 (P 1)) 1 (P 2)
def unP (P : Nat → Nat) : Nat → Nat := va_up (va_up (va_up (va_up (va_up P 0 (P 5)) 5 (P 4)) 4 (P 3)) 3 (P 2)) 2 (P 0)
theorem rotP_i (P : Nat → Nat) : ∀ i, i < 6 → rotP P i = P ((i + 1) % 6) := by
  intro i hi
  rcases (show i = 0 ∨ i = 1 ∨ i = 2 ∨ i = 3 ∨ i = 4 ∨ i = 5 by omega) with rfl | rfl | rfl | rfl | rfl | rfl <;> rfl
def unS (i : Nat) : Nat := if i = 0 then 5 else if i = 1 then 1 else if i = 2 then 0 else i - 1
theorem unP_i (P : Nat → Nat) : ∀ i, i < 6 → unP P i = P (unS i) := by
  intro i hi
  rcases (show i = 0 ∨ i = 1 ∨ i = 2 ∨ i = 3 ∨ i = 4 ∨ i = 5 by omega) with rfl | rfl | rfl | rfl | rfl | rfl <;> rfl
theorem StP_rot {P : Nat → Nat} (h : StP P) : StP (rotP P) := ⟨fun i hi => by rw [rotP_i P i hi]; exact h.1 _ (Nat.mod_lt _ (by decide)), fun i j hi hj e => by
  rw [rotP_i P i hi, rotP_i P j hj] at e
  have := h.2 _ _ (Nat.mod_lt _ (by decide)) (Nat.mod_lt _ (by decide)) e
  omega⟩
theorem StP_un {P : Nat → Nat} (h : StP P) : StP (unP P) := ⟨fun i hi => by rw [unP_i P i hi]; exact h.1 _ (by unfold unS; split; omega; split; omega; split <;> omega), fun i j hi hj e => by
  rw [unP_i P i hi, unP_i P j hj] at e
  have l : ∀ i, i < 6 → unS i < 6 := fun i hi => by unfold unS; split; omega; split; omega; split <;> omega
  have := h.2 _ _ (l i hi) (l j hj) e
  unfold unS at this
  split at this <;> split at this <;> (try split at this) <;> (try split at this) <;> (try split at this) <;> (try split at this) <;> omega⟩
theorem GdX_lv {X Y : Nat → Int32} {N K : Nat} (h : GdX eC X N K) (hl : LvX X Y N K) : GdX eC Y N K := by
  obtain ⟨h1, h2, h3, h4, h5, h6, h7, h8⟩ := h
  obtain ⟨l1, l2, l3⟩ := hl
  refine ⟨(l1 5 (by omega)).trans h1, h2, (l1 6 (by omega)).trans h3, h4, ?_, ?_, fun k hk => ?_, fun i hi => ?_⟩
  · rw [l1 0 (by omega)]; exact h5
  · rw [l1 1 (by omega)]; exact h6
  · have a0 := l2 k hk 0 (by omega)
    have a1 := l2 k hk 1 (by omega)
    have a2 := l2 k hk 2 (by omega)
    have a3 := l2 k hk 3 (by omega)
    have a4 := l2 k hk 4 (by omega)
    have a5 := l2 k hk 5 (by omega)
    rw [Nat.add_zero] at a0
    have o : ∀ a, a < 162 → Y (7 + a) = X (7 + a) := fun a ha => l1 _ (by omega)
    obtain ⟨⟨p0, b1, b2, b3, b4⟩, ⟨p1, c1, c2, c3, c4⟩, d, e, f, g, i⟩ := h7 k hk
    refine ⟨⟨p0, b1, a0.trans b2, by rw [o p0 (by omega)]; exact b3, by rw [o _ (by omega)]; exact b4⟩, ⟨p1, c1, a1.trans c2, by rw [o p1 (by omega)]; exact c3, by rw [o _ (by omega)]; exact c4⟩, ?_, by rw [a3]; exact e, by rw [a4]; exact f, by rw [a5]; exact g, fun a ha => by rw [o a (by omega), o _ (by omega)]; exact i a ha⟩
    rw [a2]
    rcases d with d | ⟨p2, d1, d2, d3, d4⟩
    · exact Or.inl d
    · exact Or.inr ⟨p2, d1, d2, by rw [o p2 (by omega)]; exact d3, by rw [o _ (by omega)]; exact d4⟩
  · have a0 := l3 i hi 0 (by omega)
    rw [Nat.add_zero] at a0
    rw [a0, l3 i hi 1 (by omega)]; exact h8 i hi
theorem InvC_lv {X Y : Nat → Int32} {N K B : Nat} (h : InvC X N K B) (hl : LvX X Y N K) : InvC Y N K B := by
  obtain ⟨⟨hG, h1, h2, h3, ⟨pu, h4, h5⟩, hB⟩, hz⟩ := h
  have o : ∀ a, a < 162 → Y (7 + a) = X (7 + a) := fun a ha => hl.1 _ (by omega)
  refine ⟨⟨GdX_lv hG hl, fun a ha => by rw [o a ha]; exact h1 a ha, fun a ha => by rw [o a (by omega), o _ (by omega)]; exact h2 a ha, fun k hk a ha => ?_, ⟨pu, fun k hk => (hl.2.1 k hk 4 (by omega)).trans (h4 k hk), h5⟩, hB⟩, ZbX_cg (fun a ha => hl.1 _ (by omega)) hz⟩
  have a0 := hl.2.1 k hk 0 (by omega)
  rw [Nat.add_zero] at a0
  rw [o a (by omega), a0, hl.2.1 k hk 1 (by omega), hl.2.1 k hk 2 (by omega)]
  exact h3 k hk a ha
theorem LvX_rf (X : Nat → Int32) (N K : Nat) : LvX X X N K := ⟨fun _ _ => rfl, fun _ _ _ _ => rfl, fun _ _ _ _ => rfl⟩
def FrK (P : Nat → Nat) (M M' : Nat → Nat → Int32) : Prop := ∀ k, k ≠ P 1 → k ≠ 144 → k ≠ 147 → (k < 149 ∨ k = 150 ∨ 157 < k) → M' k = M k
def KpQ (s : Nat) (M : Nat → Nat → Int32) (P : Nat → Nat) (r : Int32) (M' : Nat → Nat → Int32) (P' : Nat → Nat) : Prop := (r < 0 ∧ P' = P ∧ M' 144 6 = nI s) ∨ (¬ r < 0 ∧ P' = rotP P ∧ M' 144 6 = nI (min (s + 1) 4))
theorem min4 {s : Nat} (h : s ≤ 4) : (if nI 4 < nI (s + 1) then nI 4 else nI (s + 1)) = nI (min (s + 1) 4) := by
  by_cases e : 4 < s + 1
  · rw [if_pos ((nI_ltI (by omega) (by omega)).mpr e), Nat.min_eq_right (by omega)]
  · rw [if_neg (fun q => e ((nI_ltI (by omega) (by omega)).mp q)), Nat.min_eq_left (by omega)]

set_option maxRecDepth 20000 in
theorem ggX5_freshTrial_X0_copyFrom : GoodIn wsX5_freshTrial wsX0_copyFrom := goodIn_r _ [7, 8, 9, 10, 11, 12, 13, 14, 15, 16, 17, 18, 19, 20, 21, 22, 23, 24, 25, 26, 27, 28, 29, 30, 31, 32, 33, 34, 35, 36, 37, 38, 39, 40, 41, 42, 43, 44, 45, 53, 54, 55, 56, 57, 58, 59, 60, 61, 62, 63, 64, 65, 66, 67, 68, 69, 70, 71, 72, 73, 74, 75, 76] (by decide +kernel) (by decide +kernel)
set_option maxRecDepth 20000 in
theorem gX5_freshTrial_X0_copyFrom : GoodIn wsX5_freshTrial (wsV RX5 158 RX0 yX0_copyFrom wsX0_copyFrom) := goodIn_app (goodIn_of _ (by decide +kernel)) ggX5_freshTrial_X0_copyFrom
theorem dX5_freshTrial_0 : decode cX5_freshTrial 0 = .ok (.aload_n 0, 1) := by decide +kernel
theorem dX5_freshTrial_1 : decode cX5_freshTrial 1 = .ok (.getfield 38, 3) := by decide +kernel
theorem dX5_freshTrial_4 : decode cX5_freshTrial 4 = .ok (.aload_n 0, 1) := by decide +kernel
theorem dX5_freshTrial_5 : decode cX5_freshTrial 5 = .ok (.getfield 34, 3) := by decide +kernel
theorem dX5_freshTrial_8 : decode cX5_freshTrial 8 = .ok (.invokevirtual 158, 3) := by decide +kernel
theorem dX5_freshTrial_11 : decode cX5_freshTrial 11 = .ok (.aload_n 0, 1) := by decide +kernel
theorem dX5_freshTrial_12 : decode cX5_freshTrial 12 = .ok (.getfield 38, 3) := by decide +kernel
theorem dX5_freshTrial_15 : decode cX5_freshTrial 15 = .ok (.areturn, 1) := by decide +kernel
abbrev rmX5_freshTrial : Room := { frames := 2, cells := 0, slots := 0, locals := 62 }
set_option maxRecDepth 20000 in
theorem in_X5_freshTrial_X5 : ∀ w ∈ wsX50, w ∈ wsX5_freshTrial := by decide +kernel

set_option maxRecDepth 100000 in
set_option maxHeartbeats 4000000 in
theorem c_X5_freshTrial {l : Launch} {g : Geo} {M : Nat → Nat → Int32} {P : Nat → Nat} (hP : StP P) {N K B : Nat} (hI : InvC (M (P 0)) N K B) : Met l yX5_freshTrial wsX5_freshTrial rmX5_freshTrial (cPre g [.ref (g.1 144)] M P) (cQr g (fun q M' P' => q = 24 * P 1 ∧ P = P' ∧ (∀ k, k ≠ P 1 → M' k = M k) ∧ LvX (M (P 0)) (M' (P 1)) N K)) 0 0 (gA g) := by
  refine met_r (cc := cX5_freshTrial) (maxL := 1) (by decide) rfl ⟨rfl, rfl⟩ (Nat.le_of_ble_eq_true rfl) (fun x hx h hret => ?_)
  replace h : Cxk x g cX5_freshTrial 1 wsX5_freshTrial RX5 rmX5_freshTrial := h
  show X x 0 [(0, .ref (g.1 144))] [] M P
  refine x_aload_n h 0 dX5_freshTrial_0 rfl rfl ?_
  refine xg_X5_5 h in_X5_freshTrial_X5 (by decide +kernel) dX5_freshTrial_1 ?_
  refine x_aload_n h 0 dX5_freshTrial_4 rfl rfl ?_
  refine xg_X5_4 h in_X5_freshTrial_X5 (by decide +kernel) dX5_freshTrial_5 ?_
  refine x_callVv h (As := [.ref (g.1 (24 * (P 0)))]) 1 hx (c_X0_copyFrom (hP.1 1 (by decide)) (hP.1 0 (by decide)) (fun e => absurd (hP.2 0 1 (by decide) (by decide) e) (by decide)) hI.1.1) gX5_freshTrial_X0_copyFrom rfl ⟨rfl, rfl⟩ (by decide +kernel) rfl (by decide) (hk_chip (hP.1 1 (by decide))) (E_chip (hP.1 1 (by decide))) rfl rfl (Nat.le_of_ble_eq_true rfl) dX5_freshTrial_8 (fun M8 P' hp => ?_)
  obtain ⟨rfl, ha, hb⟩ := hp
  refine x_aload_n h 0 dX5_freshTrial_11 rfl rfl ?_
  refine xg_X5_5 h in_X5_freshTrial_X5 (by decide +kernel) dX5_freshTrial_12 ?_
  exact hret _ _ (24 * (P 1)) _ _ dX5_freshTrial_15 (by exact ⟨rfl, rfl, ha, hb⟩)

theorem dX5_keepTrial_0 : decode cX5_keepTrial 0 = .ok (.iload_n 1, 1) := by decide +kernel
theorem dX5_keepTrial_1 : decode cX5_keepTrial 1 = .ok (.ifCond .ge 5, 3) := by decide +kernel
theorem dX5_keepTrial_4 : decode cX5_keepTrial 4 = .ok (.iload_n 1, 1) := by decide +kernel
theorem dX5_keepTrial_5 : decode cX5_keepTrial 5 = .ok (.ireturn, 1) := by decide +kernel
theorem dX5_keepTrial_6 : decode cX5_keepTrial 6 = .ok (.aload_n 0, 1) := by decide +kernel
theorem dX5_keepTrial_7 : decode cX5_keepTrial 7 = .ok (.getfield 25, 3) := by decide +kernel
theorem dX5_keepTrial_10 : decode cX5_keepTrial 10 = .ok (.iconst 0, 1) := by decide +kernel
theorem dX5_keepTrial_11 : decode cX5_keepTrial 11 = .ok (.aaload, 1) := by decide +kernel
theorem dX5_keepTrial_12 : decode cX5_keepTrial 12 = .ok (.astore_n 2, 1) := by decide +kernel
theorem dX5_keepTrial_13 : decode cX5_keepTrial 13 = .ok (.iconst 0, 1) := by decide +kernel
theorem dX5_keepTrial_14 : decode cX5_keepTrial 14 = .ok (.istore_n 3, 1) := by decide +kernel
theorem dX5_keepTrial_15 : decode cX5_keepTrial 15 = .ok (.iload_n 3, 1) := by decide +kernel
theorem dX5_keepTrial_16 : decode cX5_keepTrial 16 = .ok (.iconst 3, 1) := by decide +kernel
theorem dX5_keepTrial_17 : decode cX5_keepTrial 17 = .ok (.if_icmp .ge 23, 3) := by decide +kernel
theorem dX5_keepTrial_20 : decode cX5_keepTrial 20 = .ok (.aload_n 0, 1) := by decide +kernel
theorem dX5_keepTrial_21 : decode cX5_keepTrial 21 = .ok (.getfield 25, 3) := by decide +kernel
theorem dX5_keepTrial_24 : decode cX5_keepTrial 24 = .ok (.iload_n 3, 1) := by decide +kernel
theorem dX5_keepTrial_25 : decode cX5_keepTrial 25 = .ok (.aload_n 0, 1) := by decide +kernel
theorem dX5_keepTrial_26 : decode cX5_keepTrial 26 = .ok (.getfield 25, 3) := by decide +kernel
theorem dX5_keepTrial_29 : decode cX5_keepTrial 29 = .ok (.iload_n 3, 1) := by decide +kernel
theorem dX5_keepTrial_30 : decode cX5_keepTrial 30 = .ok (.iconst 1, 1) := by decide +kernel
theorem dX5_keepTrial_31 : decode cX5_keepTrial 31 = .ok (.iadd, 1) := by decide +kernel
theorem dX5_keepTrial_32 : decode cX5_keepTrial 32 = .ok (.aaload, 1) := by decide +kernel
theorem dX5_keepTrial_33 : decode cX5_keepTrial 33 = .ok (.aastore, 1) := by decide +kernel
theorem dX5_keepTrial_34 : decode cX5_keepTrial 34 = .ok (.iinc 3 1, 3) := by decide +kernel
theorem dX5_keepTrial_37 : decode cX5_keepTrial 37 = .ok (.goto (-22), 3) := by decide +kernel
theorem dX5_keepTrial_40 : decode cX5_keepTrial 40 = .ok (.aload_n 0, 1) := by decide +kernel
theorem dX5_keepTrial_41 : decode cX5_keepTrial 41 = .ok (.getfield 25, 3) := by decide +kernel
theorem dX5_keepTrial_44 : decode cX5_keepTrial 44 = .ok (.iconst 3, 1) := by decide +kernel
theorem dX5_keepTrial_45 : decode cX5_keepTrial 45 = .ok (.aload_n 0, 1) := by decide +kernel
theorem dX5_keepTrial_46 : decode cX5_keepTrial 46 = .ok (.getfield 34, 3) := by decide +kernel
theorem dX5_keepTrial_49 : decode cX5_keepTrial 49 = .ok (.aastore, 1) := by decide +kernel
theorem dX5_keepTrial_50 : decode cX5_keepTrial 50 = .ok (.aload_n 0, 1) := by decide +kernel
theorem dX5_keepTrial_51 : decode cX5_keepTrial 51 = .ok (.aload_n 0, 1) := by decide +kernel
theorem dX5_keepTrial_52 : decode cX5_keepTrial 52 = .ok (.getfield 38, 3) := by decide +kernel
theorem dX5_keepTrial_55 : decode cX5_keepTrial 55 = .ok (.putfield 34, 3) := by decide +kernel
theorem dX5_keepTrial_58 : decode cX5_keepTrial 58 = .ok (.aload_n 0, 1) := by decide +kernel
theorem dX5_keepTrial_59 : decode cX5_keepTrial 59 = .ok (.aload_n 2, 1) := by decide +kernel
theorem dX5_keepTrial_60 : decode cX5_keepTrial 60 = .ok (.putfield 38, 3) := by decide +kernel
theorem dX5_keepTrial_63 : decode cX5_keepTrial 63 = .ok (.aload_n 0, 1) := by decide +kernel
theorem dX5_keepTrial_64 : decode cX5_keepTrial 64 = .ok (.aload_n 0, 1) := by decide +kernel
theorem dX5_keepTrial_65 : decode cX5_keepTrial 65 = .ok (.getfield 41, 3) := by decide +kernel
theorem dX5_keepTrial_68 : decode cX5_keepTrial 68 = .ok (.iconst 1, 1) := by decide +kernel
theorem dX5_keepTrial_69 : decode cX5_keepTrial 69 = .ok (.iadd, 1) := by decide +kernel
theorem dX5_keepTrial_70 : decode cX5_keepTrial 70 = .ok (.iconst 4, 1) := by decide +kernel
theorem dX5_keepTrial_71 : decode cX5_keepTrial 71 = .ok (.invokestatic 162, 3) := by decide +kernel
theorem dX5_keepTrial_74 : decode cX5_keepTrial 74 = .ok (.putfield 41, 3) := by decide +kernel
theorem dX5_keepTrial_77 : decode cX5_keepTrial 77 = .ok (.iload_n 1, 1) := by decide +kernel
theorem dX5_keepTrial_78 : decode cX5_keepTrial 78 = .ok (.ireturn, 1) := by decide +kernel
abbrev rmX5_keepTrial : Room := { frames := 1, cells := 0, slots := 0, locals := 40 }
set_option maxRecDepth 20000 in
theorem in_X5_keepTrial_X5 : ∀ w ∈ wsX50, w ∈ wsX5_keepTrial := by decide +kernel

set_option maxRecDepth 100000 in
set_option maxHeartbeats 4000000 in
theorem c_X5_keepTrial {l : Launch} {g : Geo} {M : Nat → Nat → Int32} {P : Nat → Nat} (hP : StP P) {s : Nat} (hs : M 144 6 = nI s) (hs4 : s ≤ 4) {a : Int32} : Met l yX5_keepTrial wsX5_keepTrial rmX5_keepTrial (cPre g [.ref (g.1 144), .int a] M P) (cQi g (fun r M' P' => r = a ∧ ((a < 0 ∧ P' = P ∧ M' = M) ∨ (¬ a < 0 ∧ P' = rotP P ∧ M' = st2 M 144 6 (nI (min (s + 1) 4)))))) 0 0 (gA g) := by
  refine met_i (cc := cX5_keepTrial) (maxL := 4) (by decide) rfl ⟨rfl, rfl⟩ (Nat.le_of_ble_eq_true rfl) (fun x hx h hret => ?_)
  replace h : Cxk x g cX5_keepTrial 4 wsX5_keepTrial RX5 rmX5_keepTrial := h
  show X x 0 [(0, .ref (g.1 144)), (1, .int a)] [] M P
  refine x_iload_n h 1 dX5_keepTrial_0 rfl rfl ?_
  refine x_if_ge h 6 dX5_keepTrial_1 (by decide) (fun c_1 => ?_) (fun c_1 => ?_)
  · -- 1 true
    refine x_aload_n h 0 dX5_keepTrial_6 rfl rfl ?_
    refine xg_X5_2 h in_X5_keepTrial_X5 (by decide +kernel) dX5_keepTrial_7 ?_
    refine x_iconst h (nI 0) dX5_keepTrial_10 (by decide) ?_
    refine xa_145 h dX5_keepTrial_11 (by decide) ?_
    refine x_topr (P 2) (by rfl) ?_
    refine x_astore_n h [(2, .ref (g.1 (24 * (P 2)))), (0, .ref (g.1 144)), (1, .int a)] dX5_keepTrial_12 rfl (by decide) rfl ?_
    refine x_iconst h (nI 0) dX5_keepTrial_13 (by decide) ?_
    refine x_istore_n h [(3, .int (nI 0)), (2, .ref (g.1 (24 * (P 2)))), (0, .ref (g.1 144)), (1, .int a)] dX5_keepTrial_14 rfl (by decide) rfl ?_
    refine x_iload_n h 0 dX5_keepTrial_15 rfl rfl ?_
    refine x_iconst h (nI 3) dX5_keepTrial_16 (by decide) ?_
    refine x_icmp_ge h 40 dX5_keepTrial_17 (by decide) (fun c => absurd c (by decide)) (fun _ => ?_)
    refine x_aload_n h 2 dX5_keepTrial_20 rfl rfl ?_
    refine xg_X5_2 h in_X5_keepTrial_X5 (by decide +kernel) dX5_keepTrial_21 ?_
    refine x_iload_n h 0 dX5_keepTrial_24 rfl rfl ?_
    refine x_aload_n h 2 dX5_keepTrial_25 rfl rfl ?_
    refine xg_X5_2 h in_X5_keepTrial_X5 (by decide +kernel) dX5_keepTrial_26 ?_
    refine x_iload_n h 0 dX5_keepTrial_29 rfl rfl ?_
    refine x_iconst h (nI 1) dX5_keepTrial_30 (by decide) ?_
    refine x_iadd_n h dX5_keepTrial_31 ?_
    refine xa_145 h dX5_keepTrial_32 (by decide) ?_
    refine x_topr (P 3) (by rfl) ?_
    refine x_past h (j := 0) (by decide) (hP.1 3 (by decide)) dX5_keepTrial_33 ?_
    refine x_iinc_n h 0 (n := 1) [(3, .int (nI 1)), (2, .ref (g.1 (24 * (P 2)))), (0, .ref (g.1 144)), (1, .int a)] dX5_keepTrial_34 rfl (by decide) rfl ?_
    refine x_goto h 15 dX5_keepTrial_37 (by decide) ?_
    refine x_iload_n h 0 dX5_keepTrial_15 rfl rfl ?_
    refine x_iconst h (nI 3) dX5_keepTrial_16 (by decide) ?_
    refine x_icmp_ge h 40 dX5_keepTrial_17 (by decide) (fun c => absurd c (by decide)) (fun _ => ?_)
    refine x_aload_n h 2 dX5_keepTrial_20 rfl rfl ?_
    refine xg_X5_2 h in_X5_keepTrial_X5 (by decide +kernel) dX5_keepTrial_21 ?_
    refine x_iload_n h 0 dX5_keepTrial_24 rfl rfl ?_
    refine x_aload_n h 2 dX5_keepTrial_25 rfl rfl ?_
    refine xg_X5_2 h in_X5_keepTrial_X5 (by decide +kernel) dX5_keepTrial_26 ?_
    refine x_iload_n h 0 dX5_keepTrial_29 rfl rfl ?_
    refine x_iconst h (nI 1) dX5_keepTrial_30 (by decide) ?_
    refine x_iadd_n h dX5_keepTrial_31 ?_
    refine xa_145 h dX5_keepTrial_32 (by decide) ?_
    refine x_topr (P 4) (by rfl) ?_
    refine x_past h (j := 1) (by decide) (hP.1 4 (by decide)) dX5_keepTrial_33 ?_
    refine x_iinc_n h 0 (n := 1) [(3, .int (nI 2)), (2, .ref (g.1 (24 * (P 2)))), (0, .ref (g.1 144)), (1, .int a)] dX5_keepTrial_34 rfl (by decide) rfl ?_
    refine x_goto h 15 dX5_keepTrial_37 (by decide) ?_
    refine x_iload_n h 0 dX5_keepTrial_15 rfl rfl ?_
    refine x_iconst h (nI 3) dX5_keepTrial_16 (by decide) ?_
    refine x_icmp_ge h 40 dX5_keepTrial_17 (by decide) (fun c => absurd c (by decide)) (fun _ => ?_)
    refine x_aload_n h 2 dX5_keepTrial_20 rfl rfl ?_
    refine xg_X5_2 h in_X5_keepTrial_X5 (by decide +kernel) dX5_keepTrial_21 ?_
    refine x_iload_n h 0 dX5_keepTrial_24 rfl rfl ?_
    refine x_aload_n h 2 dX5_keepTrial_25 rfl rfl ?_
    refine xg_X5_2 h in_X5_keepTrial_X5 (by decide +kernel) dX5_keepTrial_26 ?_
    refine x_iload_n h 0 dX5_keepTrial_29 rfl rfl ?_
    refine x_iconst h (nI 1) dX5_keepTrial_30 (by decide) ?_
    refine x_iadd_n h dX5_keepTrial_31 ?_
    refine xa_145 h dX5_keepTrial_32 (by decide) ?_
    refine x_topr (P 5) (by rfl) ?_
    refine x_past h (j := 2) (by decide) (hP.1 5 (by decide)) dX5_keepTrial_33 ?_
    refine x_iinc_n h 0 (n := 1) [(3, .int (nI 3)), (2, .ref (g.1 (24 * (P 2)))), (0, .ref (g.1 144)), (1, .int a)] dX5_keepTrial_34 rfl (by decide) rfl ?_
    refine x_goto h 15 dX5_keepTrial_37 (by decide) ?_
    refine x_iload_n h 0 dX5_keepTrial_15 rfl rfl ?_
    refine x_iconst h (nI 3) dX5_keepTrial_16 (by decide) ?_
    refine x_icmp_ge h 40 dX5_keepTrial_17 (by decide) (fun _ => ?_) (fun c => absurd (by decide) c)
    refine x_aload_n h 2 dX5_keepTrial_40 rfl rfl ?_
    refine xg_X5_2 h in_X5_keepTrial_X5 (by decide +kernel) dX5_keepTrial_41 ?_
    refine x_iconst h (nI 3) dX5_keepTrial_44 (by decide) ?_
    refine x_aload_n h 2 dX5_keepTrial_45 rfl rfl ?_
    refine xg_X5_4 h in_X5_keepTrial_X5 (by decide +kernel) dX5_keepTrial_46 ?_
    refine x_topr (P 0) (by rfl) ?_
    refine x_past h (j := 3) (by decide) (hP.1 0 (by decide)) dX5_keepTrial_49 ?_
    refine x_aload_n h 2 dX5_keepTrial_50 rfl rfl ?_
    refine x_aload_n h 2 dX5_keepTrial_51 rfl rfl ?_
    refine xg_X5_5 h in_X5_keepTrial_X5 (by decide +kernel) dX5_keepTrial_52 ?_
    refine x_topr (P 1) (by rfl) ?_
    refine x_pnow h in_X5_keepTrial_X5 (by decide +kernel) dX5_keepTrial_55 ?_
    refine x_aload_n h 2 dX5_keepTrial_58 rfl rfl ?_
    refine x_aload_n h 1 dX5_keepTrial_59 rfl rfl ?_
    refine x_ptrial h in_X5_keepTrial_X5 (by decide +kernel) dX5_keepTrial_60 ?_
    refine x_aload_n h 2 dX5_keepTrial_63 rfl rfl ?_
    refine x_aload_n h 2 dX5_keepTrial_64 rfl rfl ?_
    refine xg_X5_6 h in_X5_keepTrial_X5 (by decide +kernel) dX5_keepTrial_65 ?_
    refine x_top (nI s) (hs) ?_
    refine x_iconst h (nI 1) dX5_keepTrial_68 (by decide) ?_
    refine x_iadd_n h dX5_keepTrial_69 ?_
    refine x_iconst h (nI 4) dX5_keepTrial_70 (by decide) ?_
    refine x_mmin h (by decide +kernel) ⟨Nat.le_of_ble_eq_true rfl, Nat.le_of_ble_eq_true rfl⟩ dX5_keepTrial_71 ?_
    refine x_top (nI (min (s + 1) 4)) (min4 hs4) ?_
    refine xp_X5_6 h in_X5_keepTrial_X5 (by decide +kernel) dX5_keepTrial_74 ?_
    refine x_iload_n h 3 dX5_keepTrial_77 rfl rfl ?_
    exact hret _ _ _ _ _ dX5_keepTrial_78 (by exact ⟨rfl, Or.inr ⟨Int32.not_lt.mpr c_1, rfl, rfl⟩⟩)
  · -- 1 false
    refine x_iload_n h 1 dX5_keepTrial_4 rfl rfl ?_
    exact hret _ _ _ _ _ dX5_keepTrial_5 (by exact ⟨rfl, Or.inl ⟨Int32.not_le.mp c_1, rfl, rfl⟩⟩)

theorem dX5_undo_0 : decode cX5_undo 0 = .ok (.aload_n 0, 1) := by decide +kernel
theorem dX5_undo_1 : decode cX5_undo 1 = .ok (.getfield 41, 3) := by decide +kernel
theorem dX5_undo_4 : decode cX5_undo 4 = .ok (.ifCond .ne 6, 3) := by decide +kernel
theorem dX5_undo_7 : decode cX5_undo 7 = .ok (.ldc 141, 2) := by decide +kernel
theorem dX5_undo_9 : decode cX5_undo 9 = .ok (.ireturn, 1) := by decide +kernel
theorem dX5_undo_10 : decode cX5_undo 10 = .ok (.aload_n 0, 1) := by decide +kernel
theorem dX5_undo_11 : decode cX5_undo 11 = .ok (.getfield 34, 3) := by decide +kernel
theorem dX5_undo_14 : decode cX5_undo 14 = .ok (.astore_n 1, 1) := by decide +kernel
theorem dX5_undo_15 : decode cX5_undo 15 = .ok (.aload_n 0, 1) := by decide +kernel
theorem dX5_undo_16 : decode cX5_undo 16 = .ok (.aload_n 0, 1) := by decide +kernel
theorem dX5_undo_17 : decode cX5_undo 17 = .ok (.getfield 25, 3) := by decide +kernel
theorem dX5_undo_20 : decode cX5_undo 20 = .ok (.iconst 3, 1) := by decide +kernel
theorem dX5_undo_21 : decode cX5_undo 21 = .ok (.aaload, 1) := by decide +kernel
theorem dX5_undo_22 : decode cX5_undo 22 = .ok (.putfield 34, 3) := by decide +kernel
theorem dX5_undo_25 : decode cX5_undo 25 = .ok (.iconst 3, 1) := by decide +kernel
theorem dX5_undo_26 : decode cX5_undo 26 = .ok (.istore_n 2, 1) := by decide +kernel
theorem dX5_undo_27 : decode cX5_undo 27 = .ok (.iload_n 2, 1) := by decide +kernel
theorem dX5_undo_28 : decode cX5_undo 28 = .ok (.ifCond .le 23, 3) := by decide +kernel
theorem dX5_undo_31 : decode cX5_undo 31 = .ok (.aload_n 0, 1) := by decide +kernel
theorem dX5_undo_32 : decode cX5_undo 32 = .ok (.getfield 25, 3) := by decide +kernel
theorem dX5_undo_35 : decode cX5_undo 35 = .ok (.iload_n 2, 1) := by decide +kernel
theorem dX5_undo_36 : decode cX5_undo 36 = .ok (.aload_n 0, 1) := by decide +kernel
theorem dX5_undo_37 : decode cX5_undo 37 = .ok (.getfield 25, 3) := by decide +kernel
theorem dX5_undo_40 : decode cX5_undo 40 = .ok (.iload_n 2, 1) := by decide +kernel
theorem dX5_undo_41 : decode cX5_undo 41 = .ok (.iconst 1, 1) := by decide +kernel
theorem dX5_undo_42 : decode cX5_undo 42 = .ok (.isub, 1) := by decide +kernel
theorem dX5_undo_43 : decode cX5_undo 43 = .ok (.aaload, 1) := by decide +kernel
theorem dX5_undo_44 : decode cX5_undo 44 = .ok (.aastore, 1) := by decide +kernel
theorem dX5_undo_45 : decode cX5_undo 45 = .ok (.iinc 2 (-1), 3) := by decide +kernel
theorem dX5_undo_48 : decode cX5_undo 48 = .ok (.goto (-21), 3) := by decide +kernel
theorem dX5_undo_51 : decode cX5_undo 51 = .ok (.aload_n 0, 1) := by decide +kernel
theorem dX5_undo_52 : decode cX5_undo 52 = .ok (.getfield 25, 3) := by decide +kernel
theorem dX5_undo_55 : decode cX5_undo 55 = .ok (.iconst 0, 1) := by decide +kernel
theorem dX5_undo_56 : decode cX5_undo 56 = .ok (.aload_n 1, 1) := by decide +kernel
theorem dX5_undo_57 : decode cX5_undo 57 = .ok (.aastore, 1) := by decide +kernel
theorem dX5_undo_58 : decode cX5_undo 58 = .ok (.aload_n 0, 1) := by decide +kernel
theorem dX5_undo_59 : decode cX5_undo 59 = .ok (.dup, 1) := by decide +kernel
theorem dX5_undo_60 : decode cX5_undo 60 = .ok (.getfield 41, 3) := by decide +kernel
theorem dX5_undo_63 : decode cX5_undo 63 = .ok (.iconst 1, 1) := by decide +kernel
theorem dX5_undo_64 : decode cX5_undo 64 = .ok (.isub, 1) := by decide +kernel
theorem dX5_undo_65 : decode cX5_undo 65 = .ok (.putfield 41, 3) := by decide +kernel
theorem dX5_undo_68 : decode cX5_undo 68 = .ok (.aload_n 0, 1) := by decide +kernel
theorem dX5_undo_69 : decode cX5_undo 69 = .ok (.getfield 41, 3) := by decide +kernel
theorem dX5_undo_72 : decode cX5_undo 72 = .ok (.ireturn, 1) := by decide +kernel
abbrev rmX5_undo : Room := { frames := 0, cells := 0, slots := 0, locals := 0 }
set_option maxRecDepth 20000 in
theorem in_X5_undo_X5 : ∀ w ∈ wsX50, w ∈ wsX5_undo := by decide +kernel

set_option maxRecDepth 100000 in
set_option maxHeartbeats 4000000 in
theorem c_X5_undo {l : Launch} {g : Geo} {M : Nat → Nat → Int32} {P : Nat → Nat} (hP : StP P) {s : Nat} (hs : M 144 6 = nI s) (hs4 : s ≤ 4) : Met l yX5_undo wsX5_undo rmX5_undo (cPre g [.ref (g.1 144)] M P) (cQi g (fun r M' P' => (s = 0 ∧ r = -1000002 ∧ P' = P ∧ M' = M) ∨ (s ≠ 0 ∧ r = nI (s - 1) ∧ P' = unP P ∧ M' = st2 M 144 6 (nI (s - 1))))) 0 0 (gA g) := by
  refine met_i (cc := cX5_undo) (maxL := 3) (by decide) rfl ⟨rfl, rfl⟩ (Nat.le_of_ble_eq_true rfl) (fun x hx h hret => ?_)
  replace h : Cxk x g cX5_undo 3 wsX5_undo RX5 rmX5_undo := h
  show X x 0 [(0, .ref (g.1 144))] [] M P
  refine x_aload_n h 0 dX5_undo_0 rfl rfl ?_
  refine xg_X5_6 h in_X5_undo_X5 (by decide +kernel) dX5_undo_1 ?_
  refine x_top (nI s) (hs) ?_
  refine x_if_ne_n h 10 dX5_undo_4 (by decide) (by omega) (fun c_4 => ?_) (fun c_4 => ?_)
  · -- 4 true
    refine x_aload_n h 0 dX5_undo_10 rfl rfl ?_
    refine xg_X5_4 h in_X5_undo_X5 (by decide +kernel) dX5_undo_11 ?_
    refine x_topr (P 0) (by rfl) ?_
    refine x_astore_n h [(1, .ref (g.1 (24 * (P 0)))), (0, .ref (g.1 144))] dX5_undo_14 rfl (by decide) rfl ?_
    refine x_aload_n h 1 dX5_undo_15 rfl rfl ?_
    refine x_aload_n h 1 dX5_undo_16 rfl rfl ?_
    refine xg_X5_2 h in_X5_undo_X5 (by decide +kernel) dX5_undo_17 ?_
    refine x_iconst h (nI 3) dX5_undo_20 (by decide) ?_
    refine xa_145 h dX5_undo_21 (by decide) ?_
    refine x_topr (P 5) (by rfl) ?_
    refine x_pnow h in_X5_undo_X5 (by decide +kernel) dX5_undo_22 ?_
    refine x_iconst h (nI 3) dX5_undo_25 (by decide) ?_
    refine x_istore_n h [(2, .int (nI 3)), (1, .ref (g.1 (24 * (P 0)))), (0, .ref (g.1 144))] dX5_undo_26 rfl (by decide) rfl ?_
    refine x_iload_n h 0 dX5_undo_27 rfl rfl ?_
    refine x_if_le h 51 dX5_undo_28 (by decide) (fun c => absurd c (by decide)) (fun _ => ?_)
    refine x_aload_n h 2 dX5_undo_31 rfl rfl ?_
    refine xg_X5_2 h in_X5_undo_X5 (by decide +kernel) dX5_undo_32 ?_
    refine x_iload_n h 0 dX5_undo_35 rfl rfl ?_
    refine x_aload_n h 2 dX5_undo_36 rfl rfl ?_
    refine xg_X5_2 h in_X5_undo_X5 (by decide +kernel) dX5_undo_37 ?_
    refine x_iload_n h 0 dX5_undo_40 rfl rfl ?_
    refine x_iconst h (nI 1) dX5_undo_41 (by decide) ?_
    refine x_isub_n h dX5_undo_42 (by decide) ?_
    refine xa_145 h dX5_undo_43 (by decide) ?_
    refine x_topr (P 4) (by rfl) ?_
    refine x_past h (j := 3) (by decide) (hP.1 4 (by decide)) dX5_undo_44 ?_
    refine x_iinc h 0 (v := nI 2) [(2, .int (nI 2)), (1, .ref (g.1 (24 * (P 0)))), (0, .ref (g.1 144))] dX5_undo_45 rfl (by decide) (by decide) rfl ?_
    refine x_goto h 27 dX5_undo_48 (by decide) ?_
    refine x_iload_n h 0 dX5_undo_27 rfl rfl ?_
    refine x_if_le h 51 dX5_undo_28 (by decide) (fun c => absurd c (by decide)) (fun _ => ?_)
    refine x_aload_n h 2 dX5_undo_31 rfl rfl ?_
    refine xg_X5_2 h in_X5_undo_X5 (by decide +kernel) dX5_undo_32 ?_
    refine x_iload_n h 0 dX5_undo_35 rfl rfl ?_
    refine x_aload_n h 2 dX5_undo_36 rfl rfl ?_
    refine xg_X5_2 h in_X5_undo_X5 (by decide +kernel) dX5_undo_37 ?_
    refine x_iload_n h 0 dX5_undo_40 rfl rfl ?_
    refine x_iconst h (nI 1) dX5_undo_41 (by decide) ?_
    refine x_isub_n h dX5_undo_42 (by decide) ?_
    refine xa_145 h dX5_undo_43 (by decide) ?_
    refine x_topr (P 3) (by rfl) ?_
    refine x_past h (j := 2) (by decide) (hP.1 3 (by decide)) dX5_undo_44 ?_
    refine x_iinc h 0 (v := nI 1) [(2, .int (nI 1)), (1, .ref (g.1 (24 * (P 0)))), (0, .ref (g.1 144))] dX5_undo_45 rfl (by decide) (by decide) rfl ?_
    refine x_goto h 27 dX5_undo_48 (by decide) ?_
    refine x_iload_n h 0 dX5_undo_27 rfl rfl ?_
    refine x_if_le h 51 dX5_undo_28 (by decide) (fun c => absurd c (by decide)) (fun _ => ?_)
    refine x_aload_n h 2 dX5_undo_31 rfl rfl ?_
    refine xg_X5_2 h in_X5_undo_X5 (by decide +kernel) dX5_undo_32 ?_
    refine x_iload_n h 0 dX5_undo_35 rfl rfl ?_
    refine x_aload_n h 2 dX5_undo_36 rfl rfl ?_
    refine xg_X5_2 h in_X5_undo_X5 (by decide +kernel) dX5_undo_37 ?_
    refine x_iload_n h 0 dX5_undo_40 rfl rfl ?_
    refine x_iconst h (nI 1) dX5_undo_41 (by decide) ?_
    refine x_isub_n h dX5_undo_42 (by decide) ?_
    refine xa_145 h dX5_undo_43 (by decide) ?_
    refine x_topr (P 2) (by rfl) ?_
    refine x_past h (j := 1) (by decide) (hP.1 2 (by decide)) dX5_undo_44 ?_
    refine x_iinc h 0 (v := nI 0) [(2, .int (nI 0)), (1, .ref (g.1 (24 * (P 0)))), (0, .ref (g.1 144))] dX5_undo_45 rfl (by decide) (by decide) rfl ?_
    refine x_goto h 27 dX5_undo_48 (by decide) ?_
    refine x_iload_n h 0 dX5_undo_27 rfl rfl ?_
    refine x_if_le h 51 dX5_undo_28 (by decide) (fun _ => ?_) (fun c => absurd (by decide) c)
    refine x_aload_n h 2 dX5_undo_51 rfl rfl ?_
    refine xg_X5_2 h in_X5_undo_X5 (by decide +kernel) dX5_undo_52 ?_
    refine x_iconst h (nI 0) dX5_undo_55 (by decide) ?_
    refine x_aload_n h 1 dX5_undo_56 rfl rfl ?_
    refine x_topr (P 0) (by rfl) ?_
    refine x_past h (j := 0) (by decide) (hP.1 0 (by decide)) dX5_undo_57 ?_
    refine x_aload_n h 2 dX5_undo_58 rfl rfl ?_
    refine x_dup h dX5_undo_59 rfl ?_
    refine xg_X5_6 h in_X5_undo_X5 (by decide +kernel) dX5_undo_60 ?_
    refine x_top (nI s) (hs) ?_
    refine x_iconst h (nI 1) dX5_undo_63 (by decide) ?_
    refine x_isub_n h dX5_undo_64 (by omega) ?_
    refine xp_X5_6 h in_X5_undo_X5 (by decide +kernel) dX5_undo_65 ?_
    refine x_aload_n h 2 dX5_undo_68 rfl rfl ?_
    refine xg_X5_6 h in_X5_undo_X5 (by decide +kernel) dX5_undo_69 ?_
    refine x_top (nI (s - 1)) (by rw [st2_k, pk_us]) ?_
    exact hret _ _ _ _ _ dX5_undo_72 (by exact Or.inr ⟨c_4, rfl, rfl, rfl⟩)
  · -- 4 false
    refine x_ldc h ((-1000002)) (by decide +kernel) dX5_undo_7 ?_
    exact hret _ _ _ _ _ dX5_undo_9 (by exact Or.inl ⟨c_4, rfl, rfl, rfl⟩)
