abbrev vwCl : List vw_C := [(RX0, TX0, 8), (RX1, TX1, 7), (RX2, TX2, 9), (RX3, TX3, 15), (RX4, TX4, 5), (RX5, TX5, 7)]
/-! THE WORLD: 158 cells; their ints are M, the changing pointers are P, the addresses and classes are the geometry g -/
abbrev Geo : Type := (Nat → Nat) × va_G × (Nat → ClassId) × (Nat → Nat)
def wW (ad : Nat → Nat) (E : Nat → va_E) : va_W := (List.range 158).map (fun k => (ad k, E k))
theorem wW_get {ad : Nat → Nat} {E : Nat → va_E} {k : Nat} (h : k < 158) : (wW ad E)[k]? = some (ad k, E k) := by
  unfold wW
  rw [List.getElem?_map, List.getElem?_range h]
  rfl
theorem wW_len {ad : Nat → Nat} {E : Nat → va_E} : (wW ad E).length = 158 := by simp [wW]
theorem wW_at {ad : Nat → Nat} {E : Nat → va_E} {k : Nat} {q : Nat × va_E} (h : (wW ad E)[k]? = some q) : k < 158 ∧ q = (ad k, E k) := by
  have hl : k < 158 := by
    have := (List.getElem?_eq_some_iff.mp h).1
    rwa [wW_len] at this
  exact ⟨hl, (Option.some.inj ((wW_get hl).symm.trans h)).symm⟩
theorem wW_set {ad : Nat → Nat} {E : Nat → va_E} {k : Nat} {e : va_E} (h : k < 158) : (wW ad E).set k (ad k, e) = wW ad (va_up E k e) := by
  apply List.ext_getElem?
  intro i
  by_cases hi : i < 158
  · rw [wW_get hi]
    by_cases hik : i = k
    · subst hik
      rw [List.getElem?_set_self (by rw [wW_len]; exact hi)]
      simp [va_up]
    · rw [List.getElem?_set_ne (fun e => hik e.symm), wW_get hi]
      simp [va_up, hik]
  · rw [List.getElem?_eq_none (by rw [List.length_set, wW_len]; omega), List.getElem?_eq_none (by rw [wW_len]; omega)]
def st2 (M : Nat → Nat → Int32) (k j : Nat) (v : Int32) : Nat → Nat → Int32 := fun a => if a = k then upd (M a) j v else M a
theorem st2_k (M : Nat → Nat → Int32) (k j : Nat) (v : Int32) : st2 M k j v k = upd (M k) j v := by simp [st2]
theorem st2_n (M : Nat → Nat → Int32) {k a : Nat} (j : Nat) (v : Int32) (h : a ≠ k) : st2 M k j v a = M a := by simp [st2, h]
/-- one chip's cells -/
def eChip (g : Geo) (X : Nat → Int32) (c o : Nat) : va_E :=
  if o = 0 then .inr (0, [.ref (g.1 (24 * c + 1)), .ref (g.1 (24 * c + 2)), .ref (g.1 (24 * c + 3)), .ref (g.1 (24 * c + 4)), .ref (g.1 (24 * c + 11)), .int (X 5), .int (X 6), .int (X 4)])
  else if o = 1 then .inl (g.2.2.1 0, 4, .inl (fun j => if j < 4 then X j else 0))
  else if o = 2 then .inl (g.2.2.1 0, 162, .inl (fun j => if j < 162 then X (7 + j) else 0))
  else if o = 3 then .inl (g.2.2.1 0, 162, .inl (fun j => if j < 162 then X (400 + j) else 0))
  else if o = 4 then .inl (g.2.2.1 2, 6, .inr (.inr (.inr (.inr (fun i => some (g.1 (24 * c + 5 + i)))))))
  else if o < 11 then .inr (2, [.int (X (169 + 9 * (o - 5))), .int (X (169 + 9 * (o - 5) + 1)), .int (X (169 + 9 * (o - 5) + 2)), .int (X (169 + 9 * (o - 5) + 3)), .int (X (169 + 9 * (o - 5) + 4)), .int (X (169 + 9 * (o - 5) + 5)), .int (X (169 + 9 * (o - 5) + 6)), .int (X (169 + 9 * (o - 5) + 7)), .int (X (169 + 9 * (o - 5) + 8))])
  else if o = 11 then .inl (g.2.2.1 3, 12, .inr (.inr (.inr (.inr (fun i => some (g.1 (24 * c + 12 + i)))))))
  else .inr (1, [.int (X (223 + 13 * (o - 12))), .int (X (223 + 13 * (o - 12) + 1)), .int (X (223 + 13 * (o - 12) + 2)), .int (X (223 + 13 * (o - 12) + 3)), .int (X (223 + 13 * (o - 12) + 4)), .int (X (223 + 13 * (o - 12) + 5)), .int (X (223 + 13 * (o - 12) + 6))])
/-- the other cells -/
def eRest (g : Geo) (Y : Nat → Int32) (P : Nat → Nat) (k : Nat) : va_E :=
  if k = 144 then .inr (5, [.ref (g.1 149), .ref (g.1 147), .ref (g.1 145), .ref (g.1 146), .ref (g.1 (24 * P 0)), .ref (g.1 (24 * P 1)), .int (Y 6)])
  else if k = 145 then .inl (g.2.2.1 4, 4, .inr (.inr (.inr (.inr (fun i => some (g.1 (24 * P (2 + i))))))))
  else if k = 146 then .inl (g.2.2.1 0, 3, .inl Y)
  else if k = 147 then .inr (4, [.ref (g.1 148), .int (Y 1), .int (Y 2), .int (Y 3), .int (Y 4)])
  else if k = 148 then .inl (g.2.2.1 0, 60, .inl Y)
  else if k = 149 then .inr (3, [.ref (g.1 150), .ref (g.1 151), .ref (g.1 152), .ref (g.1 153), .ref (g.1 154), .ref (g.1 155), .int (Y 6), .int (Y 7), .int (Y 8), .ref (g.1 156), .ref (g.1 157), .int (Y 11), .int (Y 12), .int (Y 13), .int (Y 14)])
  else if k = 150 then .inl (g.2.2.1 0, 486, .inl Y)
  else if k = 151 then .inl (g.2.2.1 1, 162, .inl Y)
  else if k = 152 then .inl (g.2.2.1 0, 162, .inl Y)
  else if k = 153 then .inl (g.2.2.1 0, 162, .inl Y)
  else if k = 154 then .inl (g.2.2.1 1, 162, .inl Y)
  else if k = 155 then .inl (g.2.2.1 0, 162, .inl Y)
  else if k = 156 then .inl (g.2.2.1 0, 324, .inl Y)
  else .inl (g.2.2.1 0, 6, .inl Y)
def enc (g : Geo) (M : Nat → Nat → Int32) (P : Nat → Nat) (k : Nat) : va_E := if k < 144 then eChip g (M (k / 24)) (k / 24) (k % 24) else eRest g (M k) P k
theorem enc_c (g : Geo) (M : Nat → Nat → Int32) (P : Nat → Nat) {c o k : Nat} (hc : c < 6) (ho : o < 24) (hk : k = 24 * c + o) : enc g M P k = eChip g (M c) c o := by
  unfold enc
  rw [if_pos (by omega), show k / 24 = c by omega, show k % 24 = o by omega]
theorem enc_r (g : Geo) (M : Nat → Nat → Int32) (P : Nat → Nat) {k : Nat} (h : 144 ≤ k) : enc g M P k = eRest g (M k) P k := if_neg (by omega)
/-- which ints of a chip stand in a cell -/
def eDep (o j : Nat) : Prop := (o = 0 ∧ 4 ≤ j ∧ j < 7) ∨ (o = 1 ∧ j < 4) ∨ (o = 2 ∧ 7 ≤ j ∧ j < 169) ∨ (o = 3 ∧ 400 ≤ j ∧ j < 562) ∨ (5 ≤ o ∧ o < 11 ∧ 169 + 9 * (o - 5) ≤ j ∧ j < 169 + 9 * (o - 5) + 9) ∨ (12 ≤ o ∧ o < 24 ∧ 223 + 13 * (o - 12) ≤ j ∧ j < 223 + 13 * (o - 12) + 7)
theorem eChip_congr {g : Geo} {X Y : Nat → Int32} {c o : Nat} (ho : o < 24) (h : ∀ j, eDep o j → X j = Y j) : eChip g X c o = eChip g Y c o := by
  unfold eChip
  by_cases h0 : o = 0
  · rw [if_pos h0, if_pos h0, h 4 (by unfold eDep; omega), h 5 (by unfold eDep; omega), h 6 (by unfold eDep; omega)]
  rw [if_neg h0, if_neg h0]
  by_cases h1 : o = 1
  · rw [if_pos h1, if_pos h1]
    have : (fun j => if j < 4 then X j else 0) = (fun j => if j < 4 then Y j else 0) := by
      funext j
      by_cases hj : j < 4
      · rw [if_pos hj, if_pos hj, h j (by unfold eDep; omega)]
      · rw [if_neg hj, if_neg hj]
    rw [this]
  rw [if_neg h1, if_neg h1]
  by_cases h2 : o = 2
  · rw [if_pos h2, if_pos h2]
    have : (fun j => if j < 162 then X (7 + j) else 0) = (fun j => if j < 162 then Y (7 + j) else 0) := by
      funext j
      by_cases hj : j < 162
      · rw [if_pos hj, if_pos hj, h (7 + j) (by unfold eDep; omega)]
      · rw [if_neg hj, if_neg hj]
    rw [this]
  rw [if_neg h2, if_neg h2]
  by_cases h3 : o = 3
  · rw [if_pos h3, if_pos h3]
    have : (fun j => if j < 162 then X (400 + j) else 0) = (fun j => if j < 162 then Y (400 + j) else 0) := by
      funext j
      by_cases hj : j < 162
      · rw [if_pos hj, if_pos hj, h (400 + j) (by unfold eDep; omega)]
      · rw [if_neg hj, if_neg hj]
    rw [this]
  rw [if_neg h3, if_neg h3]
  by_cases h4 : o = 4
  · rw [if_pos h4, if_pos h4]
  rw [if_neg h4, if_neg h4]
  by_cases h5 : o < 11
  · rw [if_pos h5, if_pos h5]
    rw [h (169 + 9 * (o - 5)) (by unfold eDep; omega), h (169 + 9 * (o - 5) + 1) (by unfold eDep; omega), h (169 + 9 * (o - 5) + 2) (by unfold eDep; omega), h (169 + 9 * (o - 5) + 3) (by unfold eDep; omega), h (169 + 9 * (o - 5) + 4) (by unfold eDep; omega), h (169 + 9 * (o - 5) + 5) (by unfold eDep; omega), h (169 + 9 * (o - 5) + 6) (by unfold eDep; omega), h (169 + 9 * (o - 5) + 7) (by unfold eDep; omega), h (169 + 9 * (o - 5) + 8) (by unfold eDep; omega)]
  rw [if_neg h5, if_neg h5]
  by_cases h6 : o = 11
  · rw [if_pos h6, if_pos h6]
  rw [if_neg h6, if_neg h6]
  rw [h (223 + 13 * (o - 12)) (by unfold eDep; omega), h (223 + 13 * (o - 12) + 1) (by unfold eDep; omega), h (223 + 13 * (o - 12) + 2) (by unfold eDep; omega), h (223 + 13 * (o - 12) + 3) (by unfold eDep; omega), h (223 + 13 * (o - 12) + 4) (by unfold eDep; omega), h (223 + 13 * (o - 12) + 5) (by unfold eDep; omega), h (223 + 13 * (o - 12) + 6) (by unfold eDep; omega)]
theorem eDep_one {o o2 j : Nat} (h : eDep o j) (h2 : eDep o2 j) : o = o2 := by
  unfold eDep at h h2
  omega
theorem enc_stc (g : Geo) (M : Nat → Nat → Int32) (P : Nat → Nat) {c o j : Nat} {v : Int32} {e : va_E} (hc : c < 6) (ho : o < 24) (hd : eDep o j) (he : eChip g (upd (M c) j v) c o = e) : va_up (enc g M P) (24 * c + o) e = enc g (st2 M c j v) P := by
  funext k
  by_cases hk : k = 24 * c + o
  · subst hk
    rw [enc_c g _ P hc ho rfl, st2_k, he]
    simp [va_up]
  · unfold va_up
    rw [if_neg hk]
    by_cases hk2 : k < 144
    · rw [enc_c g M P (show k / 24 < 6 by omega) (Nat.mod_lt k (by decide)) (by omega), enc_c g (st2 M c j v) P (show k / 24 < 6 by omega) (Nat.mod_lt k (by decide)) (by omega)]
      by_cases hk3 : k / 24 = c
      · rw [hk3, st2_k]
        refine eChip_congr (Nat.mod_lt k (by decide)) (fun i hi => ?_)
        have hne : i ≠ j := fun e => by
          subst e
          have := eDep_one hd hi
          omega
        exact (if_neg hne).symm
      · rw [st2_n M j v hk3]
    · rw [enc_r g M P (by omega), enc_r g _ P (by omega), st2_n M j v (by omega)]
theorem enc_str (g : Geo) (M : Nat → Nat → Int32) (P : Nat → Nat) {a j : Nat} {v : Int32} {e : va_E} (ha : 144 ≤ a) (he : eRest g (upd (M a) j v) P a = e) : va_up (enc g M P) a e = enc g (st2 M a j v) P := by
  funext k
  by_cases hk : k = a
  · subst hk
    rw [enc_r g _ P ha, st2_k, he]
    simp [va_up]
  · unfold va_up
    rw [if_neg hk]
    by_cases hk2 : k < 144
    · rw [enc_c g M P (show k / 24 < 6 by omega) (Nat.mod_lt k (by decide)) (by omega), enc_c g (st2 M a j v) P (show k / 24 < 6 by omega) (Nat.mod_lt k (by decide)) (by omega), st2_n M j v (by omega)]
    · rw [enc_r g M P (by omega), enc_r g _ P (by omega), st2_n M j v hk]
/-- a whole row of a cell's ints anew -/
theorem enc_row (g : Geo) (M : Nat → Nat → Int32) (P : Nat → Nat) {a : Nat} {f : Nat → Int32} {e : va_E} (ha : 144 ≤ a) (he : eRest g f P a = e) : va_up (enc g M P) a e = enc g (va_up M a f) P := by
  funext k
  by_cases hk : k = a
  · subst hk
    rw [enc_r g _ P ha]
    simp [va_up, he]
  · unfold va_up
    rw [if_neg hk]
    by_cases hk2 : k < 144
    · rw [enc_c g M P (show k / 24 < 6 by omega) (Nat.mod_lt k (by decide)) (by omega), enc_c g _ P (show k / 24 < 6 by omega) (Nat.mod_lt k (by decide)) (by omega), if_neg (by omega)]
    · rw [enc_r g M P (by omega), enc_r g _ P (by omega), if_neg hk]
/-- a chip's ints anew, of which one cell alone speaks -/
theorem enc_crow (g : Geo) (M : Nat → Nat → Int32) (P : Nat → Nat) {c o : Nat} {f : Nat → Int32} {e : va_E} (hc : c < 6) (ho : o < 24) (hd : ∀ j, ¬ eDep o j → f j = M c j) (he : eChip g f c o = e) : va_up (enc g M P) (24 * c + o) e = enc g (va_up M c f) P := by
  funext k
  by_cases hk : k = 24 * c + o
  · subst hk
    rw [enc_c g _ P hc ho rfl]
    simp [va_up, he]
  · unfold va_up
    rw [if_neg hk]
    by_cases hk2 : k < 144
    · rw [enc_c g M P (show k / 24 < 6 by omega) (Nat.mod_lt k (by decide)) (by omega), enc_c g _ P (show k / 24 < 6 by omega) (Nat.mod_lt k (by decide)) (by omega)]
      by_cases hk3 : k / 24 = c
      · rw [hk3, if_pos rfl]
        refine eChip_congr (Nat.mod_lt k (by decide)) (fun i hi => ?_)
        exact (hd i (fun h => by have := eDep_one h hi; omega)).symm
      · rw [if_neg hk3]
    · rw [enc_r g M P (by omega), enc_r g _ P (by omega), if_neg (by omega)]
def gA (g : Geo) : Nat → Prop := fun q => ∃ k, k < 158 ∧ q = g.1 k
def gT (g : Geo) : List (ClassId × FieldType) := [(g.2.2.1 0, .int), (g.2.2.1 1, .boolean), (g.2.2.1 2, .object RX2), (g.2.2.1 3, .object RX1), (g.2.2.1 4, .object RX0)]
def gInj (g : Geo) : Prop := ∀ i j, i < 158 → j < 158 → g.1 i = g.1 j → i = j
theorem gD {g : Geo} (h : gInj g) (E : Nat → va_E) : va_D (gA g) (wW g.1 E) := by
  refine ⟨fun i j p q hi hj hpq => ?_, fun k q hk => ?_⟩
  · obtain ⟨h1, rfl⟩ := wW_at hi
    obtain ⟨h2, rfl⟩ := wW_at hj
    exact h i j h1 h2 hpq
  · obtain ⟨h1, rfl⟩ := wW_at hk
    exact ⟨k, h1, rfl⟩
def f_LEAST : Nat → Value := fun j => .int (if j = 0 then 1 else if j = 3 then 1 else 0)
def f_MOST : Nat → Value := fun j => .int (if j = 0 then 20 else if j = 3 then 20 else 50)
def f_ORDERS : Nat → Value := fun j => .int (([0, 1, 2, 0, 2, 1, 1, 0, 2, 1, 2, 0, 2, 0, 1, 2, 1, 0] : List Int32).getD j 0)
def gStat (g : Geo) (U : State) (H : Heap) : Prop := (va_Z "WireDigs" "LEAST" "[I" (.ref (g.2.2.2 0)) (gA g) U H ∧ va_T .int (g.2.2.2 0) 4 f_LEAST (gA g) U H) ∧ (va_Z "WireDigs" "MOST" "[I" (.ref (g.2.2.2 1)) (gA g) U H ∧ va_T .int (g.2.2.2 1) 4 f_MOST (gA g) U H) ∧ (va_Z "WireDigs" "ORDERS" "[I" (.ref (g.2.2.2 2)) (gA g) U H ∧ va_T .int (g.2.2.2 2) 18 f_ORDERS (gA g) U H)
theorem gStat.moved {g : Geo} {u U : State} {H : Heap} (hvm : u.vm.Alike U.vm) (h : gStat g u H) : gStat g U H := ⟨⟨h.1.1.moved hvm, h.1.2.moved hvm⟩, ⟨h.2.1.1.moved hvm, h.2.1.2.moved hvm⟩, ⟨h.2.2.1.moved hvm, h.2.2.2.moved hvm⟩⟩
theorem gStat.kept {g : Geo} {U : State} {H H1 : Heap} (h : gStat g U H) (hq : ∀ a : Nat, a < H.size → ¬ gA g a → H1[a]? = H[a]?) : gStat g U H1 := ⟨⟨h.1.1.kept hq, h.1.2.kept hq⟩, ⟨h.2.1.1.kept hq, h.2.1.2.kept hq⟩, ⟨h.2.2.1.kept hq, h.2.2.2.kept hq⟩⟩
/-- the world in a state -/
def Wd (g : Geo) (M : Nat → Nat → Int32) (P : Nat → Nat) (H : Heap) : Prop := va_P g.2.1 vwCl (wW g.1 (enc g M P)) H
def gNest (U : State) : Prop := va_Nw (.fieldLinkNest RX0 58 "WireDigs" "LEAST" "[I" "WireDigs") U ∧ va_Nw (.fieldLinkNest RX0 61 "WireDigs" "MOST" "[I" "WireDigs") U
def Gd (g : Geo) (U : State) (H : Heap) : Prop := va_K g.2.1 vwCl (gT g) U ∧ gStat g U H ∧ gInj g ∧ gNest U
def cPre (g : Geo) (av : List Value) (M : Nat → Nat → Int32) (P : Nat → Nat) : Array Value → State → Prop := va_Pc av (fun U => Wd g M P U.heap ∧ Gd g U U.heap)
abbrev Mem : Type := (Nat → Nat → Int32) × (Nat → Nat)
def cQi (g : Geo) (post : Int32 → (Nat → Nat → Int32) → (Nat → Nat) → Prop) : Array Value → State → Outcome → State → Prop := va_Qi (S := Mem) (fun r u => post r u.1 u.2) (fun u t => Wd g u.1 u.2 t.heap) (gA g)
def cQv (g : Geo) (post : (Nat → Nat → Int32) → (Nat → Nat) → Prop) : Array Value → State → Outcome → State → Prop := va_Qv (S := Mem) (fun u => post u.1 u.2) (fun u t => Wd g u.1 u.2 t.heap) (gA g)
/-- an answer that is a cell of the world -/
def cQr (g : Geo) (post : Nat → (Nat → Nat → Int32) → (Nat → Nat) → Prop) : Array Value → State → Outcome → State → Prop := va_Qr (S := Mem) (fun _ => True) (fun u a t => (∃ k, a = g.1 k ∧ post k u.1 u.2) ∧ Wd g u.1 u.2 t.heap) (gA g)
theorem cPre_blind (g : Geo) (av : List Value) (M : Nat → Nat → Int32) (P : Nat → Nat) : FrameBlind (cPre g av M P) := fun a U gg mk q => by
  obtain ⟨h1, h2, h3, h4, h5, h6⟩ := q
  exact ⟨h1, h2, va_K.moved (u := U) (U := U.calling gg mk a) (Vm.Alike.refl U.vm) h3, gStat.moved (u := U) (U := U.calling gg mk a) (Vm.Alike.refl U.vm) h4, h5, va_Nw.same (U := U.calling gg mk a) rfl rfl h6.1, va_Nw.same (U := U.calling gg mk a) rfl rfl h6.2⟩
