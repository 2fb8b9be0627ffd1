/-! the fresh world of both sides -/
def wle (D : va_G) : va_W → va_W → Prop
  | [], [] => True
  | p :: ps, q :: qs => (p.1 = q.1 ∧ ∀ H, va_at D vwCl p H → va_at D vwCl q H) ∧ wle D ps qs
  | _, _ => False
theorem wle_nil {D : va_G} : wle D [] [] := trivial
theorem wle_app {D : va_G} {b b' : va_W} (h2 : wle D b b') : ∀ {a a' : va_W}, wle D a a' → wle D (a ++ b) (a' ++ b')
  | [], [], _ => h2
  | _ :: _, _ :: _, h => ⟨h.1, wle_app h2 h.2⟩
theorem wle_map {D : va_G} {α : Type} {f f' : α → Nat × va_E} : ∀ {l : List α}, (∀ o ∈ l, (f o).1 = (f' o).1 ∧ ∀ H, va_at D vwCl (f o) H → va_at D vwCl (f' o) H) → wle D (l.map f) (l.map f')
  | [], _ => trivial
  | a :: l, h => ⟨h a List.mem_cons_self, wle_map (fun o ho => h o (List.mem_cons_of_mem _ ho))⟩
theorem wle_P {D : va_G} {H : Heap} : ∀ {a a' : va_W}, wle D a a' → (∀ q ∈ a, va_at D vwCl q H) → ∀ q ∈ a', va_at D vwCl q H
  | [], [], _, h => h
  | p :: ps, q :: qs, hw, h => by
    intro x hx
    rcases List.mem_cons.mp hx with rfl | hx
    · exact hw.1.2 H (h p List.mem_cons_self)
    · exact wle_P hw.2 (fun q hq => h q (List.mem_cons_of_mem _ hq)) x hx
theorem wle_fst {D : va_G} : ∀ {a a' : va_W}, wle D a a' → a.map Prod.fst = a'.map Prod.fst
  | [], [], _ => rfl
  | p :: ps, q :: qs, hw => by
    rw [List.map_cons, List.map_cons, hw.1.1, wle_fst hw.2]
theorem wle_D {D : va_G} {A : Nat → Prop} {a a' : va_W} (hw : wle D a a') (h : va_D A a) : va_D A a' := by
  rw [va_D_iff] at h ⊢
  refine ⟨by rw [← wle_fst hw]; exact h.1, fun q hq => ?_⟩
  have h1 : q.1 ∈ a.map Prod.fst := by rw [wle_fst hw]; exact List.mem_map.mpr ⟨q, hq, rfl⟩
  obtain ⟨p, hp, e⟩ := List.mem_map.mp h1
  rw [← e]
  exact h.2 p hp
theorem y_le {x : iC} {pc : Nat} {lv : List (Nat × Value)} {st : List Value} {ws ws' : va_W} {N S : Nat} (hw : wle x.2.2.1 ws ws') (k : Y x pc lv st ws' N S) : Y x pc lv st ws N S := fun H locs ls h1 h2 h3 h4 => k H locs ls h1 (va_P_iff.mpr (wle_P hw (va_P_iff.mp h2))) (wle_D hw h3) h4
theorem eChip_mv {D : va_G} {g g' : Geo} {X : Nat → Int32} {c c' : Nat} (hC : g.2.2.1 = g'.2.2.1) (h : ∀ o, o < 24 → g.1 (24 * c + o) = g'.1 (24 * c' + o)) {o : Nat} (ho : o < 24) {a : Nat} {H : Heap} (hp : va_at D vwCl (a, eChip g X c o) H) : va_at D vwCl (a, eChip g' X c' o) H := by
  by_cases h0 : o = 0
  · subst h0
    have e : eChip g X c 0 = eChip g' X c' 0 := by
      unfold eChip
      rw [if_pos rfl, if_pos rfl, h 1 (by decide), h 2 (by decide), h 3 (by decide), h 4 (by decide), h 11 (by decide)]
    rw [← e]
    exact hp
  by_cases h4 : o = 4
  · subst h4
    have e : eChip g X c 4 = .inl (g.2.2.1 2, 6, .inr (.inr (.inr (.inr (fun i => some (g.1 (24 * c + 5 + i))))))) := rfl
    have e' : eChip g' X c' 4 = .inl (g'.2.2.1 2, 6, .inr (.inr (.inr (.inr (fun i => some (g'.1 (24 * c' + 5 + i))))))) := rfl
    rw [e, hC] at hp
    rw [e']
    exact at_q (fun j hj => by have := h (5 + j) (by omega); rw [← Nat.add_assoc, ← Nat.add_assoc] at this; rw [this]) hp
  by_cases h11 : o = 11
  · subst h11
    have e : eChip g X c 11 = .inl (g.2.2.1 3, 12, .inr (.inr (.inr (.inr (fun i => some (g.1 (24 * c + 12 + i))))))) := rfl
    have e' : eChip g' X c' 11 = .inl (g'.2.2.1 3, 12, .inr (.inr (.inr (.inr (fun i => some (g'.1 (24 * c' + 12 + i))))))) := rfl
    rw [e, hC] at hp
    rw [e']
    exact at_q (fun j hj => by have := h (12 + j) (by omega); rw [← Nat.add_assoc, ← Nat.add_assoc] at this; rw [this]) hp
  have e : eChip g X c o = eChip g' X c' o := by
    unfold eChip
    rw [if_neg h0, if_neg h0, if_neg h4, if_neg h4, if_neg h11, if_neg h11, hC]
  rw [← e]
  exact hp
def slotA (c : Nat) : Nat := if c = 0 then 7 else if c = 1 then 8 else c + 1
def adF (a5 : Nat → Nat) (k : Nat) : Nat := if k < 144 then a5 (16 * (k % 24) + slotA (k / 24)) else if k = 144 then a5 0 else if k = 145 then a5 16 else if k = 146 then a5 32 else if k = 147 then a5 2 else if k = 148 then a5 18 else a5 (16 * (k - 149) + 1)
def M0 : Nat → Nat → Int32 := fun c j => if c < 6 then chip0 j else if c = 150 then nbT j else 0
def P0 : Nat → Nat := fun i => i
def gF (D : va_G) (cA : Nat → ClassId) (sa a5 : Nat → Nat) : Geo := (adF a5, D, cA, sa)
def iTc (c : Nat) : List Nat := (List.range 23).map (fun o => 24 * c + (o + 1))
def iL : List Nat := (([144, 149, 147, 145, 48, 72, 96, 120, 146, 0, 24] ++ (iTc 1 ++ (iTc 0 ++ (iTc 5 ++ (iTc 4 ++ (iTc 3 ++ (iTc 2 ++ ([148] ++ ([150, 151, 152, 153, 154, 155, 156, 157] ++ []))))))))) ++ [])
theorem iL_perm : iL.Perm (List.range 158) := by decide +kernel
section FRESH
variable {D : va_G} {cA : Nat → ClassId} {sa a5 : Nat → Nat}
theorem fw_T {c s : Nat} (hc : c < 6) (hs : slotA c = s) (hM : M0 c = chip0) : wle D (chT D cA (fun o => a5 (16 * o + s))) ((iTc c).map (fun k => (adF a5 k, enc (gF D cA sa a5) M0 P0 k))) := by
  unfold iTc
  rw [List.map_map]
  have had : ∀ o, o < 24 → a5 (16 * o + s) = adF a5 (24 * c + o) := fun o ho => by
    unfold adF
    rw [if_pos (by omega), show (24 * c + o) % 24 = o by omega, show (24 * c + o) / 24 = c by omega, hs]
  refine wle_map (fun o ho => ?_)
  have ho : o < 23 := List.mem_range.mp ho
  refine ⟨had (o + 1) (by omega), fun H h => ?_⟩
  show va_at D vwCl (adF a5 (24 * c + (o + 1)), enc (gF D cA sa a5) M0 P0 (24 * c + (o + 1))) H
  rw [enc_c _ M0 P0 hc (show o + 1 < 24 by omega) rfl, hM, ← had (o + 1) (by omega)]
  exact eChip_mv (g := (fun o => a5 (16 * o + s), D, cA, fun _ => 0)) (g' := gF D cA sa a5) (c := 0) (c' := c) rfl (fun j hj => by show a5 (16 * (24 * 0 + j) + s) = adF a5 (24 * c + j); rw [← had j hj, Nat.mul_zero, Nat.zero_add]) (by omega) h
theorem fw_x : wle D [(a5 (16 * 0), .inr (5, [.ref (a5 (16 * 0 + 1)), .ref (a5 (16 * 0 + 2)), .ref (a5 (16 * 1)), .ref (a5 (16 * 2)), .ref (a5 (16 * 0 + 7)), .ref (a5 (16 * 0 + 8)), .int 0])), (a5 (16 * 0 + 1), .inr (3, [.ref (a5 (16 * 1 + 1)), .ref (a5 (16 * 2 + 1)), .ref (a5 (16 * 3 + 1)), .ref (a5 (16 * 4 + 1)), .ref (a5 (16 * 5 + 1)), .ref (a5 (16 * 6 + 1)), .int 0, .int 0, .int 0, .ref (a5 (16 * 7 + 1)), .ref (a5 (16 * 8 + 1)), .int 0, .int 0, .int 0, .int 0])), (a5 (16 * 0 + 2), .inr (4, [.ref (a5 (16 * 1 + 2)), .int 0, .int 0, .int 0, .int 0])), (a5 (16 * 1), .inl (cA 4, 4, .inr (.inr (.inr (.inr (fun i => if i = 0 then some (a5 (16 * 0 + 3)) else if i = 1 then some (a5 (16 * 0 + 4)) else if i = 2 then some (a5 (16 * 0 + 5)) else some (a5 (16 * 0 + 6)))))))), (a5 (16 * 0 + 3), .inr (0, [.ref (a5 (16 * 1 + 3)), .ref (a5 (16 * 2 + 3)), .ref (a5 (16 * 3 + 3)), .ref (a5 (16 * 4 + 3)), .ref (a5 (16 * 11 + 3)), .int 0, .int 0, .int 0])), (a5 (16 * 0 + 4), .inr (0, [.ref (a5 (16 * 1 + 4)), .ref (a5 (16 * 2 + 4)), .ref (a5 (16 * 3 + 4)), .ref (a5 (16 * 4 + 4)), .ref (a5 (16 * 11 + 4)), .int 0, .int 0, .int 0])), (a5 (16 * 0 + 5), .inr (0, [.ref (a5 (16 * 1 + 5)), .ref (a5 (16 * 2 + 5)), .ref (a5 (16 * 3 + 5)), .ref (a5 (16 * 4 + 5)), .ref (a5 (16 * 11 + 5)), .int 0, .int 0, .int 0])), (a5 (16 * 0 + 6), .inr (0, [.ref (a5 (16 * 1 + 6)), .ref (a5 (16 * 2 + 6)), .ref (a5 (16 * 3 + 6)), .ref (a5 (16 * 4 + 6)), .ref (a5 (16 * 11 + 6)), .int 0, .int 0, .int 0])), (a5 (16 * 2), .inl (cA 0, 3, .inl (fun _ => 0))), (a5 (16 * 0 + 7), .inr (0, [.ref (a5 (16 * 1 + 7)), .ref (a5 (16 * 2 + 7)), .ref (a5 (16 * 3 + 7)), .ref (a5 (16 * 4 + 7)), .ref (a5 (16 * 11 + 7)), .int 0, .int 0, .int 0])), (a5 (16 * 0 + 8), .inr (0, [.ref (a5 (16 * 1 + 8)), .ref (a5 (16 * 2 + 8)), .ref (a5 (16 * 3 + 8)), .ref (a5 (16 * 4 + 8)), .ref (a5 (16 * 11 + 8)), .int 0, .int 0, .int 0]))] ([144, 149, 147, 145, 48, 72, 96, 120, 146, 0, 24].map (fun k => (adF a5 k, enc (gF D cA sa a5) M0 P0 k))) := by
  refine ⟨⟨rfl, fun _ h => ?_⟩, ⟨rfl, fun _ h => ?_⟩, ⟨rfl, fun _ h => ?_⟩, ⟨rfl, fun _ h => ?_⟩, ⟨rfl, fun _ h => ?_⟩, ⟨rfl, fun _ h => ?_⟩, ⟨rfl, fun _ h => ?_⟩, ⟨rfl, fun _ h => ?_⟩, ⟨rfl, fun _ h => ?_⟩, ⟨rfl, fun _ h => ?_⟩, ⟨rfl, fun _ h => ?_⟩, trivial⟩
  · exact h
  · exact h
  · exact h
  · exact at_q (fun j hj => by rcases (show j = 0 ∨ j = 1 ∨ j = 2 ∨ j = 3 by omega) with rfl | rfl | rfl | rfl <;> rfl) h
  · exact h
  · exact h
  · exact h
  · exact h
  · exact h
  · exact h
  · exact h
theorem fw_s : wle D (scT cA (fun o => a5 (16 * o + 2))) ([148].map (fun k => (adF a5 k, enc (gF D cA sa a5) M0 P0 k))) := by
  refine ⟨⟨rfl, fun _ h => ?_⟩, trivial⟩
  exact h
theorem fw_r : wle D (rtT cA (fun o => a5 (16 * o + 1))) ([150, 151, 152, 153, 154, 155, 156, 157].map (fun k => (adF a5 k, enc (gF D cA sa a5) M0 P0 k))) := by
  refine ⟨⟨rfl, fun _ h => ?_⟩, ⟨rfl, fun _ h => ?_⟩, ⟨rfl, fun _ h => ?_⟩, ⟨rfl, fun _ h => ?_⟩, ⟨rfl, fun _ h => ?_⟩, ⟨rfl, fun _ h => ?_⟩, ⟨rfl, fun _ h => ?_⟩, ⟨rfl, fun _ h => ?_⟩, trivial⟩ <;> exact h
theorem fw_5 : wle D (W5 D cA a5) (([144, 149, 147, 145, 48, 72, 96, 120, 146, 0, 24] ++ (iTc 1 ++ (iTc 0 ++ (iTc 5 ++ (iTc 4 ++ (iTc 3 ++ (iTc 2 ++ ([148] ++ ([150, 151, 152, 153, 154, 155, 156, 157] ++ []))))))))).map (fun k => (adF a5 k, enc (gF D cA sa a5) M0 P0 k))) := by
  rw [List.map_append, List.map_append, List.map_append, List.map_append, List.map_append, List.map_append, List.map_append, List.map_append, List.map_append]
  exact wle_app (wle_app (wle_app (wle_app (wle_app (wle_app (wle_app (wle_app (wle_app wle_nil fw_r) fw_s) (fw_T (s := 3) (by decide) rfl rfl)) (fw_T (s := 4) (by decide) rfl rfl)) (fw_T (s := 5) (by decide) rfl rfl)) (fw_T (s := 6) (by decide) rfl rfl)) (fw_T (s := 7) (by decide) rfl rfl)) (fw_T (s := 8) (by decide) rfl rfl)) fw_x
theorem y_fin {x : iC} {pc : Nat} {lv : List (Nat × Value)} {st : List Value} {N S : Nat} (hD : x.2.2.1 = D) (k : Y x pc lv st (wW (adF a5) (enc (gF D cA sa a5) M0 P0)) N S) : Y x pc lv st (W5 D cA a5 ++ []) N S := by
  subst hD
  refine y_le (ws' := iL.map (fun k => (adF a5 k, enc (gF x.2.2.1 cA sa a5) M0 P0 k))) ?_ (y_pm (iL_perm.map _) k)
  unfold iL
  rw [List.map_append]
  exact wle_app wle_nil fw_5
end FRESH
