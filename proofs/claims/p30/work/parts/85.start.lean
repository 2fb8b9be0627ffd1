/-! what stands at the law's entry -/
section LSTART
variable {s : State} {b : Nat}
theorem st_known (hts : ∀ w ∈ lw_tbl, w.before #[Value.ref b] s = true) : ∃ D : va_G, ∀ (c : Nat) (q : vw_C), vwCl[c]? = some q → u_Kn s q.1 q.2.1 q.2.2 (D.1 c) (D.2 c) := by
  obtain ⟨c0, i0, h0⟩ := u_known hts ltX0 (hts _ (tb_1 _ (List.mem_of_getElem? (i := 107) rfl)))
  obtain ⟨c1, i1, h1⟩ := u_known hts ltX1 (hts _ (tb_1 _ (List.mem_of_getElem? (i := 162) rfl)))
  obtain ⟨c2, i2, h2⟩ := u_known hts ltX2 (hts _ (tb_1 _ (List.mem_of_getElem? (i := 114) rfl)))
  obtain ⟨c3, i3, h3⟩ := u_known hts ltX3 (hts _ (tb_1 _ (List.mem_of_getElem? (i := 19) rfl)))
  obtain ⟨c4, i4, h4⟩ := u_known hts ltX4 (hts _ (tb_1 _ (List.mem_of_getElem? (i := 81) rfl)))
  obtain ⟨c5, i5, h5⟩ := u_known hts ltX5 (hts _ (tb_1 _ (List.mem_of_getElem? (i := 11) rfl)))
  refine ⟨(fun n => if n = 0 then c0 else if n = 1 then c1 else if n = 2 then c2 else if n = 3 then c3 else if n = 4 then c4 else c5, fun n => if n = 0 then i0 else if n = 1 then i1 else if n = 2 then i2 else if n = 3 then i3 else if n = 4 then i4 else i5), fun c q hq => ?_⟩
  have hc : c < 6 := (List.getElem?_eq_some_iff.mp hq).1
  rcases (show c = 0 ∨ c = 1 ∨ c = 2 ∨ c = 3 ∨ c = 4 ∨ c = 5 by omega) with rfl | rfl | rfl | rfl | rfl | rfl
  · obtain rfl := Option.some.inj (show some (RX0, TX0, 8) = some q from hq)
    exact h0
  · obtain rfl := Option.some.inj (show some (RX1, TX1, 7) = some q from hq)
    exact h1
  · obtain rfl := Option.some.inj (show some (RX2, TX2, 9) = some q from hq)
    exact h2
  · obtain rfl := Option.some.inj (show some (RX3, TX3, 15) = some q from hq)
    exact h3
  · obtain rfl := Option.some.inj (show some (RX4, TX4, 5) = some q from hq)
    exact h4
  · obtain rfl := Option.some.inj (show some (RX5, TX5, 7) = some q from hq)
    exact h5
theorem st_arrO {C : String} (h : (Cond.arrayOver (.object C)).before #[Value.ref b] s = true) : ∃ c : ClassId, ArrOfT s c (.object C) ∧ va_RA s c (.object C) := by
  obtain ⟨comp, c, k, h1, h2, h3, h4, h5⟩ := Cond.arrayOver_spec h
  exact ⟨c, fun n z => ⟨(fun k h => by cases h), k, h3, comp, h4⟩, k, comp, h3, h4, h1, h5⟩
theorem st_arrays (hts : ∀ w ∈ lw_tbl, w.before #[Value.ref b] s = true) : ∃ cA : Nat → ClassId, ∀ (k : Nat) (q : ClassId × FieldType), (iT cA)[k]? = some q → ArrOfT s q.1 q.2 ∧ va_RA s q.1 q.2 := by
  obtain ⟨c0, k0, p0, a1, a2, a3⟩ := Cond.arrayClass_spec (hts _ (tb_1 _ (List.mem_of_getElem? (i := 78) rfl)))
  obtain ⟨c1, k1, p1, b1, b2, b3⟩ := Cond.arrayClass_spec (hts _ (tb_1 _ (List.mem_of_getElem? (i := 79) rfl)))
  obtain ⟨c2, h2⟩ := st_arrO (C := RX2) (hts _ (tb_1 _ (List.mem_of_getElem? (i := 113) rfl)))
  obtain ⟨c3, h3⟩ := st_arrO (C := RX1) (hts _ (tb_1 _ (List.mem_of_getElem? (i := 161) rfl)))
  obtain ⟨c4, h4⟩ := st_arrO (C := RX0) (hts _ (tb_1 _ (List.mem_of_getElem? (i := 106) rfl)))
  refine ⟨fun n => if n = 0 then c0 else if n = 1 then c1 else if n = 2 then c2 else if n = 3 then c3 else c4, fun k q hq => ?_⟩
  have hk : k < 5 := (List.getElem?_eq_some_iff.mp hq).1
  rcases (show k = 0 ∨ k = 1 ∨ k = 2 ∨ k = 3 ∨ k = 4 by omega) with rfl | rfl | rfl | rfl | rfl
  · obtain rfl := Option.some.inj (show some (c0, FieldType.int) = some q from hq)
    exact ⟨fun n z => ⟨(fun k h => by cases h), k0, a2, p0, a3⟩, a1⟩
  · obtain rfl := Option.some.inj (show some (c1, FieldType.boolean) = some q from hq)
    exact ⟨fun n z => ⟨(fun k h => by cases h), k1, b2, p1, b3⟩, b1⟩
  · obtain rfl := Option.some.inj (show some (c2, FieldType.object RX2) = some q from hq)
    exact h2
  · obtain rfl := Option.some.inj (show some (c3, FieldType.object RX1) = some q from hq)
    exact h3
  · obtain rfl := Option.some.inj (show some (c4, FieldType.object RX0) = some q from hq)
    exact h4
theorem st_LEAST (hts : ∀ w ∈ lw_tbl, w.before #[Value.ref b] s = true) (hgv : (Jvm.Cond.and given_1 narrow_1).before #[Value.ref b] s = true) : ∃ t : Nat, va_Z "WireDigs" "LEAST" "[I" (.ref t) (fun q : Nat => s.heap.size ≤ q) s s.heap ∧ va_T .int t 4 f_LEAST (fun q : Nat => s.heap.size ≤ q) s s.heap := by
  have hf := flat_of_before _ hgv
  have hel : ∀ j : Nat, j < 4 → (Term.elem (.static "WireDigs" "LEAST" "[I") (.int (Int32.ofNat j))).eval #[Value.ref b] s none [] s = some (f_LEAST j) := fun j hj => by
    rcases (show j = 0 ∨ j = 1 ∨ j = 2 ∨ j = 3 by omega) with rfl | rfl | rfl | rfl
    · exact va_eqt (t := .elem (.static "WireDigs" "LEAST" "[I") (.int 0)) (z := 1) (hf _ (by decide +kernel))
    · exact va_eqt (t := .elem (.static "WireDigs" "LEAST" "[I") (.int 1)) (z := 0) (hf _ (by decide +kernel))
    · exact va_eqt (t := .elem (.static "WireDigs" "LEAST" "[I") (.int 2)) (z := 0) (hf _ (by decide +kernel))
    · exact va_eqt (t := .elem (.static "WireDigs" "LEAST" "[I") (.int 3)) (z := 1) (hf _ (by decide +kernel))
  obtain ⟨t, e, hT⟩ := va_Tof (args := #[Value.ref b]) (s := s) (tm := (.static "WireDigs" "LEAST" "[I")) (ty := .int) (N := 4) (f := f_LEAST) (A := (fun q : Nat => s.heap.size ≤ q)) (by decide) (hf _ (by decide +kernel)) (va_eqt (z := 4) (hf _ (by decide +kernel))) hel (fun a ha h => absurd ha (Nat.not_lt.mpr h))
  exact ⟨t, va_Zref (hts _ (tb_2 _ (List.mem_of_getElem? (i := 37) rfl))) (hts _ (tb_1 _ (List.mem_of_getElem? (i := 1) rfl))) e (fun a ha h => absurd ha (Nat.not_lt.mpr h)), hT⟩
theorem st_MOST (hts : ∀ w ∈ lw_tbl, w.before #[Value.ref b] s = true) (hgv : (Jvm.Cond.and given_1 narrow_1).before #[Value.ref b] s = true) : ∃ t : Nat, va_Z "WireDigs" "MOST" "[I" (.ref t) (fun q : Nat => s.heap.size ≤ q) s s.heap ∧ va_T .int t 4 f_MOST (fun q : Nat => s.heap.size ≤ q) s s.heap := by
  have hf := flat_of_before _ hgv
  have hel : ∀ j : Nat, j < 4 → (Term.elem (.static "WireDigs" "MOST" "[I") (.int (Int32.ofNat j))).eval #[Value.ref b] s none [] s = some (f_MOST j) := fun j hj => by
    rcases (show j = 0 ∨ j = 1 ∨ j = 2 ∨ j = 3 by omega) with rfl | rfl | rfl | rfl
    · exact va_eqt (t := .elem (.static "WireDigs" "MOST" "[I") (.int 0)) (z := 20) (hf _ (by decide +kernel))
    · exact va_eqt (t := .elem (.static "WireDigs" "MOST" "[I") (.int 1)) (z := 50) (hf _ (by decide +kernel))
    · exact va_eqt (t := .elem (.static "WireDigs" "MOST" "[I") (.int 2)) (z := 50) (hf _ (by decide +kernel))
    · exact va_eqt (t := .elem (.static "WireDigs" "MOST" "[I") (.int 3)) (z := 20) (hf _ (by decide +kernel))
  obtain ⟨t, e, hT⟩ := va_Tof (args := #[Value.ref b]) (s := s) (tm := (.static "WireDigs" "MOST" "[I")) (ty := .int) (N := 4) (f := f_MOST) (A := (fun q : Nat => s.heap.size ≤ q)) (by decide) (hf _ (by decide +kernel)) (va_eqt (z := 4) (hf _ (by decide +kernel))) hel (fun a ha h => absurd ha (Nat.not_lt.mpr h))
  exact ⟨t, va_Zref (hts _ (tb_2 _ (List.mem_of_getElem? (i := 39) rfl))) (hts _ (tb_1 _ (List.mem_of_getElem? (i := 1) rfl))) e (fun a ha h => absurd ha (Nat.not_lt.mpr h)), hT⟩
theorem st_ORDERS (hts : ∀ w ∈ lw_tbl, w.before #[Value.ref b] s = true) (hgv : (Jvm.Cond.and given_1 narrow_1).before #[Value.ref b] s = true) : ∃ t : Nat, va_Z "WireDigs" "ORDERS" "[I" (.ref t) (fun q : Nat => s.heap.size ≤ q) s s.heap ∧ va_T .int t 18 f_ORDERS (fun q : Nat => s.heap.size ≤ q) s s.heap := by
  have hf := flat_of_before _ hgv
  have hel : ∀ j : Nat, j < 18 → (Term.elem (.static "WireDigs" "ORDERS" "[I") (.int (Int32.ofNat j))).eval #[Value.ref b] s none [] s = some (f_ORDERS j) := fun j hj => by
    rcases (show j = 0 ∨ j = 1 ∨ j = 2 ∨ j = 3 ∨ j = 4 ∨ j = 5 ∨ j = 6 ∨ j = 7 ∨ j = 8 ∨ j = 9 ∨ j = 10 ∨ j = 11 ∨ j = 12 ∨ j = 13 ∨ j = 14 ∨ j = 15 ∨ j = 16 ∨ j = 17 by omega) with rfl | rfl | rfl | rfl | rfl | rfl | rfl | rfl | rfl | rfl | rfl | rfl | rfl | rfl | rfl | rfl | rfl | rfl
    · exact va_eqt (t := .elem (.static "WireDigs" "ORDERS" "[I") (.int 0)) (z := 0) (hf _ (by decide +kernel))
    · exact va_eqt (t := .elem (.static "WireDigs" "ORDERS" "[I") (.int 1)) (z := 1) (hf _ (by decide +kernel))
    · exact va_eqt (t := .elem (.static "WireDigs" "ORDERS" "[I") (.int 2)) (z := 2) (hf _ (by decide +kernel))
    · exact va_eqt (t := .elem (.static "WireDigs" "ORDERS" "[I") (.int 3)) (z := 0) (hf _ (by decide +kernel))
    · exact va_eqt (t := .elem (.static "WireDigs" "ORDERS" "[I") (.int 4)) (z := 2) (hf _ (by decide +kernel))
    · exact va_eqt (t := .elem (.static "WireDigs" "ORDERS" "[I") (.int 5)) (z := 1) (hf _ (by decide +kernel))
    · exact va_eqt (t := .elem (.static "WireDigs" "ORDERS" "[I") (.int 6)) (z := 1) (hf _ (by decide +kernel))
    · exact va_eqt (t := .elem (.static "WireDigs" "ORDERS" "[I") (.int 7)) (z := 0) (hf _ (by decide +kernel))
    · exact va_eqt (t := .elem (.static "WireDigs" "ORDERS" "[I") (.int 8)) (z := 2) (hf _ (by decide +kernel))
    · exact va_eqt (t := .elem (.static "WireDigs" "ORDERS" "[I") (.int 9)) (z := 1) (hf _ (by decide +kernel))
    · exact va_eqt (t := .elem (.static "WireDigs" "ORDERS" "[I") (.int 10)) (z := 2) (hf _ (by decide +kernel))
    · exact va_eqt (t := .elem (.static "WireDigs" "ORDERS" "[I") (.int 11)) (z := 0) (hf _ (by decide +kernel))
    · exact va_eqt (t := .elem (.static "WireDigs" "ORDERS" "[I") (.int 12)) (z := 2) (hf _ (by decide +kernel))
    · exact va_eqt (t := .elem (.static "WireDigs" "ORDERS" "[I") (.int 13)) (z := 0) (hf _ (by decide +kernel))
    · exact va_eqt (t := .elem (.static "WireDigs" "ORDERS" "[I") (.int 14)) (z := 1) (hf _ (by decide +kernel))
    · exact va_eqt (t := .elem (.static "WireDigs" "ORDERS" "[I") (.int 15)) (z := 2) (hf _ (by decide +kernel))
    · exact va_eqt (t := .elem (.static "WireDigs" "ORDERS" "[I") (.int 16)) (z := 1) (hf _ (by decide +kernel))
    · exact va_eqt (t := .elem (.static "WireDigs" "ORDERS" "[I") (.int 17)) (z := 0) (hf _ (by decide +kernel))
  obtain ⟨t, e, hT⟩ := va_Tof (args := #[Value.ref b]) (s := s) (tm := (.static "WireDigs" "ORDERS" "[I")) (ty := .int) (N := 18) (f := f_ORDERS) (A := (fun q : Nat => s.heap.size ≤ q)) (by decide) (hf _ (by decide +kernel)) (va_eqt (z := 18) (hf _ (by decide +kernel))) hel (fun a ha h => absurd ha (Nat.not_lt.mpr h))
  exact ⟨t, va_Zref (hts _ (tb_3 _ (List.mem_of_getElem? (i := 54) rfl))) (hts _ (tb_1 _ (List.mem_of_getElem? (i := 1) rfl))) e (fun a ha h => absurd ha (Nat.not_lt.mpr h)), hT⟩
end LSTART
