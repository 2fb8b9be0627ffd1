theorem dL_cell_0 : decode cL_cell 0 = .ok (.iload_n 1, 1) := by decide +kernel
theorem dL_cell_1 : decode cL_cell 1 = .ok (.aload_n 0, 1) := by decide +kernel
theorem dL_cell_2 : decode cL_cell 2 = .ok (.arraylength, 1) := by decide +kernel
theorem dL_cell_3 : decode cL_cell 3 = .ok (.if_icmp .ge 9, 3) := by decide +kernel
theorem dL_cell_6 : decode cL_cell 6 = .ok (.aload_n 0, 1) := by decide +kernel
theorem dL_cell_7 : decode cL_cell 7 = .ok (.iload_n 1, 1) := by decide +kernel
theorem dL_cell_8 : decode cL_cell 8 = .ok (.iaload, 1) := by decide +kernel
theorem dL_cell_9 : decode cL_cell 9 = .ok (.goto 9, 3) := by decide +kernel
theorem dL_cell_12 : decode cL_cell 12 = .ok (.ldc 7, 2) := by decide +kernel
theorem dL_cell_14 : decode cL_cell 14 = .ok (.iload_n 1, 1) := by decide +kernel
theorem dL_cell_15 : decode cL_cell 15 = .ok (.iconst 1, 1) := by decide +kernel
theorem dL_cell_16 : decode cL_cell 16 = .ok (.iadd, 1) := by decide +kernel
theorem dL_cell_17 : decode cL_cell 17 = .ok (.imul, 1) := by decide +kernel
theorem dL_cell_18 : decode cL_cell 18 = .ok (.ireturn, 1) := by decide +kernel
abbrev rmL_cell : Room := { frames := 0, cells := 0, slots := 0, locals := 0 }
/-! the script's ints -/
theorem c_L_cell {l : Launch} {b L k : Nat} {xs : Nat → Int32} (hk : k < 2 ^ 31) (hL : L < 2 ^ 31) : Met l yL_cell wsL_cell rmL_cell (va_Pc [.ref b, .int (nI k)] (fun U => va_X b L xs U U.heap ∧ b < U.heap.size)) (va_Qi (S := Unit) (fun _ _ => True) (fun _ _ => True) (fun _ => False)) 0 0 (fun _ => False) := by
  refine Met.ofW (cc := cL_cell) (maxL := 2) (ret := some .int) (by decide) rfl ?_
  intro p e s mm args below meth cd s₁ B hml hv
  obtain ⟨rfl, hX, hbl⟩ := hv
  have hl := lv_entry [.ref b, .int (nI k)] (n := 2) (Nat.le_of_ble_eq_true rfl)
  rw [lg_entry_eq]
  have hx := B.exec
  have hb := B.bytes
  have hts := atoms_spec (ws := wsL_cell) B.pre
  have hown : s.vm.findClass RL = some mm.cls := findClass_of_methodNamed B.named
  have hS : va_S (fun _ => False) s.heap s.heap [] := va_S.rf
  refine lv_iload_n hx hb dL_cell_0 rfl (lv_at hl 1 rfl) ?_
  refine lv_aload_n hx hb dL_cell_1 rfl (lv_at hl 0 rfl) ?_
  refine va_slen hx hb hX hbl id hS dL_cell_2 ?_
  have fin : ∀ r : Int32, W p l e (headSpec wsL_cell rmL_cell).room s mm #[.ref b, .int (nI k)] below meth cd s.heap [] 0 0 (MQ below (va_Qi (S := Unit) (fun _ _ => True) (fun _ _ => True) (fun _ => False)) #[.ref b, .int (nI k)] s 0 0 (fun _ => False)) (F0 mm 18 (lg_sl [.ref b, .int (nI k)] ++ List.replicate (2 - (lg_sl [.ref b, .int (nI k)]).length) Slot.unset).toArray [.int r]) := fun r => W.iret hx hb B.returns (fun t ht hW => ⟨⟨_, (), rfl, trivial, trivial⟩, va_S.F hS ht⟩) (fun q hq => by cases hq) dL_cell_18 B.notSynchronized
  refine lv_icmp_ge hx hb dL_cell_3 (tgt := 12) (by decide) (fun c => ?_) (fun c => ?_)
  · refine lv_ldc hx hb (v := 1779033703) hown (hts _ (by decide +kernel)) dL_cell_12 ?_
    refine lv_iload_n hx hb dL_cell_14 rfl (lv_at hl 1 rfl) ?_
    refine lv_iconst hx hb dL_cell_15 (v := 1) (by decide) ?_
    refine lv_iadd hx hb dL_cell_16 ?_
    refine lv_imul hx hb dL_cell_17 ?_
    exact fin _
  · have hlt : k < L := Nat.not_le.mp (fun q => c (nI_le q hk))
    refine lv_aload_n hx hb dL_cell_6 rfl (lv_at hl 0 rfl) ?_
    refine lv_iload_n hx hb dL_cell_7 rfl (lv_at hl 1 rfl) ?_
    refine va_sld hx hb hX hbl id hS (vp_in_nI hlt hL) dL_cell_8 ?_
    refine lv_goto hx hb dL_cell_9 (tgt := 18) (by decide) ?_
    exact fin _

theorem dL_low_0 : decode cL_low 0 = .ok (.iload_n 0, 1) := by decide +kernel
theorem dL_low_1 : decode cL_low 1 = .ok (.ldc 8, 2) := by decide +kernel
theorem dL_low_3 : decode cL_low 3 = .ok (.iand, 1) := by decide +kernel
theorem dL_low_4 : decode cL_low 4 = .ok (.iload_n 1, 1) := by decide +kernel
theorem dL_low_5 : decode cL_low 5 = .ok (.irem, 1) := by decide +kernel
theorem dL_low_6 : decode cL_low 6 = .ok (.ireturn, 1) := by decide +kernel
abbrev rmL_low : Room := { frames := 0, cells := 0, slots := 0, locals := 0 }

set_option maxRecDepth 100000 in
set_option maxHeartbeats 4000000 in
theorem c_L_low {l : Launch} {g : Geo} {M : Nat → Nat → Int32} {P : Nat → Nat} {v : Int32} {m : Nat} (hm0 : 0 < m) (hm : m < 2 ^ 31) : Met l yL_low wsL_low rmL_low (cPre g [.int v, .int (nI m)] M P) (cQi g (fun r M' P' => (P = P' ∧ M = M') ∧ ∃ z, z < m ∧ r = nI z)) 0 0 (gA g) := by
  refine met_i (cc := cL_low) (maxL := 2) (by decide) rfl ⟨rfl, rfl⟩ (Nat.le_of_ble_eq_true rfl) (fun x hx h hret => ?_)
  replace h : Cxk x g cL_low 2 wsL_low RL rmL_low := h
  show X x 0 [(0, .int v), (1, .int (nI m))] [] M P
  refine x_iload_n h 0 dL_low_0 rfl rfl ?_
  refine x_ldc h (nI 2147483647) (by decide +kernel) dL_low_1 ?_
  refine x_iand h dL_low_3 ?_
  obtain ⟨j, hj, ej⟩ := pk_andE v (m := 2147483647) 31 (by decide)
  refine x_top (nI j) ej ?_
  refine x_iload_n h 1 dL_low_4 rfl rfl ?_
  refine x_irem_n h dL_low_5 (by omega) (by omega) (by omega) ?_
  exact hret _ _ _ _ _ dL_low_6 (by exact ⟨⟨rfl, rfl⟩, _, Nat.mod_lt _ hm0, rfl⟩)
