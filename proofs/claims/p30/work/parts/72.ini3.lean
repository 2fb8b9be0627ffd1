theorem dX3_init_0 : decode cX3_init 0 = .ok (.aload_n 0, 1) := by decide +kernel
theorem dX3_init_1 : decode cX3_init 1 = .ok (.invokespecial 3, 3) := by decide +kernel
theorem dX3_init_4 : decode cX3_init 4 = .ok (.aload_n 0, 1) := by decide +kernel
theorem dX3_init_5 : decode cX3_init 5 = .ok (.sipush 486, 3) := by decide +kernel
theorem dX3_init_8 : decode cX3_init 8 = .ok (.newarray .int, 2) := by decide +kernel
theorem dX3_init_10 : decode cX3_init 10 = .ok (.putfield 9, 3) := by decide +kernel
theorem dX3_init_13 : decode cX3_init 13 = .ok (.iconst 0, 1) := by decide +kernel
theorem dX3_init_14 : decode cX3_init 14 = .ok (.istore_n 1, 1) := by decide +kernel
theorem dX3_init_15 : decode cX3_init 15 = .ok (.iload_n 1, 1) := by decide +kernel
theorem dX3_init_16 : decode cX3_init 16 = .ok (.bipush 81, 2) := by decide +kernel
theorem dX3_init_18 : decode cX3_init 18 = .ok (.if_icmp .ge 132, 3) := by decide +kernel
theorem dX3_init_21 : decode cX3_init 21 = .ok (.iconst 3, 1) := by decide +kernel
theorem dX3_init_22 : decode cX3_init 22 = .ok (.iload_n 1, 1) := by decide +kernel
theorem dX3_init_23 : decode cX3_init 23 = .ok (.imul, 1) := by decide +kernel
theorem dX3_init_24 : decode cX3_init 24 = .ok (.istore_n 2, 1) := by decide +kernel
theorem dX3_init_25 : decode cX3_init 25 = .ok (.aload_n 0, 1) := by decide +kernel
theorem dX3_init_26 : decode cX3_init 26 = .ok (.getfield 9, 3) := by decide +kernel
theorem dX3_init_29 : decode cX3_init 29 = .ok (.iload_n 2, 1) := by decide +kernel
theorem dX3_init_30 : decode cX3_init 30 = .ok (.iload_n 1, 1) := by decide +kernel
theorem dX3_init_31 : decode cX3_init 31 = .ok (.bipush 9, 2) := by decide +kernel
theorem dX3_init_33 : decode cX3_init 33 = .ok (.irem, 1) := by decide +kernel
theorem dX3_init_34 : decode cX3_init 34 = .ok (.ifCond .le 9, 3) := by decide +kernel
theorem dX3_init_37 : decode cX3_init 37 = .ok (.iload_n 1, 1) := by decide +kernel
theorem dX3_init_38 : decode cX3_init 38 = .ok (.iconst 1, 1) := by decide +kernel
theorem dX3_init_39 : decode cX3_init 39 = .ok (.isub, 1) := by decide +kernel
theorem dX3_init_40 : decode cX3_init 40 = .ok (.goto 4, 3) := by decide +kernel
theorem dX3_init_43 : decode cX3_init 43 = .ok (.iconst (-1), 1) := by decide +kernel
theorem dX3_init_44 : decode cX3_init 44 = .ok (.iastore, 1) := by decide +kernel
theorem dX3_init_45 : decode cX3_init 45 = .ok (.aload_n 0, 1) := by decide +kernel
theorem dX3_init_46 : decode cX3_init 46 = .ok (.getfield 9, 3) := by decide +kernel
theorem dX3_init_49 : decode cX3_init 49 = .ok (.iload_n 2, 1) := by decide +kernel
theorem dX3_init_50 : decode cX3_init 50 = .ok (.iconst 1, 1) := by decide +kernel
theorem dX3_init_51 : decode cX3_init 51 = .ok (.iadd, 1) := by decide +kernel
theorem dX3_init_52 : decode cX3_init 52 = .ok (.iload_n 1, 1) := by decide +kernel
theorem dX3_init_53 : decode cX3_init 53 = .ok (.bipush 9, 2) := by decide +kernel
theorem dX3_init_55 : decode cX3_init 55 = .ok (.irem, 1) := by decide +kernel
theorem dX3_init_56 : decode cX3_init 56 = .ok (.bipush 8, 2) := by decide +kernel
theorem dX3_init_58 : decode cX3_init 58 = .ok (.if_icmp .ge 9, 3) := by decide +kernel
theorem dX3_init_61 : decode cX3_init 61 = .ok (.iload_n 1, 1) := by decide +kernel
theorem dX3_init_62 : decode cX3_init 62 = .ok (.iconst 1, 1) := by decide +kernel
theorem dX3_init_63 : decode cX3_init 63 = .ok (.iadd, 1) := by decide +kernel
theorem dX3_init_64 : decode cX3_init 64 = .ok (.goto 4, 3) := by decide +kernel
theorem dX3_init_67 : decode cX3_init 67 = .ok (.iconst (-1), 1) := by decide +kernel
theorem dX3_init_68 : decode cX3_init 68 = .ok (.iastore, 1) := by decide +kernel
theorem dX3_init_69 : decode cX3_init 69 = .ok (.aload_n 0, 1) := by decide +kernel
theorem dX3_init_70 : decode cX3_init 70 = .ok (.getfield 9, 3) := by decide +kernel
theorem dX3_init_73 : decode cX3_init 73 = .ok (.iload_n 2, 1) := by decide +kernel
theorem dX3_init_74 : decode cX3_init 74 = .ok (.iconst 2, 1) := by decide +kernel
theorem dX3_init_75 : decode cX3_init 75 = .ok (.iadd, 1) := by decide +kernel
theorem dX3_init_76 : decode cX3_init 76 = .ok (.iload_n 1, 1) := by decide +kernel
theorem dX3_init_77 : decode cX3_init 77 = .ok (.bipush 81, 2) := by decide +kernel
theorem dX3_init_79 : decode cX3_init 79 = .ok (.iadd, 1) := by decide +kernel
theorem dX3_init_80 : decode cX3_init 80 = .ok (.iastore, 1) := by decide +kernel
theorem dX3_init_81 : decode cX3_init 81 = .ok (.iload_n 2, 1) := by decide +kernel
theorem dX3_init_82 : decode cX3_init 82 = .ok (.sipush 243, 3) := by decide +kernel
theorem dX3_init_85 : decode cX3_init 85 = .ok (.iadd, 1) := by decide +kernel
theorem dX3_init_86 : decode cX3_init 86 = .ok (.istore_n 3, 1) := by decide +kernel
theorem dX3_init_87 : decode cX3_init 87 = .ok (.aload_n 0, 1) := by decide +kernel
theorem dX3_init_88 : decode cX3_init 88 = .ok (.getfield 9, 3) := by decide +kernel
theorem dX3_init_91 : decode cX3_init 91 = .ok (.iload_n 3, 1) := by decide +kernel
theorem dX3_init_92 : decode cX3_init 92 = .ok (.iload_n 1, 1) := by decide +kernel
theorem dX3_init_93 : decode cX3_init 93 = .ok (.iastore, 1) := by decide +kernel
theorem dX3_init_94 : decode cX3_init 94 = .ok (.aload_n 0, 1) := by decide +kernel
theorem dX3_init_95 : decode cX3_init 95 = .ok (.getfield 9, 3) := by decide +kernel
theorem dX3_init_98 : decode cX3_init 98 = .ok (.iload_n 3, 1) := by decide +kernel
theorem dX3_init_99 : decode cX3_init 99 = .ok (.iconst 1, 1) := by decide +kernel
theorem dX3_init_100 : decode cX3_init 100 = .ok (.iadd, 1) := by decide +kernel
theorem dX3_init_101 : decode cX3_init 101 = .ok (.iload_n 1, 1) := by decide +kernel
theorem dX3_init_102 : decode cX3_init 102 = .ok (.bipush 9, 2) := by decide +kernel
theorem dX3_init_104 : decode cX3_init 104 = .ok (.if_icmp .lt 13, 3) := by decide +kernel
theorem dX3_init_107 : decode cX3_init 107 = .ok (.iload_n 1, 1) := by decide +kernel
theorem dX3_init_108 : decode cX3_init 108 = .ok (.bipush 81, 2) := by decide +kernel
theorem dX3_init_110 : decode cX3_init 110 = .ok (.iadd, 1) := by decide +kernel
theorem dX3_init_111 : decode cX3_init 111 = .ok (.bipush 9, 2) := by decide +kernel
theorem dX3_init_113 : decode cX3_init 113 = .ok (.isub, 1) := by decide +kernel
theorem dX3_init_114 : decode cX3_init 114 = .ok (.goto 4, 3) := by decide +kernel
theorem dX3_init_117 : decode cX3_init 117 = .ok (.iconst (-1), 1) := by decide +kernel
theorem dX3_init_118 : decode cX3_init 118 = .ok (.iastore, 1) := by decide +kernel
theorem dX3_init_119 : decode cX3_init 119 = .ok (.aload_n 0, 1) := by decide +kernel
theorem dX3_init_120 : decode cX3_init 120 = .ok (.getfield 9, 3) := by decide +kernel
theorem dX3_init_123 : decode cX3_init 123 = .ok (.iload_n 3, 1) := by decide +kernel
theorem dX3_init_124 : decode cX3_init 124 = .ok (.iconst 2, 1) := by decide +kernel
theorem dX3_init_125 : decode cX3_init 125 = .ok (.iadd, 1) := by decide +kernel
theorem dX3_init_126 : decode cX3_init 126 = .ok (.iload_n 1, 1) := by decide +kernel
theorem dX3_init_127 : decode cX3_init 127 = .ok (.bipush 72, 2) := by decide +kernel
theorem dX3_init_129 : decode cX3_init 129 = .ok (.if_icmp .ge 13, 3) := by decide +kernel
theorem dX3_init_132 : decode cX3_init 132 = .ok (.iload_n 1, 1) := by decide +kernel
theorem dX3_init_133 : decode cX3_init 133 = .ok (.bipush 81, 2) := by decide +kernel
theorem dX3_init_135 : decode cX3_init 135 = .ok (.iadd, 1) := by decide +kernel
theorem dX3_init_136 : decode cX3_init 136 = .ok (.bipush 9, 2) := by decide +kernel
theorem dX3_init_138 : decode cX3_init 138 = .ok (.iadd, 1) := by decide +kernel
theorem dX3_init_139 : decode cX3_init 139 = .ok (.goto 4, 3) := by decide +kernel
theorem dX3_init_142 : decode cX3_init 142 = .ok (.iconst (-1), 1) := by decide +kernel
theorem dX3_init_143 : decode cX3_init 143 = .ok (.iastore, 1) := by decide +kernel
theorem dX3_init_144 : decode cX3_init 144 = .ok (.iinc 1 1, 3) := by decide +kernel
theorem dX3_init_147 : decode cX3_init 147 = .ok (.goto (-132), 3) := by decide +kernel
theorem dX3_init_150 : decode cX3_init 150 = .ok (.aload_n 0, 1) := by decide +kernel
theorem dX3_init_151 : decode cX3_init 151 = .ok (.sipush 162, 3) := by decide +kernel
theorem dX3_init_154 : decode cX3_init 154 = .ok (.newarray .boolean, 2) := by decide +kernel
theorem dX3_init_156 : decode cX3_init 156 = .ok (.putfield 15, 3) := by decide +kernel
theorem dX3_init_159 : decode cX3_init 159 = .ok (.aload_n 0, 1) := by decide +kernel
theorem dX3_init_160 : decode cX3_init 160 = .ok (.sipush 162, 3) := by decide +kernel
theorem dX3_init_163 : decode cX3_init 163 = .ok (.newarray .int, 2) := by decide +kernel
theorem dX3_init_165 : decode cX3_init 165 = .ok (.putfield 19, 3) := by decide +kernel
theorem dX3_init_168 : decode cX3_init 168 = .ok (.aload_n 0, 1) := by decide +kernel
theorem dX3_init_169 : decode cX3_init 169 = .ok (.sipush 162, 3) := by decide +kernel
theorem dX3_init_172 : decode cX3_init 172 = .ok (.newarray .int, 2) := by decide +kernel
theorem dX3_init_174 : decode cX3_init 174 = .ok (.putfield 22, 3) := by decide +kernel
theorem dX3_init_177 : decode cX3_init 177 = .ok (.aload_n 0, 1) := by decide +kernel
theorem dX3_init_178 : decode cX3_init 178 = .ok (.sipush 162, 3) := by decide +kernel
theorem dX3_init_181 : decode cX3_init 181 = .ok (.newarray .boolean, 2) := by decide +kernel
theorem dX3_init_183 : decode cX3_init 183 = .ok (.putfield 25, 3) := by decide +kernel
theorem dX3_init_186 : decode cX3_init 186 = .ok (.aload_n 0, 1) := by decide +kernel
theorem dX3_init_187 : decode cX3_init 187 = .ok (.sipush 162, 3) := by decide +kernel
theorem dX3_init_190 : decode cX3_init 190 = .ok (.newarray .int, 2) := by decide +kernel
theorem dX3_init_192 : decode cX3_init 192 = .ok (.putfield 28, 3) := by decide +kernel
theorem dX3_init_195 : decode cX3_init 195 = .ok (.aload_n 0, 1) := by decide +kernel
theorem dX3_init_196 : decode cX3_init 196 = .ok (.sipush 324, 3) := by decide +kernel
theorem dX3_init_199 : decode cX3_init 199 = .ok (.newarray .int, 2) := by decide +kernel
theorem dX3_init_201 : decode cX3_init 201 = .ok (.putfield 31, 3) := by decide +kernel
theorem dX3_init_204 : decode cX3_init 204 = .ok (.aload_n 0, 1) := by decide +kernel
theorem dX3_init_205 : decode cX3_init 205 = .ok (.bipush 6, 2) := by decide +kernel
theorem dX3_init_207 : decode cX3_init 207 = .ok (.newarray .int, 2) := by decide +kernel
theorem dX3_init_209 : decode cX3_init 209 = .ok (.putfield 34, 3) := by decide +kernel
theorem dX3_init_212 : decode cX3_init 212 = .ok (.return_, 1) := by decide +kernel
abbrev rmX3_init : Room := { frames := 1, cells := 8, slots := 1626, locals := 12 }
set_option maxRecDepth 20000 in
theorem in_X3_init_X3 : ∀ w ∈ wsX30, w ∈ wsX3_init := by decide +kernel

def nbT : Nat → Int32 := fun j => ngh (nb (j % 3) (j / 3))
def NbI (f : Nat → Int32) (i : Nat) : Prop := ∀ p, p < i → ∀ k, k < 3 → f (3 * p + k) = ngh (nb k p) ∧ f (3 * p + 243 + k) = ngh (nb k (81 + p))
theorem NbI_e {f : Nat → Int32} (h : NbI f 81) : ∀ j, j < 486 → f j = nbT j := by
  intro j hj
  unfold nbT
  by_cases h1 : j < 243
  · have := (h (j / 3) (by omega) (j % 3) (Nat.mod_lt _ (by decide))).1
    rw [← this]
    congr 1
    omega
  · have := (h (j / 3 - 81) (by omega) (j % 3) (Nat.mod_lt _ (by decide))).2
    rw [show 81 + (j / 3 - 81) = j / 3 by omega] at this
    rw [← this]
    congr 1
    omega
theorem NbI_s {f : Nat → Int32} {i : Nat} (h : NbI f i) (hi : i < 81) {v0 v1 v4 v5 : Int32} (h0 : v0 = ngh (nb 0 i)) (h1 : v1 = ngh (nb 1 i)) (h4 : v4 = ngh (nb 1 (81 + i))) (h5 : v5 = ngh (nb 2 (81 + i))) : NbI (upd (upd (upd (upd (upd (upd f (3 * i) v0) (3 * i + 1) v1) (3 * i + 2) (nI (i + 81))) (3 * i + 243) (nI i)) (3 * i + 243 + 1) v4) (3 * i + 243 + 2) v5) (i + 1) := by
  have h2 : nI (i + 81) = ngh (nb 2 i) := by
    unfold nb
    rw [if_pos hi, if_neg (by decide), if_neg (by decide)]
    rfl
  have h3 : nI i = ngh (nb 0 (81 + i)) := by
    unfold nb
    rw [if_neg (by omega), if_pos rfl, show 81 + i - 81 = i by omega]
    rfl
  intro p hp k hk
  have hF : ∀ j, upd (upd (upd (upd (upd (upd f (3 * i) v0) (3 * i + 1) v1) (3 * i + 2) (nI (i + 81))) (3 * i + 243) (nI i)) (3 * i + 243 + 1) v4) (3 * i + 243 + 2) v5 j = (if j = 3 * i + 243 + 2 then v5 else if j = 3 * i + 243 + 1 then v4 else if j = 3 * i + 243 then nI i else if j = 3 * i + 2 then nI (i + 81) else if j = 3 * i + 1 then v1 else if j = 3 * i then v0 else f j) := fun j => rfl
  rw [hF, hF]
  by_cases e : p = i
  · subst e
    rcases (show k = 0 ∨ k = 1 ∨ k = 2 by omega) with rfl | rfl | rfl
    · refine ⟨?_, ?_⟩
      · rw [if_neg (by omega), if_neg (by omega), if_neg (by omega), if_neg (by omega), if_neg (by omega), if_pos (by omega)]; exact h0
      · rw [if_neg (by omega), if_neg (by omega), if_pos (by omega)]; exact h3
    · refine ⟨?_, ?_⟩
      · rw [if_neg (by omega), if_neg (by omega), if_neg (by omega), if_neg (by omega), if_pos (by omega)]; exact h1
      · rw [if_neg (by omega), if_pos (by omega)]; exact h4
    · refine ⟨?_, ?_⟩
      · rw [if_neg (by omega), if_neg (by omega), if_neg (by omega), if_pos (by omega)]; exact h2
      · rw [if_pos (by omega)]; exact h5
  · have hp2 : p < i := by omega
    refine ⟨?_, ?_⟩
    · rw [if_neg (by omega), if_neg (by omega), if_neg (by omega), if_neg (by omega), if_neg (by omega), if_neg (by omega)]; exact (h p hp2 k hk).1
    · rw [if_neg (by omega), if_neg (by omega), if_neg (by omega), if_neg (by omega), if_neg (by omega), if_neg (by omega)]; exact (h p hp2 k hk).2

def rtT (cA : Nat → ClassId) (ad : Nat → Nat) : va_W := [(ad 1, .inl (cA 0, 486, .inl nbT)), (ad 2, .inl (cA 1, 162, .inl (fun _ => 0))), (ad 3, .inl (cA 0, 162, .inl (fun _ => 0))), (ad 4, .inl (cA 0, 162, .inl (fun _ => 0))), (ad 5, .inl (cA 1, 162, .inl (fun _ => 0))), (ad 6, .inl (cA 0, 162, .inl (fun _ => 0))), (ad 7, .inl (cA 0, 324, .inl (fun _ => 0))), (ad 8, .inl (cA 0, 6, .inl (fun _ => 0)))]

set_option maxRecDepth 100000 in
set_option maxHeartbeats 4000000 in
theorem c_X3_init {l : Launch} {D : va_G} {cA : Nat → ClassId} {h0 sz : Nat} : Met l yX3_init wsX3_init rmX3_init (iPre D cA h0 (.inr (3, [.null, .null, .null, .null, .null, .null, .int 0, .int 0, .int 0, .null, .null, .int 0, .int 0, .int 0, .int 0])) sz) (iPost D h0 (.inr (3, [.null, .null, .null, .null, .null, .null, .int 0, .int 0, .int 0, .null, .null, .int 0, .int 0, .int 0, .int 0])) sz (fun ad => (ad 0, .inr (3, [.ref (ad 1), .ref (ad 2), .ref (ad 3), .ref (ad 4), .ref (ad 5), .ref (ad 6), .int 0, .int 0, .int 0, .ref (ad 7), .ref (ad 8), .int 0, .int 0, .int 0, .int 0])) :: rtT cA ad)) 8 1626 (va_A [(h0, .inr (3, [.null, .null, .null, .null, .null, .null, .int 0, .int 0, .int 0, .null, .null, .int 0, .int 0, .int 0, .int 0]))] sz) := by
  refine met_ini (cc := cX3_init) (maxL := 4) (by decide) rfl rfl (by decide) (fun x hx h hin hret => ?_)
  replace h : Yk x D cA cX3_init 4 wsX3_init RX3 rmX3_init := h
  refine y_aload_n h 0 dX3_init_0 rfl rfl ?_
  refine y_objInit h (by decide +kernel) (by decide +kernel) (List.mem_of_getElem? (i := 3) rfl) (by decide) (by decide) dX3_init_1 ?_
  refine y_aload_n h 0 dX3_init_4 rfl rfl ?_
  refine y_sipush h (nI 486) dX3_init_5 (by decide) ?_
  refine y_newi h 486 rfl (by decide) (by decide +kernel) (Nat.le_of_ble_eq_true rfl) (Nat.le_of_ble_eq_true rfl) dX3_init_8 (fun q1 => ?_)
  refine y_to ([(h0, .inr (3, [.null, .null, .null, .null, .null, .null, .int 0, .int 0, .int 0, .null, .null, .int 0, .int 0, .int 0, .int 0])), (q1, .inl (cA 0, 486, .inl (fun _ => 0)))]) rfl ?_
  refine y_put h 0 3 rfl rfl in_X3_init_X3 tyX3_ok nmX3 0 (by decide) (by decide +kernel) (Or.inr ⟨rfl, hin, rfl⟩) rfl rfl (Nat.le_of_ble_eq_true rfl) dX3_init_10 ?_
  refine y_to ([(h0, .inr (3, [.ref q1, .null, .null, .null, .null, .null, .int 0, .int 0, .int 0, .null, .null, .int 0, .int 0, .int 0, .int 0])), (q1, .inl (cA 0, 486, .inl (fun _ => 0)))]) rfl ?_
  refine y_iconst h (nI 0) dX3_init_13 (by decide) ?_
  refine y_istore_n h [(1, .int (nI 0)), (0, .ref h0)] dX3_init_14 rfl (by decide) rfl ?_
  have L15 : ∀ (fu i : Nat) (f : Nat → Int32), 81 - i < fu → i ≤ 81 → NbI f i → Y x 15 [(1, .int (nI i)), (0, .ref h0)] [] ([(h0, .inr (3, [.ref q1, .null, .null, .null, .null, .null, .int 0, .int 0, .int 0, .null, .null, .int 0, .int 0, .int 0, .int 0])), (q1, .inl (cA 0, 486, .inl f))]) 1 486 := by
    intro fu
    induction fu with
    | zero => intro i f hmu; exact absurd hmu (Nat.not_lt_zero _)
    | succ fu ih =>
      intro i f hmu hi hf
      refine y_iload_n h 0 dX3_init_15 rfl rfl ?_
      refine y_bipush h (nI 81) dX3_init_16 (by decide) ?_
      refine y_icmp_ge_n h 150 dX3_init_18 (by decide) (by omega) (by decide) (fun c => ?_) (fun c => ?_)
      · obtain rfl : i = 81 := by omega
        refine y_ati 1 nbT rfl (NbI_e hf) ?_
        refine y_to ([(h0, .inr (3, [.ref q1, .null, .null, .null, .null, .null, .int 0, .int 0, .int 0, .null, .null, .int 0, .int 0, .int 0, .int 0])), (q1, .inl (cA 0, 486, .inl nbT))]) rfl ?_
        refine y_aload_n h 1 dX3_init_150 rfl rfl ?_
        refine y_sipush h (nI 162) dX3_init_151 (by decide) ?_
        refine y_newz h 162 rfl (by decide) (by decide +kernel) (Nat.le_of_ble_eq_true rfl) (Nat.le_of_ble_eq_true rfl) dX3_init_154 (fun q2 => ?_)
        refine y_to ([(h0, .inr (3, [.ref q1, .null, .null, .null, .null, .null, .int 0, .int 0, .int 0, .null, .null, .int 0, .int 0, .int 0, .int 0])), (q1, .inl (cA 0, 486, .inl nbT)), (q2, .inl (cA 1, 162, .inl (fun _ => 0)))]) rfl ?_
        refine y_put h 0 3 rfl rfl in_X3_init_X3 tyX3_ok nmX3 1 (by decide) (by decide +kernel) (Or.inr ⟨rfl, hin, rfl⟩) rfl rfl (Nat.le_of_ble_eq_true rfl) dX3_init_156 ?_
        refine y_to ([(h0, .inr (3, [.ref q1, .ref q2, .null, .null, .null, .null, .int 0, .int 0, .int 0, .null, .null, .int 0, .int 0, .int 0, .int 0])), (q1, .inl (cA 0, 486, .inl nbT)), (q2, .inl (cA 1, 162, .inl (fun _ => 0)))]) rfl ?_
        refine y_aload_n h 1 dX3_init_159 rfl rfl ?_
        refine y_sipush h (nI 162) dX3_init_160 (by decide) ?_
        refine y_newi h 162 rfl (by decide) (by decide +kernel) (Nat.le_of_ble_eq_true rfl) (Nat.le_of_ble_eq_true rfl) dX3_init_163 (fun q3 => ?_)
        refine y_to ([(h0, .inr (3, [.ref q1, .ref q2, .null, .null, .null, .null, .int 0, .int 0, .int 0, .null, .null, .int 0, .int 0, .int 0, .int 0])), (q1, .inl (cA 0, 486, .inl nbT)), (q2, .inl (cA 1, 162, .inl (fun _ => 0))), (q3, .inl (cA 0, 162, .inl (fun _ => 0)))]) rfl ?_
        refine y_put h 0 3 rfl rfl in_X3_init_X3 tyX3_ok nmX3 2 (by decide) (by decide +kernel) (Or.inr ⟨rfl, hin, rfl⟩) rfl rfl (Nat.le_of_ble_eq_true rfl) dX3_init_165 ?_
        refine y_to ([(h0, .inr (3, [.ref q1, .ref q2, .ref q3, .null, .null, .null, .int 0, .int 0, .int 0, .null, .null, .int 0, .int 0, .int 0, .int 0])), (q1, .inl (cA 0, 486, .inl nbT)), (q2, .inl (cA 1, 162, .inl (fun _ => 0))), (q3, .inl (cA 0, 162, .inl (fun _ => 0)))]) rfl ?_
        refine y_aload_n h 1 dX3_init_168 rfl rfl ?_
        refine y_sipush h (nI 162) dX3_init_169 (by decide) ?_
        refine y_newi h 162 rfl (by decide) (by decide +kernel) (Nat.le_of_ble_eq_true rfl) (Nat.le_of_ble_eq_true rfl) dX3_init_172 (fun q4 => ?_)
        refine y_to ([(h0, .inr (3, [.ref q1, .ref q2, .ref q3, .null, .null, .null, .int 0, .int 0, .int 0, .null, .null, .int 0, .int 0, .int 0, .int 0])), (q1, .inl (cA 0, 486, .inl nbT)), (q2, .inl (cA 1, 162, .inl (fun _ => 0))), (q3, .inl (cA 0, 162, .inl (fun _ => 0))), (q4, .inl (cA 0, 162, .inl (fun _ => 0)))]) rfl ?_
        refine y_put h 0 3 rfl rfl in_X3_init_X3 tyX3_ok nmX3 3 (by decide) (by decide +kernel) (Or.inr ⟨rfl, hin, rfl⟩) rfl rfl (Nat.le_of_ble_eq_true rfl) dX3_init_174 ?_
        refine y_to ([(h0, .inr (3, [.ref q1, .ref q2, .ref q3, .ref q4, .null, .null, .int 0, .int 0, .int 0, .null, .null, .int 0, .int 0, .int 0, .int 0])), (q1, .inl (cA 0, 486, .inl nbT)), (q2, .inl (cA 1, 162, .inl (fun _ => 0))), (q3, .inl (cA 0, 162, .inl (fun _ => 0))), (q4, .inl (cA 0, 162, .inl (fun _ => 0)))]) rfl ?_
        refine y_aload_n h 1 dX3_init_177 rfl rfl ?_
        refine y_sipush h (nI 162) dX3_init_178 (by decide) ?_
        refine y_newz h 162 rfl (by decide) (by decide +kernel) (Nat.le_of_ble_eq_true rfl) (Nat.le_of_ble_eq_true rfl) dX3_init_181 (fun q5 => ?_)
        refine y_to ([(h0, .inr (3, [.ref q1, .ref q2, .ref q3, .ref q4, .null, .null, .int 0, .int 0, .int 0, .null, .null, .int 0, .int 0, .int 0, .int 0])), (q1, .inl (cA 0, 486, .inl nbT)), (q2, .inl (cA 1, 162, .inl (fun _ => 0))), (q3, .inl (cA 0, 162, .inl (fun _ => 0))), (q4, .inl (cA 0, 162, .inl (fun _ => 0))), (q5, .inl (cA 1, 162, .inl (fun _ => 0)))]) rfl ?_
        refine y_put h 0 3 rfl rfl in_X3_init_X3 tyX3_ok nmX3 4 (by decide) (by decide +kernel) (Or.inr ⟨rfl, hin, rfl⟩) rfl rfl (Nat.le_of_ble_eq_true rfl) dX3_init_183 ?_
        refine y_to ([(h0, .inr (3, [.ref q1, .ref q2, .ref q3, .ref q4, .ref q5, .null, .int 0, .int 0, .int 0, .null, .null, .int 0, .int 0, .int 0, .int 0])), (q1, .inl (cA 0, 486, .inl nbT)), (q2, .inl (cA 1, 162, .inl (fun _ => 0))), (q3, .inl (cA 0, 162, .inl (fun _ => 0))), (q4, .inl (cA 0, 162, .inl (fun _ => 0))), (q5, .inl (cA 1, 162, .inl (fun _ => 0)))]) rfl ?_
        refine y_aload_n h 1 dX3_init_186 rfl rfl ?_
        refine y_sipush h (nI 162) dX3_init_187 (by decide) ?_
        refine y_newi h 162 rfl (by decide) (by decide +kernel) (Nat.le_of_ble_eq_true rfl) (Nat.le_of_ble_eq_true rfl) dX3_init_190 (fun q6 => ?_)
        refine y_to ([(h0, .inr (3, [.ref q1, .ref q2, .ref q3, .ref q4, .ref q5, .null, .int 0, .int 0, .int 0, .null, .null, .int 0, .int 0, .int 0, .int 0])), (q1, .inl (cA 0, 486, .inl nbT)), (q2, .inl (cA 1, 162, .inl (fun _ => 0))), (q3, .inl (cA 0, 162, .inl (fun _ => 0))), (q4, .inl (cA 0, 162, .inl (fun _ => 0))), (q5, .inl (cA 1, 162, .inl (fun _ => 0))), (q6, .inl (cA 0, 162, .inl (fun _ => 0)))]) rfl ?_
        refine y_put h 0 3 rfl rfl in_X3_init_X3 tyX3_ok nmX3 5 (by decide) (by decide +kernel) (Or.inr ⟨rfl, hin, rfl⟩) rfl rfl (Nat.le_of_ble_eq_true rfl) dX3_init_192 ?_
        refine y_to ([(h0, .inr (3, [.ref q1, .ref q2, .ref q3, .ref q4, .ref q5, .ref q6, .int 0, .int 0, .int 0, .null, .null, .int 0, .int 0, .int 0, .int 0])), (q1, .inl (cA 0, 486, .inl nbT)), (q2, .inl (cA 1, 162, .inl (fun _ => 0))), (q3, .inl (cA 0, 162, .inl (fun _ => 0))), (q4, .inl (cA 0, 162, .inl (fun _ => 0))), (q5, .inl (cA 1, 162, .inl (fun _ => 0))), (q6, .inl (cA 0, 162, .inl (fun _ => 0)))]) rfl ?_
        refine y_aload_n h 1 dX3_init_195 rfl rfl ?_
        refine y_sipush h (nI 324) dX3_init_196 (by decide) ?_
        refine y_newi h 324 rfl (by decide) (by decide +kernel) (Nat.le_of_ble_eq_true rfl) (Nat.le_of_ble_eq_true rfl) dX3_init_199 (fun q7 => ?_)
        refine y_to ([(h0, .inr (3, [.ref q1, .ref q2, .ref q3, .ref q4, .ref q5, .ref q6, .int 0, .int 0, .int 0, .null, .null, .int 0, .int 0, .int 0, .int 0])), (q1, .inl (cA 0, 486, .inl nbT)), (q2, .inl (cA 1, 162, .inl (fun _ => 0))), (q3, .inl (cA 0, 162, .inl (fun _ => 0))), (q4, .inl (cA 0, 162, .inl (fun _ => 0))), (q5, .inl (cA 1, 162, .inl (fun _ => 0))), (q6, .inl (cA 0, 162, .inl (fun _ => 0))), (q7, .inl (cA 0, 324, .inl (fun _ => 0)))]) rfl ?_
        refine y_put h 0 3 rfl rfl in_X3_init_X3 tyX3_ok nmX3 9 (by decide) (by decide +kernel) (Or.inr ⟨rfl, hin, rfl⟩) rfl rfl (Nat.le_of_ble_eq_true rfl) dX3_init_201 ?_
        refine y_to ([(h0, .inr (3, [.ref q1, .ref q2, .ref q3, .ref q4, .ref q5, .ref q6, .int 0, .int 0, .int 0, .ref q7, .null, .int 0, .int 0, .int 0, .int 0])), (q1, .inl (cA 0, 486, .inl nbT)), (q2, .inl (cA 1, 162, .inl (fun _ => 0))), (q3, .inl (cA 0, 162, .inl (fun _ => 0))), (q4, .inl (cA 0, 162, .inl (fun _ => 0))), (q5, .inl (cA 1, 162, .inl (fun _ => 0))), (q6, .inl (cA 0, 162, .inl (fun _ => 0))), (q7, .inl (cA 0, 324, .inl (fun _ => 0)))]) rfl ?_
        refine y_aload_n h 1 dX3_init_204 rfl rfl ?_
        refine y_bipush h (nI 6) dX3_init_205 (by decide) ?_
        refine y_newi h 6 rfl (by decide) (by decide +kernel) (Nat.le_of_ble_eq_true rfl) (Nat.le_of_ble_eq_true rfl) dX3_init_207 (fun q8 => ?_)
        refine y_to ([(h0, .inr (3, [.ref q1, .ref q2, .ref q3, .ref q4, .ref q5, .ref q6, .int 0, .int 0, .int 0, .ref q7, .null, .int 0, .int 0, .int 0, .int 0])), (q1, .inl (cA 0, 486, .inl nbT)), (q2, .inl (cA 1, 162, .inl (fun _ => 0))), (q3, .inl (cA 0, 162, .inl (fun _ => 0))), (q4, .inl (cA 0, 162, .inl (fun _ => 0))), (q5, .inl (cA 1, 162, .inl (fun _ => 0))), (q6, .inl (cA 0, 162, .inl (fun _ => 0))), (q7, .inl (cA 0, 324, .inl (fun _ => 0))), (q8, .inl (cA 0, 6, .inl (fun _ => 0)))]) rfl ?_
        refine y_put h 0 3 rfl rfl in_X3_init_X3 tyX3_ok nmX3 10 (by decide) (by decide +kernel) (Or.inr ⟨rfl, hin, rfl⟩) rfl rfl (Nat.le_of_ble_eq_true rfl) dX3_init_209 ?_
        refine y_to ([(h0, .inr (3, [.ref q1, .ref q2, .ref q3, .ref q4, .ref q5, .ref q6, .int 0, .int 0, .int 0, .ref q7, .ref q8, .int 0, .int 0, .int 0, .int 0])), (q1, .inl (cA 0, 486, .inl nbT)), (q2, .inl (cA 1, 162, .inl (fun _ => 0))), (q3, .inl (cA 0, 162, .inl (fun _ => 0))), (q4, .inl (cA 0, 162, .inl (fun _ => 0))), (q5, .inl (cA 1, 162, .inl (fun _ => 0))), (q6, .inl (cA 0, 162, .inl (fun _ => 0))), (q7, .inl (cA 0, 324, .inl (fun _ => 0))), (q8, .inl (cA 0, 6, .inl (fun _ => 0)))]) rfl ?_
        refine hret _ _ (fun o => [h0, q1, q2, q3, q4, q5, q6, q7, q8].getD o 0) _ dX3_init_212 rfl (List.Perm.of_eq rfl)
      · skip
        refine y_iconst h (nI 3) dX3_init_21 (by decide) ?_
        refine y_iload_n h 0 dX3_init_22 rfl rfl ?_
        refine y_imul_n h dX3_init_23 ?_
        refine y_istore_n h [(2, .int (nI (3 * i))), (1, .int (nI i)), (0, .ref h0)] dX3_init_24 rfl (by decide) rfl ?_
        refine y_aload_n h 2 dX3_init_25 rfl rfl ?_
        refine y_get h 0 3 rfl rfl in_X3_init_X3 0 (by decide) (by decide +kernel) rfl dX3_init_26 ?_
        refine y_iload_n h 0 dX3_init_29 rfl rfl ?_
        refine y_iload_n h 1 dX3_init_30 rfl rfl ?_
        refine y_bipush h (nI 9) dX3_init_31 (by decide) ?_
        refine y_irem_n h dX3_init_33 (by omega) (by decide) (by decide) ?_
        have J44 : ∀ v0 : Int32, v0 = ngh (nb 0 i) → Y x 44 [(2, .int (nI (3 * i))), (1, .int (nI i)), (0, .ref h0)] [.int v0, .int (nI (3 * i)), .ref q1] ([(h0, .inr (3, [.ref q1, .null, .null, .null, .null, .null, .int 0, .int 0, .int 0, .null, .null, .int 0, .int 0, .int 0, .int 0])), (q1, .inl (cA 0, 486, .inl f))]) 1 486 := by
          intro v0 hv0
          refine y_iast h 1 rfl (3 * i) (by omega) (by decide) dX3_init_44 ?_
          refine y_to ([(h0, .inr (3, [.ref q1, .null, .null, .null, .null, .null, .int 0, .int 0, .int 0, .null, .null, .int 0, .int 0, .int 0, .int 0])), (q1, .inl (cA 0, 486, .inl (upd f (3 * i) v0)))]) rfl ?_
          refine y_aload_n h 2 dX3_init_45 rfl rfl ?_
          refine y_get h 0 3 rfl rfl in_X3_init_X3 0 (by decide) (by decide +kernel) rfl dX3_init_46 ?_
          refine y_iload_n h 0 dX3_init_49 rfl rfl ?_
          refine y_iconst h (nI 1) dX3_init_50 (by decide) ?_
          refine y_iadd_n h dX3_init_51 ?_
          refine y_iload_n h 1 dX3_init_52 rfl rfl ?_
          refine y_bipush h (nI 9) dX3_init_53 (by decide) ?_
          refine y_irem_n h dX3_init_55 (by omega) (by decide) (by decide) ?_
          refine y_bipush h (nI 8) dX3_init_56 (by decide) ?_
          have J68 : ∀ v1 : Int32, v1 = ngh (nb 1 i) → Y x 68 [(2, .int (nI (3 * i))), (1, .int (nI i)), (0, .ref h0)] [.int v1, .int (nI ((3 * i) + 1)), .ref q1] ([(h0, .inr (3, [.ref q1, .null, .null, .null, .null, .null, .int 0, .int 0, .int 0, .null, .null, .int 0, .int 0, .int 0, .int 0])), (q1, .inl (cA 0, 486, .inl (upd f (3 * i) v0)))]) 1 486 := by
            intro v1 hv1
            refine y_iast h 1 rfl ((3 * i) + 1) (by omega) (by decide) dX3_init_68 ?_
            refine y_to ([(h0, .inr (3, [.ref q1, .null, .null, .null, .null, .null, .int 0, .int 0, .int 0, .null, .null, .int 0, .int 0, .int 0, .int 0])), (q1, .inl (cA 0, 486, .inl (upd (upd f (3 * i) v0) ((3 * i) + 1) v1)))]) rfl ?_
            refine y_aload_n h 2 dX3_init_69 rfl rfl ?_
            refine y_get h 0 3 rfl rfl in_X3_init_X3 0 (by decide) (by decide +kernel) rfl dX3_init_70 ?_
            refine y_iload_n h 0 dX3_init_73 rfl rfl ?_
            refine y_iconst h (nI 2) dX3_init_74 (by decide) ?_
            refine y_iadd_n h dX3_init_75 ?_
            refine y_iload_n h 1 dX3_init_76 rfl rfl ?_
            refine y_bipush h (nI 81) dX3_init_77 (by decide) ?_
            refine y_iadd_n h dX3_init_79 ?_
            refine y_iast h 1 rfl ((3 * i) + 2) (by omega) (by decide) dX3_init_80 ?_
            refine y_to ([(h0, .inr (3, [.ref q1, .null, .null, .null, .null, .null, .int 0, .int 0, .int 0, .null, .null, .int 0, .int 0, .int 0, .int 0])), (q1, .inl (cA 0, 486, .inl (upd (upd (upd f (3 * i) v0) ((3 * i) + 1) v1) ((3 * i) + 2) (nI (i + 81)))))]) rfl ?_
            refine y_iload_n h 0 dX3_init_81 rfl rfl ?_
            refine y_sipush h (nI 243) dX3_init_82 (by decide) ?_
            refine y_iadd_n h dX3_init_85 ?_
            refine y_istore_n h [(3, .int (nI ((3 * i) + 243))), (2, .int (nI (3 * i))), (1, .int (nI i)), (0, .ref h0)] dX3_init_86 rfl (by decide) rfl ?_
            refine y_aload_n h 3 dX3_init_87 rfl rfl ?_
            refine y_get h 0 3 rfl rfl in_X3_init_X3 0 (by decide) (by decide +kernel) rfl dX3_init_88 ?_
            refine y_iload_n h 0 dX3_init_91 rfl rfl ?_
            refine y_iload_n h 2 dX3_init_92 rfl rfl ?_
            refine y_iast h 1 rfl ((3 * i) + 243) (by omega) (by decide) dX3_init_93 ?_
            refine y_to ([(h0, .inr (3, [.ref q1, .null, .null, .null, .null, .null, .int 0, .int 0, .int 0, .null, .null, .int 0, .int 0, .int 0, .int 0])), (q1, .inl (cA 0, 486, .inl (upd (upd (upd (upd f (3 * i) v0) ((3 * i) + 1) v1) ((3 * i) + 2) (nI (i + 81))) ((3 * i) + 243) (nI i))))]) rfl ?_
            refine y_aload_n h 3 dX3_init_94 rfl rfl ?_
            refine y_get h 0 3 rfl rfl in_X3_init_X3 0 (by decide) (by decide +kernel) rfl dX3_init_95 ?_
            refine y_iload_n h 0 dX3_init_98 rfl rfl ?_
            refine y_iconst h (nI 1) dX3_init_99 (by decide) ?_
            refine y_iadd_n h dX3_init_100 ?_
            refine y_iload_n h 2 dX3_init_101 rfl rfl ?_
            refine y_bipush h (nI 9) dX3_init_102 (by decide) ?_
            have J118 : ∀ v4 : Int32, v4 = ngh (nb 1 (81 + i)) → Y x 118 [(3, .int (nI ((3 * i) + 243))), (2, .int (nI (3 * i))), (1, .int (nI i)), (0, .ref h0)] [.int v4, .int (nI (((3 * i) + 243) + 1)), .ref q1] ([(h0, .inr (3, [.ref q1, .null, .null, .null, .null, .null, .int 0, .int 0, .int 0, .null, .null, .int 0, .int 0, .int 0, .int 0])), (q1, .inl (cA 0, 486, .inl (upd (upd (upd (upd f (3 * i) v0) ((3 * i) + 1) v1) ((3 * i) + 2) (nI (i + 81))) ((3 * i) + 243) (nI i))))]) 1 486 := by
              intro v4 hv4
              refine y_iast h 1 rfl (((3 * i) + 243) + 1) (by omega) (by decide) dX3_init_118 ?_
              refine y_to ([(h0, .inr (3, [.ref q1, .null, .null, .null, .null, .null, .int 0, .int 0, .int 0, .null, .null, .int 0, .int 0, .int 0, .int 0])), (q1, .inl (cA 0, 486, .inl (upd (upd (upd (upd (upd f (3 * i) v0) ((3 * i) + 1) v1) ((3 * i) + 2) (nI (i + 81))) ((3 * i) + 243) (nI i)) (((3 * i) + 243) + 1) v4)))]) rfl ?_
              refine y_aload_n h 3 dX3_init_119 rfl rfl ?_
              refine y_get h 0 3 rfl rfl in_X3_init_X3 0 (by decide) (by decide +kernel) rfl dX3_init_120 ?_
              refine y_iload_n h 0 dX3_init_123 rfl rfl ?_
              refine y_iconst h (nI 2) dX3_init_124 (by decide) ?_
              refine y_iadd_n h dX3_init_125 ?_
              refine y_iload_n h 2 dX3_init_126 rfl rfl ?_
              refine y_bipush h (nI 72) dX3_init_127 (by decide) ?_
              have J143 : ∀ v5 : Int32, v5 = ngh (nb 2 (81 + i)) → Y x 143 [(3, .int (nI ((3 * i) + 243))), (2, .int (nI (3 * i))), (1, .int (nI i)), (0, .ref h0)] [.int v5, .int (nI (((3 * i) + 243) + 2)), .ref q1] ([(h0, .inr (3, [.ref q1, .null, .null, .null, .null, .null, .int 0, .int 0, .int 0, .null, .null, .int 0, .int 0, .int 0, .int 0])), (q1, .inl (cA 0, 486, .inl (upd (upd (upd (upd (upd f (3 * i) v0) ((3 * i) + 1) v1) ((3 * i) + 2) (nI (i + 81))) ((3 * i) + 243) (nI i)) (((3 * i) + 243) + 1) v4)))]) 1 486 := by
                intro v5 hv5
                refine y_iast h 1 rfl (((3 * i) + 243) + 2) (by omega) (by decide) dX3_init_143 ?_
                refine y_to ([(h0, .inr (3, [.ref q1, .null, .null, .null, .null, .null, .int 0, .int 0, .int 0, .null, .null, .int 0, .int 0, .int 0, .int 0])), (q1, .inl (cA 0, 486, .inl (upd (upd (upd (upd (upd (upd f (3 * i) v0) ((3 * i) + 1) v1) ((3 * i) + 2) (nI (i + 81))) ((3 * i) + 243) (nI i)) (((3 * i) + 243) + 1) v4) (((3 * i) + 243) + 2) v5)))]) rfl ?_
                refine y_iinc_n h 2 (n := 1) [(1, .int (nI (i + 1))), (3, .int (nI ((3 * i) + 243))), (2, .int (nI (3 * i))), (0, .ref h0)] dX3_init_144 rfl (by decide) rfl ?_
                refine y_goto h 15 dX3_init_147 (by decide) ?_
                exact y_lv (ih (i + 1) _ (by omega) (by omega) (NbI_s hf (by omega) hv0 hv1 hv4 hv5)) [0, 3] rfl
              refine y_icmp_ge_n h 142 dX3_init_129 (by decide) (by omega) (by decide) (fun c1 => ?_) (fun c1 => ?_)
              · skip
                refine y_iconst h (-1) dX3_init_142 (by decide) ?_
                exact J143 _ (by unfold nb; rw [if_neg (by omega), if_neg (by decide), if_neg (by decide), if_neg (by omega)]; rfl)
              · skip
                refine y_iload_n h 2 dX3_init_132 rfl rfl ?_
                refine y_bipush h (nI 81) dX3_init_133 (by decide) ?_
                refine y_iadd_n h dX3_init_135 ?_
                refine y_bipush h (nI 9) dX3_init_136 (by decide) ?_
                refine y_iadd_n h dX3_init_138 ?_
                refine y_goto h 143 dX3_init_139 (by decide) ?_
                exact J143 _ (by unfold nb; rw [if_neg (by omega), if_neg (by decide), if_neg (by decide), if_pos (by omega), show 81 + i + 9 = i + 81 + 9 by omega]; rfl)
            refine y_icmp_lt_n h 117 dX3_init_104 (by decide) (by omega) (by decide) (fun c1 => ?_) (fun c1 => ?_)
            · skip
              refine y_iconst h (-1) dX3_init_117 (by decide) ?_
              exact J118 _ (by unfold nb; rw [if_neg (by omega), if_neg (by decide), if_pos rfl, if_neg (by omega)]; rfl)
            · skip
              refine y_iload_n h 2 dX3_init_107 rfl rfl ?_
              refine y_bipush h (nI 81) dX3_init_108 (by decide) ?_
              refine y_iadd_n h dX3_init_110 ?_
              refine y_bipush h (nI 9) dX3_init_111 (by decide) ?_
              refine y_isub_n h dX3_init_113 (by omega) ?_
              refine y_goto h 118 dX3_init_114 (by decide) ?_
              exact J118 _ (by unfold nb; rw [if_neg (by omega), if_neg (by decide), if_pos rfl, if_pos (by omega), show 81 + i - 9 = i + 81 - 9 by omega]; rfl)
          refine y_icmp_ge_n h 67 dX3_init_58 (by decide) (by omega) (by decide) (fun c1 => ?_) (fun c1 => ?_)
          · skip
            refine y_iconst h (-1) dX3_init_67 (by decide) ?_
            exact J68 _ (by unfold nb; rw [if_pos (by omega), if_neg (by decide), if_pos rfl, if_neg (by omega)]; rfl)
          · skip
            refine y_iload_n h 1 dX3_init_61 rfl rfl ?_
            refine y_iconst h (nI 1) dX3_init_62 (by decide) ?_
            refine y_iadd_n h dX3_init_63 ?_
            refine y_goto h 68 dX3_init_64 (by decide) ?_
            exact J68 _ (by unfold nb; rw [if_pos (by omega), if_neg (by decide), if_pos rfl, if_pos c1]; rfl)
        refine y_if_le_n h 43 dX3_init_34 (by decide) (by omega) (fun c1 => ?_) (fun c1 => ?_)
        · skip
          refine y_iconst h (-1) dX3_init_43 (by decide) ?_
          exact J44 _ (by unfold nb; rw [if_pos (by omega), if_pos rfl, if_neg (by omega)]; rfl)
        · skip
          refine y_iload_n h 1 dX3_init_37 rfl rfl ?_
          refine y_iconst h (nI 1) dX3_init_38 (by decide) ?_
          refine y_isub_n h dX3_init_39 (by omega) ?_
          refine y_goto h 44 dX3_init_40 (by decide) ?_
          exact J44 _ (by unfold nb; rw [if_pos (by omega), if_pos rfl, if_pos c1]; rfl)
  exact L15 82 0 (fun _ => 0) (by decide) (Nat.zero_le _) (fun p hp => absurd hp (Nat.not_lt_zero p))

set_option maxRecDepth 20000 in
theorem ggX5_init_X3_init : GoodIn wsX5_init wsX3_init := goodIn_r _ [23, 24, 2, 3, 16, 25, 26, 27, 28, 29, 30, 31, 32, 33, 60, 61, 62, 63, 64, 65, 66, 67, 68, 69, 70, 71, 72, 73, 74] (by decide +kernel) (by decide +kernel)
set_option maxRecDepth 20000 in
theorem gX5_init_X3_init : GoodIn wsX5_init (wsX3_init) := ggX5_init_X3_init
set_option maxRecDepth 20000 in
theorem ggX5_init_X4_init : GoodIn wsX5_init wsX4_init := goodIn_r _ [36, 37, 2, 3, 16, 38, 82, 83, 84, 85, 86] (by decide +kernel) (by decide +kernel)
set_option maxRecDepth 20000 in
theorem gX5_init_X4_init : GoodIn wsX5_init (wsX4_init) := ggX5_init_X4_init
set_option maxRecDepth 20000 in
theorem ggX5_init_X0_init : GoodIn wsX5_init wsX0_init := goodIn_r _ [41, 42, 2, 3, 16, 43, 44, 45, 46, 47, 48, 49, 50, 51, 52, 53, 54, 55, 56, 57, 58, 59, 87, 88, 89, 90, 91, 92, 93, 94, 95, 96, 97, 98, 99, 100, 101, 102, 103, 104, 105, 106, 107, 108, 109, 110] (by decide +kernel) (by decide +kernel)
set_option maxRecDepth 20000 in
theorem gX5_init_X0_init : GoodIn wsX5_init (wsX0_init) := ggX5_init_X0_init
theorem dX5_init_0 : decode cX5_init 0 = .ok (.aload_n 0, 1) := by decide +kernel
theorem dX5_init_1 : decode cX5_init 1 = .ok (.invokespecial 1, 3) := by decide +kernel
theorem dX5_init_4 : decode cX5_init 4 = .ok (.aload_n 0, 1) := by decide +kernel
theorem dX5_init_5 : decode cX5_init 5 = .ok (.new 7, 3) := by decide +kernel
theorem dX5_init_8 : decode cX5_init 8 = .ok (.dup, 1) := by decide +kernel
theorem dX5_init_9 : decode cX5_init 9 = .ok (.invokespecial 9, 3) := by decide +kernel
theorem dX5_init_12 : decode cX5_init 12 = .ok (.putfield 10, 3) := by decide +kernel
theorem dX5_init_15 : decode cX5_init 15 = .ok (.aload_n 0, 1) := by decide +kernel
theorem dX5_init_16 : decode cX5_init 16 = .ok (.new 16, 3) := by decide +kernel
theorem dX5_init_19 : decode cX5_init 19 = .ok (.dup, 1) := by decide +kernel
theorem dX5_init_20 : decode cX5_init 20 = .ok (.invokespecial 18, 3) := by decide +kernel
theorem dX5_init_23 : decode cX5_init 23 = .ok (.putfield 19, 3) := by decide +kernel
theorem dX5_init_26 : decode cX5_init 26 = .ok (.aload_n 0, 1) := by decide +kernel
theorem dX5_init_27 : decode cX5_init 27 = .ok (.iconst 4, 1) := by decide +kernel
theorem dX5_init_28 : decode cX5_init 28 = .ok (.anewarray 23, 3) := by decide +kernel
theorem dX5_init_31 : decode cX5_init 31 = .ok (.putfield 25, 3) := by decide +kernel
theorem dX5_init_34 : decode cX5_init 34 = .ok (.iconst 0, 1) := by decide +kernel
theorem dX5_init_35 : decode cX5_init 35 = .ok (.istore_n 1, 1) := by decide +kernel
theorem dX5_init_36 : decode cX5_init 36 = .ok (.iload_n 1, 1) := by decide +kernel
theorem dX5_init_37 : decode cX5_init 37 = .ok (.iconst 4, 1) := by decide +kernel
theorem dX5_init_38 : decode cX5_init 38 = .ok (.if_icmp .ge 22, 3) := by decide +kernel
theorem dX5_init_41 : decode cX5_init 41 = .ok (.aload_n 0, 1) := by decide +kernel
theorem dX5_init_42 : decode cX5_init 42 = .ok (.getfield 25, 3) := by decide +kernel
theorem dX5_init_45 : decode cX5_init 45 = .ok (.iload_n 1, 1) := by decide +kernel
theorem dX5_init_46 : decode cX5_init 46 = .ok (.new 23, 3) := by decide +kernel
theorem dX5_init_49 : decode cX5_init 49 = .ok (.dup, 1) := by decide +kernel
theorem dX5_init_50 : decode cX5_init 50 = .ok (.invokespecial 29, 3) := by decide +kernel
theorem dX5_init_53 : decode cX5_init 53 = .ok (.aastore, 1) := by decide +kernel
theorem dX5_init_54 : decode cX5_init 54 = .ok (.iinc 1 1, 3) := by decide +kernel
theorem dX5_init_57 : decode cX5_init 57 = .ok (.goto (-21), 3) := by decide +kernel
theorem dX5_init_60 : decode cX5_init 60 = .ok (.aload_n 0, 1) := by decide +kernel
theorem dX5_init_61 : decode cX5_init 61 = .ok (.iconst 3, 1) := by decide +kernel
theorem dX5_init_62 : decode cX5_init 62 = .ok (.newarray .int, 2) := by decide +kernel
theorem dX5_init_64 : decode cX5_init 64 = .ok (.putfield 30, 3) := by decide +kernel
theorem dX5_init_67 : decode cX5_init 67 = .ok (.aload_n 0, 1) := by decide +kernel
theorem dX5_init_68 : decode cX5_init 68 = .ok (.new 23, 3) := by decide +kernel
theorem dX5_init_71 : decode cX5_init 71 = .ok (.dup, 1) := by decide +kernel
theorem dX5_init_72 : decode cX5_init 72 = .ok (.invokespecial 29, 3) := by decide +kernel
theorem dX5_init_75 : decode cX5_init 75 = .ok (.putfield 34, 3) := by decide +kernel
theorem dX5_init_78 : decode cX5_init 78 = .ok (.aload_n 0, 1) := by decide +kernel
theorem dX5_init_79 : decode cX5_init 79 = .ok (.new 23, 3) := by decide +kernel
theorem dX5_init_82 : decode cX5_init 82 = .ok (.dup, 1) := by decide +kernel
theorem dX5_init_83 : decode cX5_init 83 = .ok (.invokespecial 29, 3) := by decide +kernel
theorem dX5_init_86 : decode cX5_init 86 = .ok (.putfield 38, 3) := by decide +kernel
theorem dX5_init_89 : decode cX5_init 89 = .ok (.aload_n 0, 1) := by decide +kernel
theorem dX5_init_90 : decode cX5_init 90 = .ok (.iconst 0, 1) := by decide +kernel
theorem dX5_init_91 : decode cX5_init 91 = .ok (.putfield 41, 3) := by decide +kernel
theorem dX5_init_94 : decode cX5_init 94 = .ok (.return_, 1) := by decide +kernel
abbrev rmX5_init : Room := { frames := 3, cells := 157, slots := 4665, locals := 64 }
set_option maxRecDepth 20000 in
theorem in_X5_init_X5 : ∀ w ∈ wsX50, w ∈ wsX5_init := by decide +kernel
set_option maxRecDepth 20000 in
theorem in_X5_init_X3 : ∀ w ∈ wsX30, w ∈ wsX5_init := by decide +kernel
set_option maxRecDepth 20000 in
theorem in_X5_init_X4 : ∀ w ∈ wsX40, w ∈ wsX5_init := by decide +kernel
set_option maxRecDepth 20000 in
theorem in_X5_init_X0 : ∀ w ∈ wsX00, w ∈ wsX5_init := by decide +kernel

def scT (cA : Nat → ClassId) (ad : Nat → Nat) : va_W := [(ad 1, .inl (cA 0, 60, .inl (fun _ => 0)))]

def W5' (D : va_G) (cA : Nat → ClassId) (r aR aS p0 p1 p2 p3 nw tr : Nat → Nat) : va_W := ([(r 0, .inr (5, [.ref (aR 0), .ref (aS 0), .ref (r 1), .ref (r 2), .ref (nw 0), .ref (tr 0), .int 0])), (aR 0, .inr (3, [.ref (aR 1), .ref (aR 2), .ref (aR 3), .ref (aR 4), .ref (aR 5), .ref (aR 6), .int 0, .int 0, .int 0, .ref (aR 7), .ref (aR 8), .int 0, .int 0, .int 0, .int 0])), (aS 0, .inr (4, [.ref (aS 1), .int 0, .int 0, .int 0, .int 0])), (r 1, .inl (cA 4, 4, .inr (.inr (.inr (.inr (fun i => if i = 0 then some (p0 0) else if i = 1 then some (p1 0) else if i = 2 then some (p2 0) else some (p3 0))))))), (p0 0, .inr (0, [.ref (p0 1), .ref (p0 2), .ref (p0 3), .ref (p0 4), .ref (p0 11), .int 0, .int 0, .int 0])), (p1 0, .inr (0, [.ref (p1 1), .ref (p1 2), .ref (p1 3), .ref (p1 4), .ref (p1 11), .int 0, .int 0, .int 0])), (p2 0, .inr (0, [.ref (p2 1), .ref (p2 2), .ref (p2 3), .ref (p2 4), .ref (p2 11), .int 0, .int 0, .int 0])), (p3 0, .inr (0, [.ref (p3 1), .ref (p3 2), .ref (p3 3), .ref (p3 4), .ref (p3 11), .int 0, .int 0, .int 0])), (r 2, .inl (cA 0, 3, .inl (fun _ => 0))), (nw 0, .inr (0, [.ref (nw 1), .ref (nw 2), .ref (nw 3), .ref (nw 4), .ref (nw 11), .int 0, .int 0, .int 0])), (tr 0, .inr (0, [.ref (tr 1), .ref (tr 2), .ref (tr 3), .ref (tr 4), .ref (tr 11), .int 0, .int 0, .int 0]))] ++ (chT D cA tr ++ (chT D cA nw ++ (chT D cA p3 ++ (chT D cA p2 ++ (chT D cA p1 ++ (chT D cA p0 ++ (scT cA aS ++ (rtT cA aR ++ [])))))))))

def W5 (D : va_G) (cA : Nat → ClassId) (ad : Nat → Nat) : va_W := W5' D cA (fun o => ad (16 * o)) (fun o => ad (16 * o + 1)) (fun o => ad (16 * o + 2)) (fun o => ad (16 * o + 3)) (fun o => ad (16 * o + 4)) (fun o => ad (16 * o + 5)) (fun o => ad (16 * o + 6)) (fun o => ad (16 * o + 7)) (fun o => ad (16 * o + 8))

set_option maxRecDepth 100000 in
set_option maxHeartbeats 4000000 in
theorem c_X5_init {l : Launch} {D : va_G} {cA : Nat → ClassId} {h0 sz : Nat} : Met l yX5_init wsX5_init rmX5_init (iPre D cA h0 (.inr (5, [.null, .null, .null, .null, .null, .null, .int 0])) sz) (iPost D h0 (.inr (5, [.null, .null, .null, .null, .null, .null, .int 0])) sz (fun ad => W5 D cA ad)) 157 4665 (va_A [(h0, .inr (5, [.null, .null, .null, .null, .null, .null, .int 0]))] sz) := by
  refine met_ini (cc := cX5_init) (maxL := 2) (by decide) rfl rfl (by decide) (fun x hx h hin hret => ?_)
  replace h : Yk x D cA cX5_init 2 wsX5_init RX5 rmX5_init := h
  refine y_to (([(h0, .inr (5, [.null, .null, .null, .null, .null, .null, .int 0]))] ++ (([] : va_W)))) rfl ?_
  refine y_aload_n h 0 dX5_init_0 rfl rfl ?_
  refine y_objInit h (by decide +kernel) (by decide +kernel) (List.mem_of_getElem? (i := 3) rfl) (by decide) (by decide) dX5_init_1 ?_
  refine y_aload_n h 0 dX5_init_4 rfl rfl ?_
  refine y_new h 3 [.null, .null, .null, .null, .null, .null, .int 0, .int 0, .int 0, .null, .null, .int 0, .int 0, .int 0, .int 0] in_X5_init_X3 tyX3_ok (by decide +kernel) (by decide +kernel) (by decide +kernel) rfl (by decide +kernel) (Nat.le_of_ble_eq_true rfl) (Nat.le_of_ble_eq_true rfl) dX5_init_5 (fun q1 => ?_)
  refine y_dup h dX5_init_8 rfl ?_
  refine y_initB h [(h0, .inr (5, [.null, .null, .null, .null, .null, .null, .int 0]))] (([] : va_W)) hx (fun sz => c_X3_init) (gX5_init_X3_init) rfl ⟨rfl, rfl⟩ (by decide +kernel) (by decide +kernel) (by decide +kernel) rfl (by decide +kernel) (by decide) (Nat.le_of_ble_eq_true rfl) (Nat.le_of_ble_eq_true rfl) (Nat.le_of_ble_eq_true rfl) dX5_init_9 (fun a1 ha1 => ?_)
  subst ha1
  refine y_to (([(h0, .inr (5, [.null, .null, .null, .null, .null, .null, .int 0])), ((a1 0), .inr (3, [.ref (a1 1), .ref (a1 2), .ref (a1 3), .ref (a1 4), .ref (a1 5), .ref (a1 6), .int 0, .int 0, .int 0, .ref (a1 7), .ref (a1 8), .int 0, .int 0, .int 0, .int 0]))] ++ (rtT cA a1 ++ (([] : va_W))))) rfl ?_
  refine y_put h 0 5 rfl rfl in_X5_init_X5 tyX5_ok nmX5 0 (by decide) (by decide +kernel) (Or.inr ⟨rfl, hin, rfl⟩) rfl rfl (Nat.le_of_ble_eq_true rfl) dX5_init_12 ?_
  refine y_to (([(h0, .inr (5, [.ref ((a1 0)), .null, .null, .null, .null, .null, .int 0])), ((a1 0), .inr (3, [.ref (a1 1), .ref (a1 2), .ref (a1 3), .ref (a1 4), .ref (a1 5), .ref (a1 6), .int 0, .int 0, .int 0, .ref (a1 7), .ref (a1 8), .int 0, .int 0, .int 0, .int 0]))] ++ (rtT cA a1 ++ (([] : va_W))))) rfl ?_
  refine y_aload_n h 0 dX5_init_15 rfl rfl ?_
  refine y_new h 4 [.null, .int 0, .int 0, .int 0, .int 0] in_X5_init_X4 tyX4_ok (by decide +kernel) (by decide +kernel) (by decide +kernel) rfl (by decide +kernel) (Nat.le_of_ble_eq_true rfl) (Nat.le_of_ble_eq_true rfl) dX5_init_16 (fun q2 => ?_)
  refine y_dup h dX5_init_19 rfl ?_
  refine y_initB h [(h0, .inr (5, [.ref ((a1 0)), .null, .null, .null, .null, .null, .int 0])), ((a1 0), .inr (3, [.ref (a1 1), .ref (a1 2), .ref (a1 3), .ref (a1 4), .ref (a1 5), .ref (a1 6), .int 0, .int 0, .int 0, .ref (a1 7), .ref (a1 8), .int 0, .int 0, .int 0, .int 0]))] (rtT cA a1 ++ (([] : va_W))) hx (fun sz => c_X4_init) (gX5_init_X4_init) rfl ⟨rfl, rfl⟩ (by decide +kernel) (by decide +kernel) (by decide +kernel) rfl (by decide +kernel) (by decide) (Nat.le_of_ble_eq_true rfl) (Nat.le_of_ble_eq_true rfl) (Nat.le_of_ble_eq_true rfl) dX5_init_20 (fun a2 ha2 => ?_)
  subst ha2
  refine y_to (([(h0, .inr (5, [.ref ((a1 0)), .null, .null, .null, .null, .null, .int 0])), ((a1 0), .inr (3, [.ref (a1 1), .ref (a1 2), .ref (a1 3), .ref (a1 4), .ref (a1 5), .ref (a1 6), .int 0, .int 0, .int 0, .ref (a1 7), .ref (a1 8), .int 0, .int 0, .int 0, .int 0])), ((a2 0), .inr (4, [.ref (a2 1), .int 0, .int 0, .int 0, .int 0]))] ++ (scT cA a2 ++ (rtT cA a1 ++ (([] : va_W)))))) rfl ?_
  refine y_put h 0 5 rfl rfl in_X5_init_X5 tyX5_ok nmX5 1 (by decide) (by decide +kernel) (Or.inr ⟨rfl, hin, rfl⟩) rfl rfl (Nat.le_of_ble_eq_true rfl) dX5_init_23 ?_
  refine y_to (([(h0, .inr (5, [.ref ((a1 0)), .ref ((a2 0)), .null, .null, .null, .null, .int 0])), ((a1 0), .inr (3, [.ref (a1 1), .ref (a1 2), .ref (a1 3), .ref (a1 4), .ref (a1 5), .ref (a1 6), .int 0, .int 0, .int 0, .ref (a1 7), .ref (a1 8), .int 0, .int 0, .int 0, .int 0])), ((a2 0), .inr (4, [.ref (a2 1), .int 0, .int 0, .int 0, .int 0]))] ++ (scT cA a2 ++ (rtT cA a1 ++ (([] : va_W)))))) rfl ?_
  refine y_aload_n h 0 dX5_init_26 rfl rfl ?_
  refine y_iconst h (nI 4) dX5_init_27 (by decide) ?_
  refine y_newq h 4 4 rfl (by decide) rfl (by decide +kernel) h.2.1.1.2.1.2.2 (Nat.le_of_ble_eq_true rfl) (Nat.le_of_ble_eq_true rfl) dX5_init_28 (fun q3 => ?_)
  refine y_pm (pm_new (q3, .inl (cA 4, 4, .inr (.inr (.inr (.inr (fun _ => none)))))) [(h0, .inr (5, [.ref ((a1 0)), .ref ((a2 0)), .null, .null, .null, .null, .int 0])), ((a1 0), .inr (3, [.ref (a1 1), .ref (a1 2), .ref (a1 3), .ref (a1 4), .ref (a1 5), .ref (a1 6), .int 0, .int 0, .int 0, .ref (a1 7), .ref (a1 8), .int 0, .int 0, .int 0, .int 0])), ((a2 0), .inr (4, [.ref (a2 1), .int 0, .int 0, .int 0, .int 0]))] (scT cA a2 ++ (rtT cA a1 ++ (([] : va_W))))) ?_
  refine y_to (([(h0, .inr (5, [.ref ((a1 0)), .ref ((a2 0)), .null, .null, .null, .null, .int 0])), ((a1 0), .inr (3, [.ref (a1 1), .ref (a1 2), .ref (a1 3), .ref (a1 4), .ref (a1 5), .ref (a1 6), .int 0, .int 0, .int 0, .ref (a1 7), .ref (a1 8), .int 0, .int 0, .int 0, .int 0])), ((a2 0), .inr (4, [.ref (a2 1), .int 0, .int 0, .int 0, .int 0])), (q3, .inl (cA 4, 4, .inr (.inr (.inr (.inr (fun _ => none))))))] ++ (scT cA a2 ++ (rtT cA a1 ++ (([] : va_W)))))) rfl ?_
  refine y_put h 0 5 rfl rfl in_X5_init_X5 tyX5_ok nmX5 2 (by decide) (by decide +kernel) (Or.inr ⟨rfl, hin, rfl⟩) rfl rfl (Nat.le_of_ble_eq_true rfl) dX5_init_31 ?_
  refine y_to (([(h0, .inr (5, [.ref ((a1 0)), .ref ((a2 0)), .ref q3, .null, .null, .null, .int 0])), ((a1 0), .inr (3, [.ref (a1 1), .ref (a1 2), .ref (a1 3), .ref (a1 4), .ref (a1 5), .ref (a1 6), .int 0, .int 0, .int 0, .ref (a1 7), .ref (a1 8), .int 0, .int 0, .int 0, .int 0])), ((a2 0), .inr (4, [.ref (a2 1), .int 0, .int 0, .int 0, .int 0])), (q3, .inl (cA 4, 4, .inr (.inr (.inr (.inr (fun _ => none))))))] ++ (scT cA a2 ++ (rtT cA a1 ++ (([] : va_W)))))) rfl ?_
  refine y_iconst h (nI 0) dX5_init_34 (by decide) ?_
  refine y_istore_n h [(1, .int (nI 0)), (0, .ref h0)] dX5_init_35 rfl (by decide) rfl ?_
  refine y_iload_n h 0 dX5_init_36 rfl rfl ?_
  refine y_iconst h (nI 4) dX5_init_37 (by decide) ?_
  refine y_icmp_ge_n h 60 dX5_init_38 (by decide) (by decide) (by decide) (fun c => absurd c (by decide)) (fun _ => ?_)
  refine y_aload_n h 1 dX5_init_41 rfl rfl ?_
  refine y_get h 0 5 rfl rfl in_X5_init_X5 2 (by decide) (by decide +kernel) rfl dX5_init_42 ?_
  refine y_iload_n h 0 dX5_init_45 rfl rfl ?_
  refine y_new h 0 [.null, .null, .null, .null, .null, .int 0, .int 0, .int 0] in_X5_init_X0 tyX0_ok (by decide +kernel) (by decide +kernel) (by decide +kernel) rfl (by decide +kernel) (Nat.le_of_ble_eq_true rfl) (Nat.le_of_ble_eq_true rfl) dX5_init_46 (fun q4 => ?_)
  refine y_dup h dX5_init_49 rfl ?_
  refine y_initB h [(h0, .inr (5, [.ref ((a1 0)), .ref ((a2 0)), .ref q3, .null, .null, .null, .int 0])), ((a1 0), .inr (3, [.ref (a1 1), .ref (a1 2), .ref (a1 3), .ref (a1 4), .ref (a1 5), .ref (a1 6), .int 0, .int 0, .int 0, .ref (a1 7), .ref (a1 8), .int 0, .int 0, .int 0, .int 0])), ((a2 0), .inr (4, [.ref (a2 1), .int 0, .int 0, .int 0, .int 0])), (q3, .inl (cA 4, 4, .inr (.inr (.inr (.inr (fun _ => none))))))] (scT cA a2 ++ (rtT cA a1 ++ (([] : va_W)))) hx (fun sz => c_X0_init) (gX5_init_X0_init) rfl ⟨rfl, rfl⟩ (by decide +kernel) (by decide +kernel) (by decide +kernel) rfl (by decide +kernel) (by decide) (Nat.le_of_ble_eq_true rfl) (Nat.le_of_ble_eq_true rfl) (Nat.le_of_ble_eq_true rfl) dX5_init_50 (fun a4 ha4 => ?_)
  subst ha4
  refine y_to (([(h0, .inr (5, [.ref ((a1 0)), .ref ((a2 0)), .ref q3, .null, .null, .null, .int 0])), ((a1 0), .inr (3, [.ref (a1 1), .ref (a1 2), .ref (a1 3), .ref (a1 4), .ref (a1 5), .ref (a1 6), .int 0, .int 0, .int 0, .ref (a1 7), .ref (a1 8), .int 0, .int 0, .int 0, .int 0])), ((a2 0), .inr (4, [.ref (a2 1), .int 0, .int 0, .int 0, .int 0])), (q3, .inl (cA 4, 4, .inr (.inr (.inr (.inr (fun _ => none)))))), ((a4 0), .inr (0, [.ref (a4 1), .ref (a4 2), .ref (a4 3), .ref (a4 4), .ref (a4 11), .int 0, .int 0, .int 0]))] ++ (chT D cA a4 ++ (scT cA a2 ++ (rtT cA a1 ++ (([] : va_W))))))) rfl ?_
  refine y_aast h 3 4 4 0 rfl rfl rfl rfl 0 (by decide) (by decide) dX5_init_53 ?_
  refine y_to (([(h0, .inr (5, [.ref ((a1 0)), .ref ((a2 0)), .ref q3, .null, .null, .null, .int 0])), ((a1 0), .inr (3, [.ref (a1 1), .ref (a1 2), .ref (a1 3), .ref (a1 4), .ref (a1 5), .ref (a1 6), .int 0, .int 0, .int 0, .ref (a1 7), .ref (a1 8), .int 0, .int 0, .int 0, .int 0])), ((a2 0), .inr (4, [.ref (a2 1), .int 0, .int 0, .int 0, .int 0])), (q3, .inl (cA 4, 4, .inr (.inr (.inr (.inr (va_up (fun _ => none) 0 (some (a4 0)))))))), ((a4 0), .inr (0, [.ref (a4 1), .ref (a4 2), .ref (a4 3), .ref (a4 4), .ref (a4 11), .int 0, .int 0, .int 0]))] ++ (chT D cA a4 ++ (scT cA a2 ++ (rtT cA a1 ++ (([] : va_W))))))) rfl ?_
  refine y_iinc h 0 (v := nI 1) [(1, .int (nI 1)), (0, .ref h0)] dX5_init_54 rfl (by decide) (by decide) rfl ?_
  refine y_goto h 36 dX5_init_57 (by decide) ?_
  refine y_iload_n h 0 dX5_init_36 rfl rfl ?_
  refine y_iconst h (nI 4) dX5_init_37 (by decide) ?_
  refine y_icmp_ge_n h 60 dX5_init_38 (by decide) (by decide) (by decide) (fun c => absurd c (by decide)) (fun _ => ?_)
  refine y_aload_n h 1 dX5_init_41 rfl rfl ?_
  refine y_get h 0 5 rfl rfl in_X5_init_X5 2 (by decide) (by decide +kernel) rfl dX5_init_42 ?_
  refine y_iload_n h 0 dX5_init_45 rfl rfl ?_
  refine y_new h 0 [.null, .null, .null, .null, .null, .int 0, .int 0, .int 0] in_X5_init_X0 tyX0_ok (by decide +kernel) (by decide +kernel) (by decide +kernel) rfl (by decide +kernel) (Nat.le_of_ble_eq_true rfl) (Nat.le_of_ble_eq_true rfl) dX5_init_46 (fun q5 => ?_)
  refine y_dup h dX5_init_49 rfl ?_
  refine y_initB h [(h0, .inr (5, [.ref ((a1 0)), .ref ((a2 0)), .ref q3, .null, .null, .null, .int 0])), ((a1 0), .inr (3, [.ref (a1 1), .ref (a1 2), .ref (a1 3), .ref (a1 4), .ref (a1 5), .ref (a1 6), .int 0, .int 0, .int 0, .ref (a1 7), .ref (a1 8), .int 0, .int 0, .int 0, .int 0])), ((a2 0), .inr (4, [.ref (a2 1), .int 0, .int 0, .int 0, .int 0])), (q3, .inl (cA 4, 4, .inr (.inr (.inr (.inr (va_up (fun _ => none) 0 (some (a4 0)))))))), ((a4 0), .inr (0, [.ref (a4 1), .ref (a4 2), .ref (a4 3), .ref (a4 4), .ref (a4 11), .int 0, .int 0, .int 0]))] (chT D cA a4 ++ (scT cA a2 ++ (rtT cA a1 ++ (([] : va_W))))) hx (fun sz => c_X0_init) (gX5_init_X0_init) rfl ⟨rfl, rfl⟩ (by decide +kernel) (by decide +kernel) (by decide +kernel) rfl (by decide +kernel) (by decide) (Nat.le_of_ble_eq_true rfl) (Nat.le_of_ble_eq_true rfl) (Nat.le_of_ble_eq_true rfl) dX5_init_50 (fun a5 ha5 => ?_)
  subst ha5
  refine y_to (([(h0, .inr (5, [.ref ((a1 0)), .ref ((a2 0)), .ref q3, .null, .null, .null, .int 0])), ((a1 0), .inr (3, [.ref (a1 1), .ref (a1 2), .ref (a1 3), .ref (a1 4), .ref (a1 5), .ref (a1 6), .int 0, .int 0, .int 0, .ref (a1 7), .ref (a1 8), .int 0, .int 0, .int 0, .int 0])), ((a2 0), .inr (4, [.ref (a2 1), .int 0, .int 0, .int 0, .int 0])), (q3, .inl (cA 4, 4, .inr (.inr (.inr (.inr (va_up (fun _ => none) 0 (some (a4 0)))))))), ((a4 0), .inr (0, [.ref (a4 1), .ref (a4 2), .ref (a4 3), .ref (a4 4), .ref (a4 11), .int 0, .int 0, .int 0])), ((a5 0), .inr (0, [.ref (a5 1), .ref (a5 2), .ref (a5 3), .ref (a5 4), .ref (a5 11), .int 0, .int 0, .int 0]))] ++ (chT D cA a5 ++ (chT D cA a4 ++ (scT cA a2 ++ (rtT cA a1 ++ (([] : va_W)))))))) rfl ?_
  refine y_aast h 3 4 5 0 rfl rfl rfl rfl 1 (by decide) (by decide) dX5_init_53 ?_
  refine y_to (([(h0, .inr (5, [.ref ((a1 0)), .ref ((a2 0)), .ref q3, .null, .null, .null, .int 0])), ((a1 0), .inr (3, [.ref (a1 1), .ref (a1 2), .ref (a1 3), .ref (a1 4), .ref (a1 5), .ref (a1 6), .int 0, .int 0, .int 0, .ref (a1 7), .ref (a1 8), .int 0, .int 0, .int 0, .int 0])), ((a2 0), .inr (4, [.ref (a2 1), .int 0, .int 0, .int 0, .int 0])), (q3, .inl (cA 4, 4, .inr (.inr (.inr (.inr (va_up (va_up (fun _ => none) 0 (some (a4 0))) 1 (some (a5 0)))))))), ((a4 0), .inr (0, [.ref (a4 1), .ref (a4 2), .ref (a4 3), .ref (a4 4), .ref (a4 11), .int 0, .int 0, .int 0])), ((a5 0), .inr (0, [.ref (a5 1), .ref (a5 2), .ref (a5 3), .ref (a5 4), .ref (a5 11), .int 0, .int 0, .int 0]))] ++ (chT D cA a5 ++ (chT D cA a4 ++ (scT cA a2 ++ (rtT cA a1 ++ (([] : va_W)))))))) rfl ?_
  refine y_iinc h 0 (v := nI 2) [(1, .int (nI 2)), (0, .ref h0)] dX5_init_54 rfl (by decide) (by decide) rfl ?_
  refine y_goto h 36 dX5_init_57 (by decide) ?_
  refine y_iload_n h 0 dX5_init_36 rfl rfl ?_
  refine y_iconst h (nI 4) dX5_init_37 (by decide) ?_
  refine y_icmp_ge_n h 60 dX5_init_38 (by decide) (by decide) (by decide) (fun c => absurd c (by decide)) (fun _ => ?_)
  refine y_aload_n h 1 dX5_init_41 rfl rfl ?_
  refine y_get h 0 5 rfl rfl in_X5_init_X5 2 (by decide) (by decide +kernel) rfl dX5_init_42 ?_
  refine y_iload_n h 0 dX5_init_45 rfl rfl ?_
  refine y_new h 0 [.null, .null, .null, .null, .null, .int 0, .int 0, .int 0] in_X5_init_X0 tyX0_ok (by decide +kernel) (by decide +kernel) (by decide +kernel) rfl (by decide +kernel) (Nat.le_of_ble_eq_true rfl) (Nat.le_of_ble_eq_true rfl) dX5_init_46 (fun q6 => ?_)
  refine y_dup h dX5_init_49 rfl ?_
  refine y_initB h [(h0, .inr (5, [.ref ((a1 0)), .ref ((a2 0)), .ref q3, .null, .null, .null, .int 0])), ((a1 0), .inr (3, [.ref (a1 1), .ref (a1 2), .ref (a1 3), .ref (a1 4), .ref (a1 5), .ref (a1 6), .int 0, .int 0, .int 0, .ref (a1 7), .ref (a1 8), .int 0, .int 0, .int 0, .int 0])), ((a2 0), .inr (4, [.ref (a2 1), .int 0, .int 0, .int 0, .int 0])), (q3, .inl (cA 4, 4, .inr (.inr (.inr (.inr (va_up (va_up (fun _ => none) 0 (some (a4 0))) 1 (some (a5 0)))))))), ((a4 0), .inr (0, [.ref (a4 1), .ref (a4 2), .ref (a4 3), .ref (a4 4), .ref (a4 11), .int 0, .int 0, .int 0])), ((a5 0), .inr (0, [.ref (a5 1), .ref (a5 2), .ref (a5 3), .ref (a5 4), .ref (a5 11), .int 0, .int 0, .int 0]))] (chT D cA a5 ++ (chT D cA a4 ++ (scT cA a2 ++ (rtT cA a1 ++ (([] : va_W)))))) hx (fun sz => c_X0_init) (gX5_init_X0_init) rfl ⟨rfl, rfl⟩ (by decide +kernel) (by decide +kernel) (by decide +kernel) rfl (by decide +kernel) (by decide) (Nat.le_of_ble_eq_true rfl) (Nat.le_of_ble_eq_true rfl) (Nat.le_of_ble_eq_true rfl) dX5_init_50 (fun a6 ha6 => ?_)
  subst ha6
  refine y_to (([(h0, .inr (5, [.ref ((a1 0)), .ref ((a2 0)), .ref q3, .null, .null, .null, .int 0])), ((a1 0), .inr (3, [.ref (a1 1), .ref (a1 2), .ref (a1 3), .ref (a1 4), .ref (a1 5), .ref (a1 6), .int 0, .int 0, .int 0, .ref (a1 7), .ref (a1 8), .int 0, .int 0, .int 0, .int 0])), ((a2 0), .inr (4, [.ref (a2 1), .int 0, .int 0, .int 0, .int 0])), (q3, .inl (cA 4, 4, .inr (.inr (.inr (.inr (va_up (va_up (fun _ => none) 0 (some (a4 0))) 1 (some (a5 0)))))))), ((a4 0), .inr (0, [.ref (a4 1), .ref (a4 2), .ref (a4 3), .ref (a4 4), .ref (a4 11), .int 0, .int 0, .int 0])), ((a5 0), .inr (0, [.ref (a5 1), .ref (a5 2), .ref (a5 3), .ref (a5 4), .ref (a5 11), .int 0, .int 0, .int 0])), ((a6 0), .inr (0, [.ref (a6 1), .ref (a6 2), .ref (a6 3), .ref (a6 4), .ref (a6 11), .int 0, .int 0, .int 0]))] ++ (chT D cA a6 ++ (chT D cA a5 ++ (chT D cA a4 ++ (scT cA a2 ++ (rtT cA a1 ++ (([] : va_W))))))))) rfl ?_
  refine y_aast h 3 4 6 0 rfl rfl rfl rfl 2 (by decide) (by decide) dX5_init_53 ?_
  refine y_to (([(h0, .inr (5, [.ref ((a1 0)), .ref ((a2 0)), .ref q3, .null, .null, .null, .int 0])), ((a1 0), .inr (3, [.ref (a1 1), .ref (a1 2), .ref (a1 3), .ref (a1 4), .ref (a1 5), .ref (a1 6), .int 0, .int 0, .int 0, .ref (a1 7), .ref (a1 8), .int 0, .int 0, .int 0, .int 0])), ((a2 0), .inr (4, [.ref (a2 1), .int 0, .int 0, .int 0, .int 0])), (q3, .inl (cA 4, 4, .inr (.inr (.inr (.inr (va_up (va_up (va_up (fun _ => none) 0 (some (a4 0))) 1 (some (a5 0))) 2 (some (a6 0)))))))), ((a4 0), .inr (0, [.ref (a4 1), .ref (a4 2), .ref (a4 3), .ref (a4 4), .ref (a4 11), .int 0, .int 0, .int 0])), ((a5 0), .inr (0, [.ref (a5 1), .ref (a5 2), .ref (a5 3), .ref (a5 4), .ref (a5 11), .int 0, .int 0, .int 0])), ((a6 0), .inr (0, [.ref (a6 1), .ref (a6 2), .ref (a6 3), .ref (a6 4), .ref (a6 11), .int 0, .int 0, .int 0]))] ++ (chT D cA a6 ++ (chT D cA a5 ++ (chT D cA a4 ++ (scT cA a2 ++ (rtT cA a1 ++ (([] : va_W))))))))) rfl ?_
  refine y_iinc h 0 (v := nI 3) [(1, .int (nI 3)), (0, .ref h0)] dX5_init_54 rfl (by decide) (by decide) rfl ?_
  refine y_goto h 36 dX5_init_57 (by decide) ?_
  refine y_iload_n h 0 dX5_init_36 rfl rfl ?_
  refine y_iconst h (nI 4) dX5_init_37 (by decide) ?_
  refine y_icmp_ge_n h 60 dX5_init_38 (by decide) (by decide) (by decide) (fun c => absurd c (by decide)) (fun _ => ?_)
  refine y_aload_n h 1 dX5_init_41 rfl rfl ?_
  refine y_get h 0 5 rfl rfl in_X5_init_X5 2 (by decide) (by decide +kernel) rfl dX5_init_42 ?_
  refine y_iload_n h 0 dX5_init_45 rfl rfl ?_
  refine y_new h 0 [.null, .null, .null, .null, .null, .int 0, .int 0, .int 0] in_X5_init_X0 tyX0_ok (by decide +kernel) (by decide +kernel) (by decide +kernel) rfl (by decide +kernel) (Nat.le_of_ble_eq_true rfl) (Nat.le_of_ble_eq_true rfl) dX5_init_46 (fun q7 => ?_)
  refine y_dup h dX5_init_49 rfl ?_
  refine y_initB h [(h0, .inr (5, [.ref ((a1 0)), .ref ((a2 0)), .ref q3, .null, .null, .null, .int 0])), ((a1 0), .inr (3, [.ref (a1 1), .ref (a1 2), .ref (a1 3), .ref (a1 4), .ref (a1 5), .ref (a1 6), .int 0, .int 0, .int 0, .ref (a1 7), .ref (a1 8), .int 0, .int 0, .int 0, .int 0])), ((a2 0), .inr (4, [.ref (a2 1), .int 0, .int 0, .int 0, .int 0])), (q3, .inl (cA 4, 4, .inr (.inr (.inr (.inr (va_up (va_up (va_up (fun _ => none) 0 (some (a4 0))) 1 (some (a5 0))) 2 (some (a6 0)))))))), ((a4 0), .inr (0, [.ref (a4 1), .ref (a4 2), .ref (a4 3), .ref (a4 4), .ref (a4 11), .int 0, .int 0, .int 0])), ((a5 0), .inr (0, [.ref (a5 1), .ref (a5 2), .ref (a5 3), .ref (a5 4), .ref (a5 11), .int 0, .int 0, .int 0])), ((a6 0), .inr (0, [.ref (a6 1), .ref (a6 2), .ref (a6 3), .ref (a6 4), .ref (a6 11), .int 0, .int 0, .int 0]))] (chT D cA a6 ++ (chT D cA a5 ++ (chT D cA a4 ++ (scT cA a2 ++ (rtT cA a1 ++ (([] : va_W))))))) hx (fun sz => c_X0_init) (gX5_init_X0_init) rfl ⟨rfl, rfl⟩ (by decide +kernel) (by decide +kernel) (by decide +kernel) rfl (by decide +kernel) (by decide) (Nat.le_of_ble_eq_true rfl) (Nat.le_of_ble_eq_true rfl) (Nat.le_of_ble_eq_true rfl) dX5_init_50 (fun a7 ha7 => ?_)
  subst ha7
  refine y_to (([(h0, .inr (5, [.ref ((a1 0)), .ref ((a2 0)), .ref q3, .null, .null, .null, .int 0])), ((a1 0), .inr (3, [.ref (a1 1), .ref (a1 2), .ref (a1 3), .ref (a1 4), .ref (a1 5), .ref (a1 6), .int 0, .int 0, .int 0, .ref (a1 7), .ref (a1 8), .int 0, .int 0, .int 0, .int 0])), ((a2 0), .inr (4, [.ref (a2 1), .int 0, .int 0, .int 0, .int 0])), (q3, .inl (cA 4, 4, .inr (.inr (.inr (.inr (va_up (va_up (va_up (fun _ => none) 0 (some (a4 0))) 1 (some (a5 0))) 2 (some (a6 0)))))))), ((a4 0), .inr (0, [.ref (a4 1), .ref (a4 2), .ref (a4 3), .ref (a4 4), .ref (a4 11), .int 0, .int 0, .int 0])), ((a5 0), .inr (0, [.ref (a5 1), .ref (a5 2), .ref (a5 3), .ref (a5 4), .ref (a5 11), .int 0, .int 0, .int 0])), ((a6 0), .inr (0, [.ref (a6 1), .ref (a6 2), .ref (a6 3), .ref (a6 4), .ref (a6 11), .int 0, .int 0, .int 0])), ((a7 0), .inr (0, [.ref (a7 1), .ref (a7 2), .ref (a7 3), .ref (a7 4), .ref (a7 11), .int 0, .int 0, .int 0]))] ++ (chT D cA a7 ++ (chT D cA a6 ++ (chT D cA a5 ++ (chT D cA a4 ++ (scT cA a2 ++ (rtT cA a1 ++ (([] : va_W)))))))))) rfl ?_
  refine y_aast h 3 4 7 0 rfl rfl rfl rfl 3 (by decide) (by decide) dX5_init_53 ?_
  refine y_to (([(h0, .inr (5, [.ref ((a1 0)), .ref ((a2 0)), .ref q3, .null, .null, .null, .int 0])), ((a1 0), .inr (3, [.ref (a1 1), .ref (a1 2), .ref (a1 3), .ref (a1 4), .ref (a1 5), .ref (a1 6), .int 0, .int 0, .int 0, .ref (a1 7), .ref (a1 8), .int 0, .int 0, .int 0, .int 0])), ((a2 0), .inr (4, [.ref (a2 1), .int 0, .int 0, .int 0, .int 0])), (q3, .inl (cA 4, 4, .inr (.inr (.inr (.inr (va_up (va_up (va_up (va_up (fun _ => none) 0 (some (a4 0))) 1 (some (a5 0))) 2 (some (a6 0))) 3 (some (a7 0)))))))), ((a4 0), .inr (0, [.ref (a4 1), .ref (a4 2), .ref (a4 3), .ref (a4 4), .ref (a4 11), .int 0, .int 0, .int 0])), ((a5 0), .inr (0, [.ref (a5 1), .ref (a5 2), .ref (a5 3), .ref (a5 4), .ref (a5 11), .int 0, .int 0, .int 0])), ((a6 0), .inr (0, [.ref (a6 1), .ref (a6 2), .ref (a6 3), .ref (a6 4), .ref (a6 11), .int 0, .int 0, .int 0])), ((a7 0), .inr (0, [.ref (a7 1), .ref (a7 2), .ref (a7 3), .ref (a7 4), .ref (a7 11), .int 0, .int 0, .int 0]))] ++ (chT D cA a7 ++ (chT D cA a6 ++ (chT D cA a5 ++ (chT D cA a4 ++ (scT cA a2 ++ (rtT cA a1 ++ (([] : va_W)))))))))) rfl ?_
  refine y_iinc h 0 (v := nI 4) [(1, .int (nI 4)), (0, .ref h0)] dX5_init_54 rfl (by decide) (by decide) rfl ?_
  refine y_goto h 36 dX5_init_57 (by decide) ?_
  refine y_iload_n h 0 dX5_init_36 rfl rfl ?_
  refine y_iconst h (nI 4) dX5_init_37 (by decide) ?_
  refine y_icmp_ge_n h 60 dX5_init_38 (by decide) (by decide) (by decide) (fun _ => ?_) (fun c => absurd c (by decide))
  refine y_aload_n h 1 dX5_init_60 rfl rfl ?_
  refine y_iconst h (nI 3) dX5_init_61 (by decide) ?_
  refine y_newi h 3 rfl (by decide) (by decide +kernel) (Nat.le_of_ble_eq_true rfl) (Nat.le_of_ble_eq_true rfl) dX5_init_62 (fun q8 => ?_)
  refine y_pm (pm_new (q8, .inl (cA 0, 3, .inl (fun _ => 0))) [(h0, .inr (5, [.ref ((a1 0)), .ref ((a2 0)), .ref q3, .null, .null, .null, .int 0])), ((a1 0), .inr (3, [.ref (a1 1), .ref (a1 2), .ref (a1 3), .ref (a1 4), .ref (a1 5), .ref (a1 6), .int 0, .int 0, .int 0, .ref (a1 7), .ref (a1 8), .int 0, .int 0, .int 0, .int 0])), ((a2 0), .inr (4, [.ref (a2 1), .int 0, .int 0, .int 0, .int 0])), (q3, .inl (cA 4, 4, .inr (.inr (.inr (.inr (va_up (va_up (va_up (va_up (fun _ => none) 0 (some (a4 0))) 1 (some (a5 0))) 2 (some (a6 0))) 3 (some (a7 0)))))))), ((a4 0), .inr (0, [.ref (a4 1), .ref (a4 2), .ref (a4 3), .ref (a4 4), .ref (a4 11), .int 0, .int 0, .int 0])), ((a5 0), .inr (0, [.ref (a5 1), .ref (a5 2), .ref (a5 3), .ref (a5 4), .ref (a5 11), .int 0, .int 0, .int 0])), ((a6 0), .inr (0, [.ref (a6 1), .ref (a6 2), .ref (a6 3), .ref (a6 4), .ref (a6 11), .int 0, .int 0, .int 0])), ((a7 0), .inr (0, [.ref (a7 1), .ref (a7 2), .ref (a7 3), .ref (a7 4), .ref (a7 11), .int 0, .int 0, .int 0]))] (chT D cA a7 ++ (chT D cA a6 ++ (chT D cA a5 ++ (chT D cA a4 ++ (scT cA a2 ++ (rtT cA a1 ++ (([] : va_W))))))))) ?_
  refine y_to (([(h0, .inr (5, [.ref ((a1 0)), .ref ((a2 0)), .ref q3, .null, .null, .null, .int 0])), ((a1 0), .inr (3, [.ref (a1 1), .ref (a1 2), .ref (a1 3), .ref (a1 4), .ref (a1 5), .ref (a1 6), .int 0, .int 0, .int 0, .ref (a1 7), .ref (a1 8), .int 0, .int 0, .int 0, .int 0])), ((a2 0), .inr (4, [.ref (a2 1), .int 0, .int 0, .int 0, .int 0])), (q3, .inl (cA 4, 4, .inr (.inr (.inr (.inr (va_up (va_up (va_up (va_up (fun _ => none) 0 (some (a4 0))) 1 (some (a5 0))) 2 (some (a6 0))) 3 (some (a7 0)))))))), ((a4 0), .inr (0, [.ref (a4 1), .ref (a4 2), .ref (a4 3), .ref (a4 4), .ref (a4 11), .int 0, .int 0, .int 0])), ((a5 0), .inr (0, [.ref (a5 1), .ref (a5 2), .ref (a5 3), .ref (a5 4), .ref (a5 11), .int 0, .int 0, .int 0])), ((a6 0), .inr (0, [.ref (a6 1), .ref (a6 2), .ref (a6 3), .ref (a6 4), .ref (a6 11), .int 0, .int 0, .int 0])), ((a7 0), .inr (0, [.ref (a7 1), .ref (a7 2), .ref (a7 3), .ref (a7 4), .ref (a7 11), .int 0, .int 0, .int 0])), (q8, .inl (cA 0, 3, .inl (fun _ => 0)))] ++ (chT D cA a7 ++ (chT D cA a6 ++ (chT D cA a5 ++ (chT D cA a4 ++ (scT cA a2 ++ (rtT cA a1 ++ (([] : va_W)))))))))) rfl ?_
  refine y_put h 0 5 rfl rfl in_X5_init_X5 tyX5_ok nmX5 3 (by decide) (by decide +kernel) (Or.inr ⟨rfl, hin, rfl⟩) rfl rfl (Nat.le_of_ble_eq_true rfl) dX5_init_64 ?_
  refine y_to (([(h0, .inr (5, [.ref ((a1 0)), .ref ((a2 0)), .ref q3, .ref q8, .null, .null, .int 0])), ((a1 0), .inr (3, [.ref (a1 1), .ref (a1 2), .ref (a1 3), .ref (a1 4), .ref (a1 5), .ref (a1 6), .int 0, .int 0, .int 0, .ref (a1 7), .ref (a1 8), .int 0, .int 0, .int 0, .int 0])), ((a2 0), .inr (4, [.ref (a2 1), .int 0, .int 0, .int 0, .int 0])), (q3, .inl (cA 4, 4, .inr (.inr (.inr (.inr (va_up (va_up (va_up (va_up (fun _ => none) 0 (some (a4 0))) 1 (some (a5 0))) 2 (some (a6 0))) 3 (some (a7 0)))))))), ((a4 0), .inr (0, [.ref (a4 1), .ref (a4 2), .ref (a4 3), .ref (a4 4), .ref (a4 11), .int 0, .int 0, .int 0])), ((a5 0), .inr (0, [.ref (a5 1), .ref (a5 2), .ref (a5 3), .ref (a5 4), .ref (a5 11), .int 0, .int 0, .int 0])), ((a6 0), .inr (0, [.ref (a6 1), .ref (a6 2), .ref (a6 3), .ref (a6 4), .ref (a6 11), .int 0, .int 0, .int 0])), ((a7 0), .inr (0, [.ref (a7 1), .ref (a7 2), .ref (a7 3), .ref (a7 4), .ref (a7 11), .int 0, .int 0, .int 0])), (q8, .inl (cA 0, 3, .inl (fun _ => 0)))] ++ (chT D cA a7 ++ (chT D cA a6 ++ (chT D cA a5 ++ (chT D cA a4 ++ (scT cA a2 ++ (rtT cA a1 ++ (([] : va_W)))))))))) rfl ?_
  refine y_aload_n h 1 dX5_init_67 rfl rfl ?_
  refine y_new h 0 [.null, .null, .null, .null, .null, .int 0, .int 0, .int 0] in_X5_init_X0 tyX0_ok (by decide +kernel) (by decide +kernel) (by decide +kernel) rfl (by decide +kernel) (Nat.le_of_ble_eq_true rfl) (Nat.le_of_ble_eq_true rfl) dX5_init_68 (fun q9 => ?_)
  refine y_dup h dX5_init_71 rfl ?_
  refine y_initB h [(h0, .inr (5, [.ref ((a1 0)), .ref ((a2 0)), .ref q3, .ref q8, .null, .null, .int 0])), ((a1 0), .inr (3, [.ref (a1 1), .ref (a1 2), .ref (a1 3), .ref (a1 4), .ref (a1 5), .ref (a1 6), .int 0, .int 0, .int 0, .ref (a1 7), .ref (a1 8), .int 0, .int 0, .int 0, .int 0])), ((a2 0), .inr (4, [.ref (a2 1), .int 0, .int 0, .int 0, .int 0])), (q3, .inl (cA 4, 4, .inr (.inr (.inr (.inr (va_up (va_up (va_up (va_up (fun _ => none) 0 (some (a4 0))) 1 (some (a5 0))) 2 (some (a6 0))) 3 (some (a7 0)))))))), ((a4 0), .inr (0, [.ref (a4 1), .ref (a4 2), .ref (a4 3), .ref (a4 4), .ref (a4 11), .int 0, .int 0, .int 0])), ((a5 0), .inr (0, [.ref (a5 1), .ref (a5 2), .ref (a5 3), .ref (a5 4), .ref (a5 11), .int 0, .int 0, .int 0])), ((a6 0), .inr (0, [.ref (a6 1), .ref (a6 2), .ref (a6 3), .ref (a6 4), .ref (a6 11), .int 0, .int 0, .int 0])), ((a7 0), .inr (0, [.ref (a7 1), .ref (a7 2), .ref (a7 3), .ref (a7 4), .ref (a7 11), .int 0, .int 0, .int 0])), (q8, .inl (cA 0, 3, .inl (fun _ => 0)))] (chT D cA a7 ++ (chT D cA a6 ++ (chT D cA a5 ++ (chT D cA a4 ++ (scT cA a2 ++ (rtT cA a1 ++ (([] : va_W)))))))) hx (fun sz => c_X0_init) (gX5_init_X0_init) rfl ⟨rfl, rfl⟩ (by decide +kernel) (by decide +kernel) (by decide +kernel) rfl (by decide +kernel) (by decide) (Nat.le_of_ble_eq_true rfl) (Nat.le_of_ble_eq_true rfl) (Nat.le_of_ble_eq_true rfl) dX5_init_72 (fun a9 ha9 => ?_)
  subst ha9
  refine y_to (([(h0, .inr (5, [.ref ((a1 0)), .ref ((a2 0)), .ref q3, .ref q8, .null, .null, .int 0])), ((a1 0), .inr (3, [.ref (a1 1), .ref (a1 2), .ref (a1 3), .ref (a1 4), .ref (a1 5), .ref (a1 6), .int 0, .int 0, .int 0, .ref (a1 7), .ref (a1 8), .int 0, .int 0, .int 0, .int 0])), ((a2 0), .inr (4, [.ref (a2 1), .int 0, .int 0, .int 0, .int 0])), (q3, .inl (cA 4, 4, .inr (.inr (.inr (.inr (va_up (va_up (va_up (va_up (fun _ => none) 0 (some (a4 0))) 1 (some (a5 0))) 2 (some (a6 0))) 3 (some (a7 0)))))))), ((a4 0), .inr (0, [.ref (a4 1), .ref (a4 2), .ref (a4 3), .ref (a4 4), .ref (a4 11), .int 0, .int 0, .int 0])), ((a5 0), .inr (0, [.ref (a5 1), .ref (a5 2), .ref (a5 3), .ref (a5 4), .ref (a5 11), .int 0, .int 0, .int 0])), ((a6 0), .inr (0, [.ref (a6 1), .ref (a6 2), .ref (a6 3), .ref (a6 4), .ref (a6 11), .int 0, .int 0, .int 0])), ((a7 0), .inr (0, [.ref (a7 1), .ref (a7 2), .ref (a7 3), .ref (a7 4), .ref (a7 11), .int 0, .int 0, .int 0])), (q8, .inl (cA 0, 3, .inl (fun _ => 0))), ((a9 0), .inr (0, [.ref (a9 1), .ref (a9 2), .ref (a9 3), .ref (a9 4), .ref (a9 11), .int 0, .int 0, .int 0]))] ++ (chT D cA a9 ++ (chT D cA a7 ++ (chT D cA a6 ++ (chT D cA a5 ++ (chT D cA a4 ++ (scT cA a2 ++ (rtT cA a1 ++ (([] : va_W))))))))))) rfl ?_
  refine y_put h 0 5 rfl rfl in_X5_init_X5 tyX5_ok nmX5 4 (by decide) (by decide +kernel) (Or.inl rfl) rfl rfl (Nat.le_of_ble_eq_true rfl) dX5_init_75 ?_
  refine y_to (([(h0, .inr (5, [.ref ((a1 0)), .ref ((a2 0)), .ref q3, .ref q8, .ref ((a9 0)), .null, .int 0])), ((a1 0), .inr (3, [.ref (a1 1), .ref (a1 2), .ref (a1 3), .ref (a1 4), .ref (a1 5), .ref (a1 6), .int 0, .int 0, .int 0, .ref (a1 7), .ref (a1 8), .int 0, .int 0, .int 0, .int 0])), ((a2 0), .inr (4, [.ref (a2 1), .int 0, .int 0, .int 0, .int 0])), (q3, .inl (cA 4, 4, .inr (.inr (.inr (.inr (va_up (va_up (va_up (va_up (fun _ => none) 0 (some (a4 0))) 1 (some (a5 0))) 2 (some (a6 0))) 3 (some (a7 0)))))))), ((a4 0), .inr (0, [.ref (a4 1), .ref (a4 2), .ref (a4 3), .ref (a4 4), .ref (a4 11), .int 0, .int 0, .int 0])), ((a5 0), .inr (0, [.ref (a5 1), .ref (a5 2), .ref (a5 3), .ref (a5 4), .ref (a5 11), .int 0, .int 0, .int 0])), ((a6 0), .inr (0, [.ref (a6 1), .ref (a6 2), .ref (a6 3), .ref (a6 4), .ref (a6 11), .int 0, .int 0, .int 0])), ((a7 0), .inr (0, [.ref (a7 1), .ref (a7 2), .ref (a7 3), .ref (a7 4), .ref (a7 11), .int 0, .int 0, .int 0])), (q8, .inl (cA 0, 3, .inl (fun _ => 0))), ((a9 0), .inr (0, [.ref (a9 1), .ref (a9 2), .ref (a9 3), .ref (a9 4), .ref (a9 11), .int 0, .int 0, .int 0]))] ++ (chT D cA a9 ++ (chT D cA a7 ++ (chT D cA a6 ++ (chT D cA a5 ++ (chT D cA a4 ++ (scT cA a2 ++ (rtT cA a1 ++ (([] : va_W))))))))))) rfl ?_
  refine y_aload_n h 1 dX5_init_78 rfl rfl ?_
  refine y_new h 0 [.null, .null, .null, .null, .null, .int 0, .int 0, .int 0] in_X5_init_X0 tyX0_ok (by decide +kernel) (by decide +kernel) (by decide +kernel) rfl (by decide +kernel) (Nat.le_of_ble_eq_true rfl) (Nat.le_of_ble_eq_true rfl) dX5_init_79 (fun q10 => ?_)
  refine y_dup h dX5_init_82 rfl ?_
  refine y_initB h [(h0, .inr (5, [.ref ((a1 0)), .ref ((a2 0)), .ref q3, .ref q8, .ref ((a9 0)), .null, .int 0])), ((a1 0), .inr (3, [.ref (a1 1), .ref (a1 2), .ref (a1 3), .ref (a1 4), .ref (a1 5), .ref (a1 6), .int 0, .int 0, .int 0, .ref (a1 7), .ref (a1 8), .int 0, .int 0, .int 0, .int 0])), ((a2 0), .inr (4, [.ref (a2 1), .int 0, .int 0, .int 0, .int 0])), (q3, .inl (cA 4, 4, .inr (.inr (.inr (.inr (va_up (va_up (va_up (va_up (fun _ => none) 0 (some (a4 0))) 1 (some (a5 0))) 2 (some (a6 0))) 3 (some (a7 0)))))))), ((a4 0), .inr (0, [.ref (a4 1), .ref (a4 2), .ref (a4 3), .ref (a4 4), .ref (a4 11), .int 0, .int 0, .int 0])), ((a5 0), .inr (0, [.ref (a5 1), .ref (a5 2), .ref (a5 3), .ref (a5 4), .ref (a5 11), .int 0, .int 0, .int 0])), ((a6 0), .inr (0, [.ref (a6 1), .ref (a6 2), .ref (a6 3), .ref (a6 4), .ref (a6 11), .int 0, .int 0, .int 0])), ((a7 0), .inr (0, [.ref (a7 1), .ref (a7 2), .ref (a7 3), .ref (a7 4), .ref (a7 11), .int 0, .int 0, .int 0])), (q8, .inl (cA 0, 3, .inl (fun _ => 0))), ((a9 0), .inr (0, [.ref (a9 1), .ref (a9 2), .ref (a9 3), .ref (a9 4), .ref (a9 11), .int 0, .int 0, .int 0]))] (chT D cA a9 ++ (chT D cA a7 ++ (chT D cA a6 ++ (chT D cA a5 ++ (chT D cA a4 ++ (scT cA a2 ++ (rtT cA a1 ++ (([] : va_W))))))))) hx (fun sz => c_X0_init) (gX5_init_X0_init) rfl ⟨rfl, rfl⟩ (by decide +kernel) (by decide +kernel) (by decide +kernel) rfl (by decide +kernel) (by decide) (Nat.le_of_ble_eq_true rfl) (Nat.le_of_ble_eq_true rfl) (Nat.le_of_ble_eq_true rfl) dX5_init_83 (fun a10 ha10 => ?_)
  subst ha10
  refine y_to (([(h0, .inr (5, [.ref ((a1 0)), .ref ((a2 0)), .ref q3, .ref q8, .ref ((a9 0)), .null, .int 0])), ((a1 0), .inr (3, [.ref (a1 1), .ref (a1 2), .ref (a1 3), .ref (a1 4), .ref (a1 5), .ref (a1 6), .int 0, .int 0, .int 0, .ref (a1 7), .ref (a1 8), .int 0, .int 0, .int 0, .int 0])), ((a2 0), .inr (4, [.ref (a2 1), .int 0, .int 0, .int 0, .int 0])), (q3, .inl (cA 4, 4, .inr (.inr (.inr (.inr (va_up (va_up (va_up (va_up (fun _ => none) 0 (some (a4 0))) 1 (some (a5 0))) 2 (some (a6 0))) 3 (some (a7 0)))))))), ((a4 0), .inr (0, [.ref (a4 1), .ref (a4 2), .ref (a4 3), .ref (a4 4), .ref (a4 11), .int 0, .int 0, .int 0])), ((a5 0), .inr (0, [.ref (a5 1), .ref (a5 2), .ref (a5 3), .ref (a5 4), .ref (a5 11), .int 0, .int 0, .int 0])), ((a6 0), .inr (0, [.ref (a6 1), .ref (a6 2), .ref (a6 3), .ref (a6 4), .ref (a6 11), .int 0, .int 0, .int 0])), ((a7 0), .inr (0, [.ref (a7 1), .ref (a7 2), .ref (a7 3), .ref (a7 4), .ref (a7 11), .int 0, .int 0, .int 0])), (q8, .inl (cA 0, 3, .inl (fun _ => 0))), ((a9 0), .inr (0, [.ref (a9 1), .ref (a9 2), .ref (a9 3), .ref (a9 4), .ref (a9 11), .int 0, .int 0, .int 0])), ((a10 0), .inr (0, [.ref (a10 1), .ref (a10 2), .ref (a10 3), .ref (a10 4), .ref (a10 11), .int 0, .int 0, .int 0]))] ++ (chT D cA a10 ++ (chT D cA a9 ++ (chT D cA a7 ++ (chT D cA a6 ++ (chT D cA a5 ++ (chT D cA a4 ++ (scT cA a2 ++ (rtT cA a1 ++ (([] : va_W)))))))))))) rfl ?_
  refine y_put h 0 5 rfl rfl in_X5_init_X5 tyX5_ok nmX5 5 (by decide) (by decide +kernel) (Or.inl rfl) rfl rfl (Nat.le_of_ble_eq_true rfl) dX5_init_86 ?_
  refine y_to (([(h0, .inr (5, [.ref ((a1 0)), .ref ((a2 0)), .ref q3, .ref q8, .ref ((a9 0)), .ref ((a10 0)), .int 0])), ((a1 0), .inr (3, [.ref (a1 1), .ref (a1 2), .ref (a1 3), .ref (a1 4), .ref (a1 5), .ref (a1 6), .int 0, .int 0, .int 0, .ref (a1 7), .ref (a1 8), .int 0, .int 0, .int 0, .int 0])), ((a2 0), .inr (4, [.ref (a2 1), .int 0, .int 0, .int 0, .int 0])), (q3, .inl (cA 4, 4, .inr (.inr (.inr (.inr (va_up (va_up (va_up (va_up (fun _ => none) 0 (some (a4 0))) 1 (some (a5 0))) 2 (some (a6 0))) 3 (some (a7 0)))))))), ((a4 0), .inr (0, [.ref (a4 1), .ref (a4 2), .ref (a4 3), .ref (a4 4), .ref (a4 11), .int 0, .int 0, .int 0])), ((a5 0), .inr (0, [.ref (a5 1), .ref (a5 2), .ref (a5 3), .ref (a5 4), .ref (a5 11), .int 0, .int 0, .int 0])), ((a6 0), .inr (0, [.ref (a6 1), .ref (a6 2), .ref (a6 3), .ref (a6 4), .ref (a6 11), .int 0, .int 0, .int 0])), ((a7 0), .inr (0, [.ref (a7 1), .ref (a7 2), .ref (a7 3), .ref (a7 4), .ref (a7 11), .int 0, .int 0, .int 0])), (q8, .inl (cA 0, 3, .inl (fun _ => 0))), ((a9 0), .inr (0, [.ref (a9 1), .ref (a9 2), .ref (a9 3), .ref (a9 4), .ref (a9 11), .int 0, .int 0, .int 0])), ((a10 0), .inr (0, [.ref (a10 1), .ref (a10 2), .ref (a10 3), .ref (a10 4), .ref (a10 11), .int 0, .int 0, .int 0]))] ++ (chT D cA a10 ++ (chT D cA a9 ++ (chT D cA a7 ++ (chT D cA a6 ++ (chT D cA a5 ++ (chT D cA a4 ++ (scT cA a2 ++ (rtT cA a1 ++ (([] : va_W)))))))))))) rfl ?_
  refine y_aload_n h 1 dX5_init_89 rfl rfl ?_
  refine y_iconst h (nI 0) dX5_init_90 (by decide) ?_
  refine y_put h 0 5 rfl rfl in_X5_init_X5 tyX5_ok nmX5 6 (by decide) (by decide +kernel) (Or.inl rfl) rfl rfl (Nat.le_of_ble_eq_true rfl) dX5_init_91 ?_
  refine y_to (([(h0, .inr (5, [.ref ((a1 0)), .ref ((a2 0)), .ref q3, .ref q8, .ref ((a9 0)), .ref ((a10 0)), .int (nI 0)])), ((a1 0), .inr (3, [.ref (a1 1), .ref (a1 2), .ref (a1 3), .ref (a1 4), .ref (a1 5), .ref (a1 6), .int 0, .int 0, .int 0, .ref (a1 7), .ref (a1 8), .int 0, .int 0, .int 0, .int 0])), ((a2 0), .inr (4, [.ref (a2 1), .int 0, .int 0, .int 0, .int 0])), (q3, .inl (cA 4, 4, .inr (.inr (.inr (.inr (va_up (va_up (va_up (va_up (fun _ => none) 0 (some (a4 0))) 1 (some (a5 0))) 2 (some (a6 0))) 3 (some (a7 0)))))))), ((a4 0), .inr (0, [.ref (a4 1), .ref (a4 2), .ref (a4 3), .ref (a4 4), .ref (a4 11), .int 0, .int 0, .int 0])), ((a5 0), .inr (0, [.ref (a5 1), .ref (a5 2), .ref (a5 3), .ref (a5 4), .ref (a5 11), .int 0, .int 0, .int 0])), ((a6 0), .inr (0, [.ref (a6 1), .ref (a6 2), .ref (a6 3), .ref (a6 4), .ref (a6 11), .int 0, .int 0, .int 0])), ((a7 0), .inr (0, [.ref (a7 1), .ref (a7 2), .ref (a7 3), .ref (a7 4), .ref (a7 11), .int 0, .int 0, .int 0])), (q8, .inl (cA 0, 3, .inl (fun _ => 0))), ((a9 0), .inr (0, [.ref (a9 1), .ref (a9 2), .ref (a9 3), .ref (a9 4), .ref (a9 11), .int 0, .int 0, .int 0])), ((a10 0), .inr (0, [.ref (a10 1), .ref (a10 2), .ref (a10 3), .ref (a10 4), .ref (a10 11), .int 0, .int 0, .int 0]))] ++ (chT D cA a10 ++ (chT D cA a9 ++ (chT D cA a7 ++ (chT D cA a6 ++ (chT D cA a5 ++ (chT D cA a4 ++ (scT cA a2 ++ (rtT cA a1 ++ (([] : va_W)))))))))))) rfl ?_
  refine y_atq 3 (fun i => if i = 0 then some ((a4 0)) else if i = 1 then some ((a5 0)) else if i = 2 then some ((a6 0)) else some ((a7 0))) rfl (by intro j hj; rcases (show j = 0 ∨ j = 1 ∨ j = 2 ∨ j = 3 by omega) with rfl | rfl | rfl | rfl <;> rfl) ?_
  obtain ⟨r, hr⟩ : ∃ r : Nat → Nat, r = fun o => [h0, q3, q8].getD o 0 := ⟨_, rfl⟩
  obtain ⟨ad, had⟩ : ∃ ad : Nat → Nat, ad = fun n => if n % 16 = 0 then r (n / 16) else if n % 16 = 1 then a1 (n / 16) else if n % 16 = 2 then a2 (n / 16) else if n % 16 = 3 then a4 (n / 16) else if n % 16 = 4 then a5 (n / 16) else if n % 16 = 5 then a6 (n / 16) else if n % 16 = 6 then a7 (n / 16) else if n % 16 = 7 then a9 (n / 16) else a10 (n / 16) := ⟨_, rfl⟩
  have hd16 : ∀ o i, i < 16 → (16 * o + i) / 16 = o ∧ (16 * o + i) % 16 = i := fun o i hi => ⟨by omega, by omega⟩
  have e0 : (fun o => ad (16 * o + 0)) = r := funext (fun o => by rw [had]; show (if _ then _ else _) = _; rw [(hd16 o 0 (by decide)).1, (hd16 o 0 (by decide)).2]; rfl)
  have e1 : (fun o => ad (16 * o + 1)) = a1 := funext (fun o => by rw [had]; show (if _ then _ else _) = _; rw [(hd16 o 1 (by decide)).1, (hd16 o 1 (by decide)).2]; rfl)
  have e2 : (fun o => ad (16 * o + 2)) = a2 := funext (fun o => by rw [had]; show (if _ then _ else _) = _; rw [(hd16 o 2 (by decide)).1, (hd16 o 2 (by decide)).2]; rfl)
  have e3 : (fun o => ad (16 * o + 3)) = a4 := funext (fun o => by rw [had]; show (if _ then _ else _) = _; rw [(hd16 o 3 (by decide)).1, (hd16 o 3 (by decide)).2]; rfl)
  have e4 : (fun o => ad (16 * o + 4)) = a5 := funext (fun o => by rw [had]; show (if _ then _ else _) = _; rw [(hd16 o 4 (by decide)).1, (hd16 o 4 (by decide)).2]; rfl)
  have e5 : (fun o => ad (16 * o + 5)) = a6 := funext (fun o => by rw [had]; show (if _ then _ else _) = _; rw [(hd16 o 5 (by decide)).1, (hd16 o 5 (by decide)).2]; rfl)
  have e6 : (fun o => ad (16 * o + 6)) = a7 := funext (fun o => by rw [had]; show (if _ then _ else _) = _; rw [(hd16 o 6 (by decide)).1, (hd16 o 6 (by decide)).2]; rfl)
  have e7 : (fun o => ad (16 * o + 7)) = a9 := funext (fun o => by rw [had]; show (if _ then _ else _) = _; rw [(hd16 o 7 (by decide)).1, (hd16 o 7 (by decide)).2]; rfl)
  have e8 : (fun o => ad (16 * o + 8)) = a10 := funext (fun o => by rw [had]; show (if _ then _ else _) = _; rw [(hd16 o 8 (by decide)).1, (hd16 o 8 (by decide)).2]; rfl)
  have e0 : (fun o => ad (16 * o)) = r := e0
  refine hret _ _ ad _ dX5_init_94 (by have := congrFun e0 0; rw [Nat.mul_zero] at this; rw [this, hr]; rfl) (List.Perm.of_eq ?_)
  show _ = W5' D cA _ _ _ _ _ _ _ _ _
  rw [e0, e1, e2, e3, e4, e5, e6, e7, e8]
  subst hr
  rfl
