theorem in_m1 {p : Int32} : (-1 ≤ p ∧ p ≤ nI 80) ↔ (p = -1 ∨ InR 81 p) := by
  constructor
  · rintro ⟨h1, h2⟩
    by_cases e : p < 0
    · left
      have h1 := Int32.le_iff_toInt_le.mp h1
      have e := Int32.lt_iff_toInt_lt.mp e
      have e1 : (-1 : Int32).toInt = -1 := rfl
      have e0 : (0 : Int32).toInt = 0 := rfl
      exact Int32.toInt_inj.mp (by omega)
    · right
      obtain ⟨j, hj, rfl⟩ := nI_of e
      exact ⟨j, by have := (nI_leI hj (by decide)).mp h2; omega, rfl⟩
  · rintro (rfl | ⟨j, hj, rfl⟩)
    · exact ⟨by decide, by decide⟩
    · exact ⟨by
        have e1 : (-1 : Int32).toInt = -1 := rfl
        refine Int32.le_iff_toInt_le.mpr ?_
        rw [nI_toInt (by omega)]; omega, nI_le (by omega) (by decide)⟩
theorem pinE_cg {e : Enc} {k a j : Nat} {X Y : Nat → Int32} (h : X j = Y j) : pinE e k a X j = pinE e k a Y j := by
  unfold pinE upd
  rw [h]
theorem pinE_n {e : Enc} {k a j : Nat} {X : Nat → Int32} (h : j ≠ 7 + a) (h2 : j ≠ 7 + (a + 81)) : pinE e k a X j = X j := by
  unfold pinE
  rw [pk_un h2, pk_un h]
theorem netRow_n {X : Nat → Int32} {k j : Nat} {p0 p1 p2 s u : Int32} (h : j < 169 + 9 * k ∨ 169 + 9 * k + 9 ≤ j) : netRow X k p0 p1 p2 s u j = X j := by
  unfold netRow
  repeat rw [pk_un (by omega)]
/-- the model's row of a net, written in its own order -/
def mRow (X : Nat → Int32) (N : Nat) (p0 p1 p2 s u : Int32) : Nat → Int32 := upd (upd (upd (upd (upd X (169 + 9 * N) p0) (169 + 9 * N + 1) p1) (169 + 9 * N + 2) p2) (169 + 9 * N + 3) s) (169 + 9 * N + 4) u
theorem net_eq {S T : Nat → Int32} {N : Nat} {p0 p1 p2 s u : Int32} (hN : N < 6) (hz : Zn S N) (F : (Nat → Int32) → Nat → Int32) (hF1 : ∀ X j, (j < 7 ∨ 169 ≤ j) → F X j = X j) (hF2 : ∀ X Y j, X j = Y j → F X j = F Y j) (hT : T = upd (F (mRow S N p0 p1 p2 s u)) 5 (nI (N + 1))) : T = netRow (F (upd S 5 (nI (N + 1)))) N p0 p1 p2 s u := by
  funext j
  by_cases h : 169 + 9 * N ≤ j ∧ j < 169 + 9 * N + 9
  · obtain ⟨t, rfl⟩ : ∃ t, j = 169 + 9 * N + t := ⟨j - (169 + 9 * N), by omega⟩
    rw [hT, pk_un (by omega), hF1 _ _ (by omega)]
    unfold mRow netRow
    rcases (show t = 0 ∨ t = 1 ∨ t = 2 ∨ t = 3 ∨ t = 4 ∨ t = 5 ∨ t = 6 ∨ t = 7 ∨ t = 8 by omega) with rfl | rfl | rfl | rfl | rfl | rfl | rfl | rfl | rfl
    · simp only [Nat.add_zero]; repeat first | rw [pk_us] | rw [pk_un (by omega)]
    · repeat first | rw [pk_us] | rw [pk_un (by omega)]
    · repeat first | rw [pk_us] | rw [pk_un (by omega)]
    · repeat first | rw [pk_us] | rw [pk_un (by omega)]
    · repeat first | rw [pk_us] | rw [pk_un (by omega)]
    · rw [pk_un (by omega), pk_un (by omega), pk_un (by omega), pk_un (by omega), pk_un (by omega), pk_un (by omega), pk_un (by omega), pk_un (by omega), pk_us]; exact hz N (Nat.le_refl N) hN 5 (by omega) (by omega)
    · rw [pk_un (by omega), pk_un (by omega), pk_un (by omega), pk_un (by omega), pk_un (by omega), pk_un (by omega), pk_un (by omega), pk_us]; exact hz N (Nat.le_refl N) hN 6 (by omega) (by omega)
    · rw [pk_un (by omega), pk_un (by omega), pk_un (by omega), pk_un (by omega), pk_un (by omega), pk_un (by omega), pk_us]; exact hz N (Nat.le_refl N) hN 7 (by omega) (by omega)
    · rw [pk_un (by omega), pk_un (by omega), pk_un (by omega), pk_un (by omega), pk_un (by omega), pk_us]; exact hz N (Nat.le_refl N) hN 8 (by omega) (by omega)
  · rw [netRow_n (by omega), hT]
    have hm : ∀ i, (i < 169 + 9 * N ∨ 169 + 9 * N + 9 ≤ i) → mRow S N p0 p1 p2 s u i = S i := fun i hi => by
      unfold mRow
      repeat rw [pk_un (by omega)]
    by_cases e : j = 5
    · subst e; rw [pk_us, hF1 _ _ (by omega), pk_us]
    · rw [pk_un e]
      refine hF2 _ _ j ?_
      rw [pk_un e]
      exact hm j (by omega)
def pnM (o2 : Option Nat) (N : Nat) : (Nat → Int32) → Nat → Int32 := match o2 with
  | some q2 => pinE eM N q2
  | none => id
/-- so many pins' cells -/
def pnF (q0 q1 : Nat) (o2 : Option Nat) (N : Nat) (k : Nat) (X : Nat → Int32) : Nat → Int32 := (if 3 ≤ k then pnM o2 N else id) ((if 2 ≤ k then pinE eM N q1 else id) ((if 1 ≤ k then pinE eM N q0 else id) X))
theorem pnF_r {q0 q1 N k : Nat} {o2 : Option Nat} (h0 : q0 < 81) (h1 : q1 < 81) (h2 : ∀ q, o2 = some q → q < 81) {X : Nat → Int32} {j : Nat} (hj : j < 7 ∨ 169 ≤ j) : pnF q0 q1 o2 N k X j = X j := by
  unfold pnF
  have a : ∀ Y : Nat → Int32, (if 1 ≤ k then pinE eM N q0 else id) Y j = Y j := fun Y => by
    split
    · exact pinE_n (by omega) (by omega)
    · rfl
  have b : ∀ Y : Nat → Int32, (if 2 ≤ k then pinE eM N q1 else id) Y j = Y j := fun Y => by
    split
    · exact pinE_n (by omega) (by omega)
    · rfl
  have c : ∀ Y : Nat → Int32, (if 3 ≤ k then pnM o2 N else id) Y j = Y j := fun Y => by
    split
    · cases o2 with
      | none => rfl
      | some q2 => have := h2 q2 rfl; exact pinE_n (by omega) (by omega)
    · rfl
  rw [c, b, a]
theorem pnF_cg {q0 q1 N k : Nat} {o2 : Option Nat} {X Y : Nat → Int32} {j : Nat} (h : X j = Y j) : pnF q0 q1 o2 N k X j = pnF q0 q1 o2 N k Y j := by
  unfold pnF
  have a : (if 1 ≤ k then pinE eM N q0 else id) X j = (if 1 ≤ k then pinE eM N q0 else id) Y j := by
    split
    · exact pinE_cg h
    · exact h
  have b : (if 2 ≤ k then pinE eM N q1 else id) ((if 1 ≤ k then pinE eM N q0 else id) X) j = (if 2 ≤ k then pinE eM N q1 else id) ((if 1 ≤ k then pinE eM N q0 else id) Y) j := by
    split
    · exact pinE_cg a
    · exact a
  split
  · cases o2 with
    | none => exact b
    | some q2 => exact pinE_cg b
  · exact b
/-- the pins by their number -/
def pnA (q0 q1 : Nat) (o2 : Option Nat) (k : Nat) : Int32 := if k = 0 then nI q0 else if k = 1 then nI q1 else ngh o2
theorem pnF_s {q0 q1 N k q : Nat} {o2 : Option Nat} {X : Nat → Int32} (hk : k < 3) (h0 : q0 < 2 ^ 31) (h1 : q1 < 2 ^ 31) (h2 : ∀ t, o2 = some t → t < 2 ^ 31) (hq : q < 2 ^ 31) (h : pnA q0 q1 o2 k = nI q) : pinE eM N q (pnF q0 q1 o2 N k X) = pnF q0 q1 o2 N (k + 1) X := by
  unfold pnA at h
  rcases (show k = 0 ∨ k = 1 ∨ k = 2 by omega) with rfl | rfl | rfl
  · rw [if_pos rfl] at h
    rw [(nI_eq h0 hq).mp h]; rfl
  · rw [if_neg (by decide), if_pos rfl] at h
    rw [(nI_eq h1 hq).mp h]; rfl
  · rw [if_neg (by decide), if_neg (by decide)] at h
    cases o2 with
    | none => exact absurd h (m1_ne hq)
    | some t => rw [show t = q from (nI_eq (h2 t rfl) hq).mp h]; rfl
theorem pnF_n {q0 q1 N k : Nat} {o2 : Option Nat} {X : Nat → Int32} (hk : k < 3) (h0 : q0 < 2 ^ 31) (h1 : q1 < 2 ^ 31) (h2 : ∀ t, o2 = some t → t < 2 ^ 31) (h : pnA q0 q1 o2 k < 0) : pnF q0 q1 o2 N k X = pnF q0 q1 o2 N (k + 1) X := by
  unfold pnA at h
  rcases (show k = 0 ∨ k = 1 ∨ k = 2 by omega) with rfl | rfl | rfl
  · rw [if_pos rfl] at h; exact absurd h (nI_pos h0)
  · rw [if_neg (by decide), if_pos rfl] at h; exact absurd h (nI_pos h1)
  · rw [if_neg (by decide), if_neg (by decide)] at h
    cases o2 with
    | none => rfl
    | some t => exact absurd h (nI_pos (h2 t rfl))
theorem wa_find {X : Nat → Int32} {n : Int32} {ix : Nat} (p : Nat → Bool) : True := trivial

theorem pnA_of {q0 q1 k : Nat} {o2 : Option Nat} (h0 : q0 < 81) (h1 : q1 < 81) (h2 : ∀ q, o2 = some q → q < 81) (h : ¬ pnA q0 q1 o2 k < 0) : ∃ pq, pq < 81 ∧ pnA q0 q1 o2 k = nI pq := by
  unfold pnA at h ⊢
  split
  · exact ⟨q0, h0, rfl⟩
  · split
    · exact ⟨q1, h1, rfl⟩
    · rename_i a b
      rw [if_neg a, if_neg b] at h
      obtain ⟨t, rfl⟩ := ngh_pos h
      exact ⟨t, h2 t rfl, rfl⟩

set_option maxRecDepth 20000 in
theorem ggX6_net_X6_in : GoodIn wsX6_net wsX6_in := goodIn_r _ [8] (by decide +kernel) (by decide +kernel)
set_option maxRecDepth 20000 in
theorem gX6_net_X6_in : GoodIn wsX6_net (va_wsS RX6 38 yX6_in wsX6_in) := goodIn_app (goodIn_of _ (by decide +kernel)) ggX6_net_X6_in
set_option maxRecDepth 20000 in
theorem ggX6_net_X6_isFree : GoodIn wsX6_net wsX6_isFree := goodIn_r _ [12, 3, 25, 26, 27, 28, 29, 30, 31, 32, 33, 34, 35, 36, 37, 38, 39, 40, 41, 42, 43] (by decide +kernel) (by decide +kernel)
set_option maxRecDepth 20000 in
theorem gX6_net_X6_isFree : GoodIn wsX6_net (wsV RX6 68 RX6 yX6_isFree wsX6_isFree) := goodIn_app (goodIn_of _ (by decide +kernel)) ggX6_net_X6_isFree
set_option maxRecDepth 20000 in
theorem ggX6_net_X6_copy : GoodIn wsX6_net wsX6_copy := goodIn_r _ [16, 17, 3, 25, 26, 27, 28, 29, 30, 31, 32, 33, 34, 35, 36, 37, 38, 39, 40, 41, 42, 43] (by decide +kernel) (by decide +kernel)
set_option maxRecDepth 20000 in
theorem gX6_net_X6_copy : GoodIn wsX6_net (wsV RX6 62 RX6 yX6_copy wsX6_copy) := goodIn_app (goodIn_of _ (by decide +kernel)) ggX6_net_X6_copy
set_option maxRecDepth 20000 in
theorem ggX6_net_X6_recorded : GoodIn wsX6_net wsX6_recorded := goodIn_r _ [21, 22, 23, 17, 24, 25, 26, 27, 28, 29, 30, 31, 32, 33, 34, 35, 36, 37, 38, 39, 40, 41, 42, 43] (by decide +kernel) (by decide +kernel)
set_option maxRecDepth 20000 in
theorem gX6_net_X6_recorded : GoodIn wsX6_net (wsV RX6 65 RX6 yX6_recorded wsX6_recorded) := goodIn_app (goodIn_of _ (by decide +kernel)) ggX6_net_X6_recorded
theorem dX6_net_0 : decode cX6_net 0 = .ok (.iload_n 1, 1) := by decide +kernel
theorem dX6_net_1 : decode cX6_net 1 = .ok (.iconst 0, 1) := by decide +kernel
theorem dX6_net_2 : decode cX6_net 2 = .ok (.bipush 80, 2) := by decide +kernel
theorem dX6_net_4 : decode cX6_net 4 = .ok (.invokestatic 38, 3) := by decide +kernel
theorem dX6_net_7 : decode cX6_net 7 = .ok (.ifCond .eq 65, 3) := by decide +kernel
theorem dX6_net_10 : decode cX6_net 10 = .ok (.iload_n 2, 1) := by decide +kernel
theorem dX6_net_11 : decode cX6_net 11 = .ok (.iconst 0, 1) := by decide +kernel
theorem dX6_net_12 : decode cX6_net 12 = .ok (.bipush 80, 2) := by decide +kernel
theorem dX6_net_14 : decode cX6_net 14 = .ok (.invokestatic 38, 3) := by decide +kernel
theorem dX6_net_17 : decode cX6_net 17 = .ok (.ifCond .eq 55, 3) := by decide +kernel
theorem dX6_net_20 : decode cX6_net 20 = .ok (.iload_n 3, 1) := by decide +kernel
theorem dX6_net_21 : decode cX6_net 21 = .ok (.iconst (-1), 1) := by decide +kernel
theorem dX6_net_22 : decode cX6_net 22 = .ok (.bipush 80, 2) := by decide +kernel
theorem dX6_net_24 : decode cX6_net 24 = .ok (.invokestatic 38, 3) := by decide +kernel
theorem dX6_net_27 : decode cX6_net 27 = .ok (.ifCond .eq 45, 3) := by decide +kernel
theorem dX6_net_30 : decode cX6_net 30 = .ok (.iload 4, 2) := by decide +kernel
theorem dX6_net_32 : decode cX6_net 32 = .ok (.iconst 0, 1) := by decide +kernel
theorem dX6_net_33 : decode cX6_net 33 = .ok (.bipush 9, 2) := by decide +kernel
theorem dX6_net_35 : decode cX6_net 35 = .ok (.invokestatic 38, 3) := by decide +kernel
theorem dX6_net_38 : decode cX6_net 38 = .ok (.ifCond .eq 34, 3) := by decide +kernel
theorem dX6_net_41 : decode cX6_net 41 = .ok (.iload 5, 2) := by decide +kernel
theorem dX6_net_43 : decode cX6_net 43 = .ok (.iconst 0, 1) := by decide +kernel
theorem dX6_net_44 : decode cX6_net 44 = .ok (.sipush 9999, 3) := by decide +kernel
theorem dX6_net_47 : decode cX6_net 47 = .ok (.invokestatic 38, 3) := by decide +kernel
theorem dX6_net_50 : decode cX6_net 50 = .ok (.ifCond .eq 22, 3) := by decide +kernel
theorem dX6_net_53 : decode cX6_net 53 = .ok (.iload_n 1, 1) := by decide +kernel
theorem dX6_net_54 : decode cX6_net 54 = .ok (.iload_n 2, 1) := by decide +kernel
theorem dX6_net_55 : decode cX6_net 55 = .ok (.if_icmp .eq 17, 3) := by decide +kernel
theorem dX6_net_58 : decode cX6_net 58 = .ok (.iload_n 1, 1) := by decide +kernel
theorem dX6_net_59 : decode cX6_net 59 = .ok (.iload_n 3, 1) := by decide +kernel
theorem dX6_net_60 : decode cX6_net 60 = .ok (.if_icmp .eq 12, 3) := by decide +kernel
theorem dX6_net_63 : decode cX6_net 63 = .ok (.iload_n 2, 1) := by decide +kernel
theorem dX6_net_64 : decode cX6_net 64 = .ok (.iload_n 3, 1) := by decide +kernel
theorem dX6_net_65 : decode cX6_net 65 = .ok (.if_icmp .eq 7, 3) := by decide +kernel
theorem dX6_net_68 : decode cX6_net 68 = .ok (.iconst 1, 1) := by decide +kernel
theorem dX6_net_69 : decode cX6_net 69 = .ok (.goto 4, 3) := by decide +kernel
theorem dX6_net_72 : decode cX6_net 72 = .ok (.iconst 0, 1) := by decide +kernel
theorem dX6_net_73 : decode cX6_net 73 = .ok (.istore 6, 2) := by decide +kernel
theorem dX6_net_75 : decode cX6_net 75 = .ok (.iload 6, 2) := by decide +kernel
theorem dX6_net_77 : decode cX6_net 77 = .ok (.ifCond .ne 6, 3) := by decide +kernel
theorem dX6_net_80 : decode cX6_net 80 = .ok (.ldc 61, 2) := by decide +kernel
theorem dX6_net_82 : decode cX6_net 82 = .ok (.ireturn, 1) := by decide +kernel
theorem dX6_net_83 : decode cX6_net 83 = .ok (.aload_n 0, 1) := by decide +kernel
theorem dX6_net_84 : decode cX6_net 84 = .ok (.iload_n 1, 1) := by decide +kernel
theorem dX6_net_85 : decode cX6_net 85 = .ok (.invokevirtual 68, 3) := by decide +kernel
theorem dX6_net_88 : decode cX6_net 88 = .ok (.ifCond .eq 23, 3) := by decide +kernel
theorem dX6_net_91 : decode cX6_net 91 = .ok (.aload_n 0, 1) := by decide +kernel
theorem dX6_net_92 : decode cX6_net 92 = .ok (.iload_n 2, 1) := by decide +kernel
theorem dX6_net_93 : decode cX6_net 93 = .ok (.invokevirtual 68, 3) := by decide +kernel
theorem dX6_net_96 : decode cX6_net 96 = .ok (.ifCond .eq 15, 3) := by decide +kernel
theorem dX6_net_99 : decode cX6_net 99 = .ok (.iload_n 3, 1) := by decide +kernel
theorem dX6_net_100 : decode cX6_net 100 = .ok (.ifCond .lt 14, 3) := by decide +kernel
theorem dX6_net_103 : decode cX6_net 103 = .ok (.aload_n 0, 1) := by decide +kernel
theorem dX6_net_104 : decode cX6_net 104 = .ok (.iload_n 3, 1) := by decide +kernel
theorem dX6_net_105 : decode cX6_net 105 = .ok (.invokevirtual 68, 3) := by decide +kernel
theorem dX6_net_108 : decode cX6_net 108 = .ok (.ifCond .ne 6, 3) := by decide +kernel
theorem dX6_net_111 : decode cX6_net 111 = .ok (.ldc 53, 2) := by decide +kernel
theorem dX6_net_113 : decode cX6_net 113 = .ok (.ireturn, 1) := by decide +kernel
theorem dX6_net_114 : decode cX6_net 114 = .ok (.aload_n 0, 1) := by decide +kernel
theorem dX6_net_115 : decode cX6_net 115 = .ok (.getfield 7, 3) := by decide +kernel
theorem dX6_net_118 : decode cX6_net 118 = .ok (.iconst 5, 1) := by decide +kernel
theorem dX6_net_119 : decode cX6_net 119 = .ok (.iaload, 1) := by decide +kernel
theorem dX6_net_120 : decode cX6_net 120 = .ok (.bipush 6, 2) := by decide +kernel
theorem dX6_net_122 : decode cX6_net 122 = .ok (.if_icmp .ne 6, 3) := by decide +kernel
theorem dX6_net_125 : decode cX6_net 125 = .ok (.ldc 76, 2) := by decide +kernel
theorem dX6_net_127 : decode cX6_net 127 = .ok (.ireturn, 1) := by decide +kernel
theorem dX6_net_128 : decode cX6_net 128 = .ok (.aload_n 0, 1) := by decide +kernel
theorem dX6_net_129 : decode cX6_net 129 = .ok (.invokevirtual 62, 3) := by decide +kernel
theorem dX6_net_132 : decode cX6_net 132 = .ok (.aload_n 0, 1) := by decide +kernel
theorem dX6_net_133 : decode cX6_net 133 = .ok (.getfield 7, 3) := by decide +kernel
theorem dX6_net_136 : decode cX6_net 136 = .ok (.iconst 5, 1) := by decide +kernel
theorem dX6_net_137 : decode cX6_net 137 = .ok (.iaload, 1) := by decide +kernel
theorem dX6_net_138 : decode cX6_net 138 = .ok (.istore 7, 2) := by decide +kernel
theorem dX6_net_140 : decode cX6_net 140 = .ok (.sipush 169, 3) := by decide +kernel
theorem dX6_net_143 : decode cX6_net 143 = .ok (.bipush 9, 2) := by decide +kernel
theorem dX6_net_145 : decode cX6_net 145 = .ok (.iload 7, 2) := by decide +kernel
theorem dX6_net_147 : decode cX6_net 147 = .ok (.imul, 1) := by decide +kernel
theorem dX6_net_148 : decode cX6_net 148 = .ok (.iadd, 1) := by decide +kernel
theorem dX6_net_149 : decode cX6_net 149 = .ok (.istore 8, 2) := by decide +kernel
theorem dX6_net_151 : decode cX6_net 151 = .ok (.aload_n 0, 1) := by decide +kernel
theorem dX6_net_152 : decode cX6_net 152 = .ok (.getfield 7, 3) := by decide +kernel
theorem dX6_net_155 : decode cX6_net 155 = .ok (.iload 8, 2) := by decide +kernel
theorem dX6_net_157 : decode cX6_net 157 = .ok (.iload_n 1, 1) := by decide +kernel
theorem dX6_net_158 : decode cX6_net 158 = .ok (.iastore, 1) := by decide +kernel
theorem dX6_net_159 : decode cX6_net 159 = .ok (.aload_n 0, 1) := by decide +kernel
theorem dX6_net_160 : decode cX6_net 160 = .ok (.getfield 7, 3) := by decide +kernel
theorem dX6_net_163 : decode cX6_net 163 = .ok (.iload 8, 2) := by decide +kernel
theorem dX6_net_165 : decode cX6_net 165 = .ok (.iconst 1, 1) := by decide +kernel
theorem dX6_net_166 : decode cX6_net 166 = .ok (.iadd, 1) := by decide +kernel
theorem dX6_net_167 : decode cX6_net 167 = .ok (.iload_n 2, 1) := by decide +kernel
theorem dX6_net_168 : decode cX6_net 168 = .ok (.iastore, 1) := by decide +kernel
theorem dX6_net_169 : decode cX6_net 169 = .ok (.aload_n 0, 1) := by decide +kernel
theorem dX6_net_170 : decode cX6_net 170 = .ok (.getfield 7, 3) := by decide +kernel
theorem dX6_net_173 : decode cX6_net 173 = .ok (.iload 8, 2) := by decide +kernel
theorem dX6_net_175 : decode cX6_net 175 = .ok (.iconst 2, 1) := by decide +kernel
theorem dX6_net_176 : decode cX6_net 176 = .ok (.iadd, 1) := by decide +kernel
theorem dX6_net_177 : decode cX6_net 177 = .ok (.iload_n 3, 1) := by decide +kernel
theorem dX6_net_178 : decode cX6_net 178 = .ok (.iastore, 1) := by decide +kernel
theorem dX6_net_179 : decode cX6_net 179 = .ok (.aload_n 0, 1) := by decide +kernel
theorem dX6_net_180 : decode cX6_net 180 = .ok (.getfield 7, 3) := by decide +kernel
theorem dX6_net_183 : decode cX6_net 183 = .ok (.iload 8, 2) := by decide +kernel
theorem dX6_net_185 : decode cX6_net 185 = .ok (.iconst 3, 1) := by decide +kernel
theorem dX6_net_186 : decode cX6_net 186 = .ok (.iadd, 1) := by decide +kernel
theorem dX6_net_187 : decode cX6_net 187 = .ok (.iload 4, 2) := by decide +kernel
theorem dX6_net_189 : decode cX6_net 189 = .ok (.iastore, 1) := by decide +kernel
theorem dX6_net_190 : decode cX6_net 190 = .ok (.aload_n 0, 1) := by decide +kernel
theorem dX6_net_191 : decode cX6_net 191 = .ok (.getfield 7, 3) := by decide +kernel
theorem dX6_net_194 : decode cX6_net 194 = .ok (.iload 8, 2) := by decide +kernel
theorem dX6_net_196 : decode cX6_net 196 = .ok (.iconst 4, 1) := by decide +kernel
theorem dX6_net_197 : decode cX6_net 197 = .ok (.iadd, 1) := by decide +kernel
theorem dX6_net_198 : decode cX6_net 198 = .ok (.iload 5, 2) := by decide +kernel
theorem dX6_net_200 : decode cX6_net 200 = .ok (.iastore, 1) := by decide +kernel
theorem dX6_net_201 : decode cX6_net 201 = .ok (.iconst 0, 1) := by decide +kernel
theorem dX6_net_202 : decode cX6_net 202 = .ok (.istore 9, 2) := by decide +kernel
theorem dX6_net_204 : decode cX6_net 204 = .ok (.iload 9, 2) := by decide +kernel
theorem dX6_net_206 : decode cX6_net 206 = .ok (.iconst 3, 1) := by decide +kernel
theorem dX6_net_207 : decode cX6_net 207 = .ok (.if_icmp .ge 68, 3) := by decide +kernel
theorem dX6_net_210 : decode cX6_net 210 = .ok (.aload_n 0, 1) := by decide +kernel
theorem dX6_net_211 : decode cX6_net 211 = .ok (.getfield 7, 3) := by decide +kernel
theorem dX6_net_214 : decode cX6_net 214 = .ok (.iload 8, 2) := by decide +kernel
theorem dX6_net_216 : decode cX6_net 216 = .ok (.iload 9, 2) := by decide +kernel
theorem dX6_net_218 : decode cX6_net 218 = .ok (.iadd, 1) := by decide +kernel
theorem dX6_net_219 : decode cX6_net 219 = .ok (.iaload, 1) := by decide +kernel
theorem dX6_net_220 : decode cX6_net 220 = .ok (.ifCond .lt 49, 3) := by decide +kernel
theorem dX6_net_223 : decode cX6_net 223 = .ok (.aload_n 0, 1) := by decide +kernel
theorem dX6_net_224 : decode cX6_net 224 = .ok (.getfield 7, 3) := by decide +kernel
theorem dX6_net_227 : decode cX6_net 227 = .ok (.bipush 7, 2) := by decide +kernel
theorem dX6_net_229 : decode cX6_net 229 = .ok (.aload_n 0, 1) := by decide +kernel
theorem dX6_net_230 : decode cX6_net 230 = .ok (.getfield 7, 3) := by decide +kernel
theorem dX6_net_233 : decode cX6_net 233 = .ok (.iload 8, 2) := by decide +kernel
theorem dX6_net_235 : decode cX6_net 235 = .ok (.iload 9, 2) := by decide +kernel
theorem dX6_net_237 : decode cX6_net 237 = .ok (.iadd, 1) := by decide +kernel
theorem dX6_net_238 : decode cX6_net 238 = .ok (.iaload, 1) := by decide +kernel
theorem dX6_net_239 : decode cX6_net 239 = .ok (.iadd, 1) := by decide +kernel
theorem dX6_net_240 : decode cX6_net 240 = .ok (.bipush 11, 2) := by decide +kernel
theorem dX6_net_242 : decode cX6_net 242 = .ok (.iload 7, 2) := by decide +kernel
theorem dX6_net_244 : decode cX6_net 244 = .ok (.iadd, 1) := by decide +kernel
theorem dX6_net_245 : decode cX6_net 245 = .ok (.iastore, 1) := by decide +kernel
theorem dX6_net_246 : decode cX6_net 246 = .ok (.aload_n 0, 1) := by decide +kernel
theorem dX6_net_247 : decode cX6_net 247 = .ok (.getfield 7, 3) := by decide +kernel
theorem dX6_net_250 : decode cX6_net 250 = .ok (.bipush 88, 2) := by decide +kernel
theorem dX6_net_252 : decode cX6_net 252 = .ok (.aload_n 0, 1) := by decide +kernel
theorem dX6_net_253 : decode cX6_net 253 = .ok (.getfield 7, 3) := by decide +kernel
theorem dX6_net_256 : decode cX6_net 256 = .ok (.iload 8, 2) := by decide +kernel
theorem dX6_net_258 : decode cX6_net 258 = .ok (.iload 9, 2) := by decide +kernel
theorem dX6_net_260 : decode cX6_net 260 = .ok (.iadd, 1) := by decide +kernel
theorem dX6_net_261 : decode cX6_net 261 = .ok (.iaload, 1) := by decide +kernel
theorem dX6_net_262 : decode cX6_net 262 = .ok (.iadd, 1) := by decide +kernel
theorem dX6_net_263 : decode cX6_net 263 = .ok (.bipush 11, 2) := by decide +kernel
theorem dX6_net_265 : decode cX6_net 265 = .ok (.iload 7, 2) := by decide +kernel
theorem dX6_net_267 : decode cX6_net 267 = .ok (.iadd, 1) := by decide +kernel
theorem dX6_net_268 : decode cX6_net 268 = .ok (.iastore, 1) := by decide +kernel
theorem dX6_net_269 : decode cX6_net 269 = .ok (.iinc 9 1, 3) := by decide +kernel
theorem dX6_net_272 : decode cX6_net 272 = .ok (.goto (-68), 3) := by decide +kernel
theorem dX6_net_275 : decode cX6_net 275 = .ok (.aload_n 0, 1) := by decide +kernel
theorem dX6_net_276 : decode cX6_net 276 = .ok (.getfield 7, 3) := by decide +kernel
theorem dX6_net_279 : decode cX6_net 279 = .ok (.iconst 5, 1) := by decide +kernel
theorem dX6_net_280 : decode cX6_net 280 = .ok (.dup2, 1) := by decide +kernel
theorem dX6_net_281 : decode cX6_net 281 = .ok (.iaload, 1) := by decide +kernel
theorem dX6_net_282 : decode cX6_net 282 = .ok (.iconst 1, 1) := by decide +kernel
theorem dX6_net_283 : decode cX6_net 283 = .ok (.iadd, 1) := by decide +kernel
theorem dX6_net_284 : decode cX6_net 284 = .ok (.iastore, 1) := by decide +kernel
theorem dX6_net_285 : decode cX6_net 285 = .ok (.aload_n 0, 1) := by decide +kernel
theorem dX6_net_286 : decode cX6_net 286 = .ok (.iload 7, 2) := by decide +kernel
theorem dX6_net_288 : decode cX6_net 288 = .ok (.invokevirtual 65, 3) := by decide +kernel
theorem dX6_net_291 : decode cX6_net 291 = .ok (.ireturn, 1) := by decide +kernel
abbrev rmX6_net : Room := { frames := 1, cells := 0, slots := 0, locals := 22 }
set_option maxRecDepth 20000 in
theorem in_X6_net_X6 : ∀ w ∈ wsX60, w ∈ wsX6_net := by decide +kernel

set_option maxRecDepth 100000 in
set_option maxHeartbeats 16000000 in
theorem c_X6_net {l : Launch} {g : Geo} {M : Nat → Nat → Int32} {P : Nat → Nat} {N K B : Nat} (hI : InvX eM (M 159) N K B) (hZ : Zn (M 159) N) {many at_ : Nat} (hm : M 158 5 = nI many) (hm4 : many ≤ 4) (hat : M 158 6 = nI at_) (hat4 : at_ < 4) {p0 p1 p2 t u : Int32} : Met l yX6_net wsX6_net rmX6_net (cPre g [.ref (g.1 158), .int p0, .int p1, .int p2, .int t, .int u] M P) (cQi g (fun r M' P' => P = P' ∧ FrM M M' ∧ KpM many at_ (M 159) M r M' ∧ netQ eM (M 159) N p0 p1 p2 t u r (M' 159))) 0 0 (gA g) := by
  refine met_i (cc := cX6_net) (maxL := 10) (by decide) rfl ⟨rfl, rfl⟩ (Nat.le_of_ble_eq_true rfl) (fun x hx h hret => ?_)
  replace h : Cxk x g cX6_net 10 wsX6_net RX6 rmX6_net := h
  show X x 0 [(0, .ref (g.1 158)), (1, .int p0), (2, .int p1), (3, .int p2), (4, .int t), (5, .int u)] [] M P
  have hN := hI.1.1
  have hN6 := hI.1.2.1
  have hK := hI.1.2.2.1
  have hK12 := hI.1.2.2.2.1
  refine x_iload_n h 1 dX6_net_0 rfl rfl ?_
  refine x_iconst h (nI 0) dX6_net_1 (by decide) ?_
  refine x_bipush h (nI 80) dX6_net_2 (by decide) ?_
  refine x_callS h (As := [.int p0, .int (nI 0), .int (nI 80)]) 3 hx (c_X6_in) gX6_net_X6_in rfl ⟨rfl, rfl⟩ (by decide +kernel) rfl (by decide) (Nat.le_of_ble_eq_true rfl) dX6_net_4 (fun rv M' P' hp => ?_)
  obtain ⟨⟨rfl, rfl⟩, hp⟩ := hp
  rcases hp with ⟨iy4, rfl⟩ | ⟨in4, rfl⟩
  · -- in
    obtain ⟨k4, hk4, rfl⟩ := (InR_in2 (N := 80) (by omega)).mp iy4
    refine x_if_eq h 72 dX6_net_7 (by decide) (fun c => absurd c (by decide)) (fun _ => ?_)
    refine x_iload_n h 2 dX6_net_10 rfl rfl ?_
    refine x_iconst h (nI 0) dX6_net_11 (by decide) ?_
    refine x_bipush h (nI 80) dX6_net_12 (by decide) ?_
    refine x_callS h (As := [.int p1, .int (nI 0), .int (nI 80)]) 3 hx (c_X6_in) gX6_net_X6_in rfl ⟨rfl, rfl⟩ (by decide +kernel) rfl (by decide) (Nat.le_of_ble_eq_true rfl) dX6_net_14 (fun rv M' P' hp => ?_)
    obtain ⟨⟨rfl, rfl⟩, hp⟩ := hp
    rcases hp with ⟨iy14, rfl⟩ | ⟨in14, rfl⟩
    · -- in
      obtain ⟨k14, hk14, rfl⟩ := (InR_in2 (N := 80) (by omega)).mp iy14
      refine x_if_eq h 72 dX6_net_17 (by decide) (fun c => absurd c (by decide)) (fun _ => ?_)
      refine x_iload_n h 3 dX6_net_20 rfl rfl ?_
      refine x_iconst h ((-1)) dX6_net_21 (by decide) ?_
      refine x_bipush h (nI 80) dX6_net_22 (by decide) ?_
      refine x_callS h (As := [.int p2, .int (-1), .int (nI 80)]) 3 hx (c_X6_in) gX6_net_X6_in rfl ⟨rfl, rfl⟩ (by decide +kernel) rfl (by decide) (Nat.le_of_ble_eq_true rfl) dX6_net_24 (fun rv M' P' hp => ?_)
      obtain ⟨⟨rfl, rfl⟩, hp⟩ := hp
      rcases hp with ⟨iy24, rfl⟩ | ⟨ni24, rfl⟩
      · -- in
        rcases in_m1.mp iy24 with rfl | ⟨k24, hk24, rfl⟩
        · -- none
          refine x_if_eq h 72 dX6_net_27 (by decide) (fun c => absurd c (by decide)) (fun _ => ?_)
          refine x_iload h 4 dX6_net_30 rfl ?_
          refine x_iconst h (nI 0) dX6_net_32 (by decide) ?_
          refine x_bipush h (nI 9) dX6_net_33 (by decide) ?_
          refine x_callS h (As := [.int t, .int (nI 0), .int (nI 9)]) 3 hx (c_X6_in) gX6_net_X6_in rfl ⟨rfl, rfl⟩ (by decide +kernel) rfl (by decide) (Nat.le_of_ble_eq_true rfl) dX6_net_35 (fun rv M' P' hp => ?_)
          obtain ⟨⟨rfl, rfl⟩, hp⟩ := hp
          rcases hp with ⟨i35, rfl⟩ | ⟨ni35, rfl⟩
          · -- call 35
            refine x_if_eq h 72 dX6_net_38 (by decide) (fun c => absurd c (by decide)) (fun _ => ?_)
            refine x_iload h 5 dX6_net_41 rfl ?_
            refine x_iconst h (nI 0) dX6_net_43 (by decide) ?_
            refine x_sipush h (nI 9999) dX6_net_44 (by decide) ?_
            refine x_callS h (As := [.int u, .int (nI 0), .int (nI 9999)]) 3 hx (c_X6_in) gX6_net_X6_in rfl ⟨rfl, rfl⟩ (by decide +kernel) rfl (by decide) (Nat.le_of_ble_eq_true rfl) dX6_net_47 (fun rv M' P' hp => ?_)
            obtain ⟨⟨rfl, rfl⟩, hp⟩ := hp
            rcases hp with ⟨i47, rfl⟩ | ⟨ni47, rfl⟩
            · -- call 47
              refine x_if_eq h 72 dX6_net_50 (by decide) (fun c => absurd c (by decide)) (fun _ => ?_)
              refine x_iload_n h 1 dX6_net_53 rfl rfl ?_
              refine x_iload_n h 2 dX6_net_54 rfl rfl ?_
              refine x_icmp_eq_n h 72 dX6_net_55 (by decide) (by omega) (by omega) (fun c_55 => ?_) (fun c_55 => ?_)
              · -- 55 true
                refine x_iconst h (nI 0) dX6_net_72 (by decide) ?_
                refine x_istore h [(6, .int (nI 0)), (0, .ref (g.1 158)), (1, .int (nI k4)), (2, .int (nI k14)), (3, .int (-1)), (4, .int t), (5, .int u)] dX6_net_73 (by decide) rfl ?_
                refine x_iload h 0 dX6_net_75 rfl ?_
                refine x_if_ne h 83 dX6_net_77 (by decide) (fun c => absurd c (by decide)) (fun _ => ?_)
                refine x_ldc h ((-1000001)) (by decide +kernel) dX6_net_80 ?_
                exact hret _ _ _ _ _ dX6_net_82 (by exact ⟨rfl, FrM_rf M, Or.inl ⟨by decide, rfl, hm, hat⟩, Or.inl ⟨fun q => (by first | exact nk4 q.1 | exact nk14 q.2.1 | exact ni24 (in_m1.mpr q.2.2.1) | exact ni35 ⟨Int32.not_lt.mp q.2.2.2.2.2.2.1, q.2.2.2.2.2.2.2.1⟩ | exact ni47 ⟨Int32.not_lt.mp q.2.2.2.2.2.2.2.2.1, q.2.2.2.2.2.2.2.2.2⟩ | exact q.2.2.2.1 (by rw [c_55]) | exact q.2.2.2.2.1 (by rw [c_60]) | exact q.2.2.2.2.2.1 (by rw [c_65])), rfl, rfl⟩⟩)
              · -- 55 false
                refine x_iload_n h 1 dX6_net_58 rfl rfl ?_
                refine x_iload_n h 3 dX6_net_59 rfl rfl ?_
                refine x_icmp_eq h 72 dX6_net_60 (by decide) (fun c_60 => by exact absurd c_60.symm (m1_ne (by omega))) (fun c_60 => ?_)
                refine x_iload_n h 2 dX6_net_63 rfl rfl ?_
                refine x_iload_n h 3 dX6_net_64 rfl rfl ?_
                refine x_icmp_eq h 72 dX6_net_65 (by decide) (fun c_65 => by exact absurd c_65.symm (m1_ne (by omega))) (fun c_65 => ?_)
                refine x_iconst h (nI 1) dX6_net_68 (by decide) ?_
                refine x_goto h 73 dX6_net_69 (by decide) ?_
                refine x_istore h [(6, .int (nI 1)), (0, .ref (g.1 158)), (1, .int (nI k4)), (2, .int (nI k14)), (3, .int (-1)), (4, .int t), (5, .int u)] dX6_net_73 (by decide) rfl ?_
                refine x_iload h 0 dX6_net_75 rfl ?_
                refine x_if_ne h 83 dX6_net_77 (by decide) (fun _ => ?_) (fun c => absurd c (by decide))
                refine x_aload_n h 1 dX6_net_83 rfl rfl ?_
                refine x_iload_n h 2 dX6_net_84 rfl rfl ?_
                refine x_callV h (As := [.int (nI k4)]) 1 hx (c_X6_isFree (by omega)) gX6_net_X6_isFree rfl ⟨rfl, rfl⟩ (by decide +kernel) rfl (by decide) (by decide) E_158 rfl rfl (Nat.le_of_ble_eq_true rfl) dX6_net_85 (fun rv M' P' hp => ?_)
                obtain ⟨⟨rfl, rfl⟩, hp⟩ := hp
                rcases hp with ⟨f85, rfl⟩ | ⟨nf85, rfl⟩
                · -- call 85
                  refine x_if_eq h 111 dX6_net_88 (by decide) (fun c => absurd c (by decide)) (fun _ => ?_)
                  refine x_aload_n h 1 dX6_net_91 rfl rfl ?_
                  refine x_iload_n h 3 dX6_net_92 rfl rfl ?_
                  refine x_callV h (As := [.int (nI k14)]) 1 hx (c_X6_isFree (by omega)) gX6_net_X6_isFree rfl ⟨rfl, rfl⟩ (by decide +kernel) rfl (by decide) (by decide) E_158 rfl rfl (Nat.le_of_ble_eq_true rfl) dX6_net_93 (fun rv M' P' hp => ?_)
                  obtain ⟨⟨rfl, rfl⟩, hp⟩ := hp
                  rcases hp with ⟨f93, rfl⟩ | ⟨nf93, rfl⟩
                  · -- call 93
                    refine x_if_eq h 111 dX6_net_96 (by decide) (fun c => absurd c (by decide)) (fun _ => ?_)
                    refine x_iload_n h 4 dX6_net_99 rfl rfl ?_
                    refine x_if_lt h 114 dX6_net_100 (by decide) (fun _ => ?_) (fun c => absurd (by decide) c)
                    refine x_aload_n h 1 dX6_net_114 rfl rfl ?_
                    refine xg_X6_0 h in_X6_net_X6 (by decide +kernel) dX6_net_115 ?_
                    refine x_iconst h (nI 5) dX6_net_118 (by decide) ?_
                    refine xl_159 h dX6_net_119 (by decide) ?_
                    refine x_top (nI N) (hN) ?_
                    refine x_bipush h (nI 6) dX6_net_120 (by decide) ?_
                    refine x_icmp_ne_n h 128 dX6_net_122 (by decide) (by omega) (by decide) (fun c_122 => ?_) (fun c_122 => ?_)
                    · -- 122 true
                      refine x_aload_n h 1 dX6_net_128 rfl rfl ?_
                      refine x_callVv h (As := []) 0 hx (c_X6_copy) gX6_net_X6_copy rfl ⟨rfl, rfl⟩ (by decide +kernel) rfl (by decide) (by decide) E_158 rfl rfl (Nat.le_of_ble_eq_true rfl) dX6_net_129 (fun Mc P' hp => ?_)
                      obtain ⟨rfl, hMc⟩ := hp
                      have hC : Ch M Mc := by rw [hMc]; exact Ch_copy M
                      have hc9 : Mc 159 = M 159 := by rw [hMc, va_up_n _ _ (by decide)]
                      refine x_aload_n h 1 dX6_net_132 rfl rfl ?_
                      refine xg_X6_0 h in_X6_net_X6 (by decide +kernel) dX6_net_133 ?_
                      refine x_iconst h (nI 5) dX6_net_136 (by decide) ?_
                      refine xl_159 h dX6_net_137 (by decide) ?_
                      refine x_top (nI N) (by rw [hc9]; exact hN) ?_
                      refine x_istore h [(7, .int (nI N)), (6, .int (nI 1)), (0, .ref (g.1 158)), (1, .int (nI k4)), (2, .int (nI k14)), (3, .int (-1)), (4, .int t), (5, .int u)] dX6_net_138 (by decide) rfl ?_
                      refine x_sipush h (nI 169) dX6_net_140 (by decide) ?_
                      refine x_bipush h (nI 9) dX6_net_143 (by decide) ?_
                      refine x_iload h 0 dX6_net_145 rfl ?_
                      refine x_imul_n h dX6_net_147 ?_
                      refine x_iadd_n h dX6_net_148 ?_
                      refine x_istore h [(8, .int (nI (169 + (9 * N)))), (7, .int (nI N)), (6, .int (nI 1)), (0, .ref (g.1 158)), (1, .int (nI k4)), (2, .int (nI k14)), (3, .int (-1)), (4, .int t), (5, .int u)] dX6_net_149 (by decide) rfl ?_
                      refine x_aload_n h 3 dX6_net_151 rfl rfl ?_
                      refine xg_X6_0 h in_X6_net_X6 (by decide +kernel) dX6_net_152 ?_
                      refine x_iload h 0 dX6_net_155 rfl ?_
                      refine x_iload_n h 4 dX6_net_157 rfl rfl ?_
                      refine xs_159 h dX6_net_158 (by omega) ?_
                      refine x_aload_n h 3 dX6_net_159 rfl rfl ?_
                      refine xg_X6_0 h in_X6_net_X6 (by decide +kernel) dX6_net_160 ?_
                      refine x_iload h 0 dX6_net_163 rfl ?_
                      refine x_iconst h (nI 1) dX6_net_165 (by decide) ?_
                      refine x_iadd_n h dX6_net_166 ?_
                      refine x_iload_n h 5 dX6_net_167 rfl rfl ?_
                      refine xs_159 h dX6_net_168 (by omega) ?_
                      refine x_aload_n h 3 dX6_net_169 rfl rfl ?_
                      refine xg_X6_0 h in_X6_net_X6 (by decide +kernel) dX6_net_170 ?_
                      refine x_iload h 0 dX6_net_173 rfl ?_
                      refine x_iconst h (nI 2) dX6_net_175 (by decide) ?_
                      refine x_iadd_n h dX6_net_176 ?_
                      refine x_iload_n h 6 dX6_net_177 rfl rfl ?_
                      refine xs_159 h dX6_net_178 (by omega) ?_
                      refine x_aload_n h 3 dX6_net_179 rfl rfl ?_
                      refine xg_X6_0 h in_X6_net_X6 (by decide +kernel) dX6_net_180 ?_
                      refine x_iload h 0 dX6_net_183 rfl ?_
                      refine x_iconst h (nI 3) dX6_net_185 (by decide) ?_
                      refine x_iadd_n h dX6_net_186 ?_
                      refine x_iload h 7 dX6_net_187 rfl ?_
                      refine xs_159 h dX6_net_189 (by omega) ?_
                      refine x_aload_n h 3 dX6_net_190 rfl rfl ?_
                      refine xg_X6_0 h in_X6_net_X6 (by decide +kernel) dX6_net_191 ?_
                      refine x_iload h 0 dX6_net_194 rfl ?_
                      refine x_iconst h (nI 4) dX6_net_196 (by decide) ?_
                      refine x_iadd_n h dX6_net_197 ?_
                      refine x_iload h 8 dX6_net_198 rfl ?_
                      refine xs_159 h dX6_net_200 (by omega) ?_
                      obtain ⟨o2, ho2e⟩ : ∃ o2 : Option Nat, o2 = none := ⟨_, rfl⟩
                      have ho2 : ∀ q, o2 = some q → q < 81 := fun q e => by rw [ho2e] at e; cases e
                      obtain ⟨R0, hR0⟩ : ∃ R0 : Nat → Int32, R0 = mRow (M 159) N (nI k4) (nI k14) (-1) t u := ⟨_, rfl⟩
                      obtain ⟨W0, hW0⟩ : ∃ q : Nat → Nat → Int32, q = st2 (st2 (st2 (st2 (st2 Mc 159 (169 + (9 * N)) (nI k4)) 159 ((169 + (9 * N)) + 1) (nI k14)) 159 ((169 + (9 * N)) + 2) (-1)) 159 ((169 + (9 * N)) + 3) t) 159 ((169 + (9 * N)) + 4) u := ⟨_, rfl⟩
                      refine x_mem W0 hW0.symm ?_
                      have hW9 : W0 159 = R0 := by rw [hW0, hR0]; simp only [st2_k, hc9]; rfl
                      have hCh0 : Ch M W0 := by rw [hW0]; (repeat apply Ch_s); exact hC
                      have hRp : ∀ k, k < 3 → R0 (169 + 9 * N + k) = pnA k4 k14 o2 k := fun k hk => by
                        rw [hR0, ho2e]; unfold mRow pnA
                        rcases (show k = 0 ∨ k = 1 ∨ k = 2 by omega) with rfl | rfl | rfl <;> (try simp only [Nat.add_zero]) <;> (repeat first | rw [pk_us] | rw [pk_un (by omega)]) <;> rfl
                      refine x_iconst h (nI 0) dX6_net_201 (by decide) ?_
                      refine x_istore h [(9, .int (nI 0)), (8, .int (nI (169 + (9 * N)))), (7, .int (nI N)), (6, .int (nI 1)), (0, .ref (g.1 158)), (1, .int (nI k4)), (2, .int (nI k14)), (3, .int (-1)), (4, .int t), (5, .int u)] dX6_net_202 (by decide) rfl ?_
                      have L204 : ∀ (fu : Nat) (k : Nat) (W : Nat → Nat → Int32), (3 - k) < fu → (k ≤ 3) → (Ch M W) → (W 159 = pnF k4 k14 o2 N k R0) → X x 204 [(0, .ref (g.1 158)), (7, .int (nI N)), (8, .int (nI (169 + 9 * N))), (9, .int (nI k))] [] W P := by
                        intro fu
                        induction fu with
                        | zero => intro k W hmu204; exact absurd hmu204 (Nat.not_lt_zero _)
                        | succ fu ih204 =>
                          intro k W hmu204 hk hCh hW
                          refine x_iload h 3 dX6_net_204 rfl ?_
                          refine x_iconst h (nI 3) dX6_net_206 (by decide) ?_
                          refine x_icmp_ge_n h 275 dX6_net_207 (by decide) (by omega) (by decide) (fun c_207 => ?_) (fun c_207 => ?_)
                          · -- 207 true
                            obtain rfl : k = 3 := by omega
                            refine x_aload_n h 0 dX6_net_275 rfl rfl ?_
                            refine xg_X6_0 h in_X6_net_X6 (by decide +kernel) dX6_net_276 ?_
                            refine x_iconst h (nI 5) dX6_net_279 (by decide) ?_
                            refine x_dup2 h dX6_net_280 rfl rfl ?_
                            refine xl_159 h dX6_net_281 (by decide) ?_
                            refine x_top (nI N) (by rw [hW, pnF_r (by omega) (by omega) ho2 (by omega), hR0]; unfold mRow; (repeat rw [pk_un (by omega)]); exact hN) ?_
                            refine x_iconst h (nI 1) dX6_net_282 (by decide) ?_
                            refine x_iadd_n h dX6_net_283 ?_
                            refine xs_159 h dX6_net_284 (by decide) ?_
                            obtain ⟨W1, hW1⟩ : ∃ q : Nat → Nat → Int32, q = st2 W 159 5 (nI (N + 1)) := ⟨_, rfl⟩
                            refine x_mem W1 hW1.symm ?_
                            replace hCh : Ch M W1 := by rw [hW1]; exact Ch_s _ _ hCh
                            have hWf : W1 159 = upd (pnF k4 k14 o2 N 3 R0) 5 (nI (N + 1)) := by rw [hW1, st2_k, hW]
                            rw [hR0] at hWf
                            refine x_aload_n h 0 dX6_net_285 rfl rfl ?_
                            refine x_iload h 1 dX6_net_286 rfl ?_
                            refine x_callV h (As := [.int (nI N)]) 1 hx (c_X6_recorded ((hCh.2.2 5 (by decide)).trans hm) hm4 ((hCh.2.2 6 (by decide)).trans hat) hat4) gX6_net_X6_recorded rfl ⟨rfl, rfl⟩ (by decide +kernel) rfl (by decide) (by decide) E_158 rfl rfl (Nat.le_of_ble_eq_true rfl) dX6_net_288 (fun rv Mr P' hp => ?_)
                            obtain ⟨rfl, rfl, hrec⟩ := hp
                            obtain ⟨f1, f2, f3⟩ := rec_mk hCh hm hat hrec
                            exact hret _ _ _ _ _ dX6_net_291 (by 
                                                              have hgd : netGood (nI k4) (nI k14) (-1) t u := ⟨⟨k4, by omega, rfl⟩, ⟨k14, by omega, rfl⟩, Or.inl rfl, (fun e => c_55 ((nI_eq (by omega) (by omega)).mp e)), (fun e => m1_ne (by omega) e.symm), (fun e => m1_ne (by omega) e.symm), Int32.not_lt.mpr i35.1, i35.2, Int32.not_lt.mpr i47.1, i47.2⟩
                                                              have hfr : FPe eM (M 159) (nI k4) ∧ FPe eM (M 159) (nI k14) ∧ ((-1 : Int32) = -1 ∨ FPe eM (M 159) (-1)) := ⟨(⟨k4, by omega, rfl, f85.1, f85.2⟩ : FPe eM (M 159) (nI k4)), (⟨k14, by omega, rfl, f93.1, f93.2⟩ : FPe eM (M 159) (nI k14)), Or.inl rfl⟩
                                                              have heq := f3.trans (net_eq (by omega) hZ (pnF k4 k14 o2 N 3) (fun X j hj => pnF_r (by omega) (by omega) ho2 hj) (fun X Y j h => pnF_cg h) hWf)
                                                              rw [ho2e] at heq
                                                              exact ⟨rfl, f1, f2, Or.inr ⟨hgd, Or.inr ⟨hfr, Or.inr ⟨by omega, rfl, k4, k14, by omega, by omega, rfl, rfl, (Or.inl ⟨rfl, heq⟩)⟩⟩⟩⟩)
                          · -- 207 false
                            refine x_aload_n h 0 dX6_net_210 rfl rfl ?_
                            refine xg_X6_0 h in_X6_net_X6 (by decide +kernel) dX6_net_211 ?_
                            refine x_iload h 2 dX6_net_214 rfl ?_
                            refine x_iload h 3 dX6_net_216 rfl ?_
                            refine x_iadd_n h dX6_net_218 ?_
                            refine xl_159 h dX6_net_219 (by omega) ?_
                            refine x_top ((pnA k4 k14 o2 k)) (by rw [hW, pnF_r (by omega) (by omega) ho2 (by omega)]; exact hRp k (by omega)) ?_
                            refine x_if_lt h 269 dX6_net_220 (by decide) (fun c_220 => ?_) (fun c_220 => ?_)
                            · -- 220 true
                              have hk3 : k < 3 := by omega
                              have hpq := c_220
                              refine x_iinc_n h 3 (n := 1) [(9, .int (nI (k + 1))), (0, .ref (g.1 158)), (7, .int (nI N)), (8, .int (nI (169 + 9 * N)))] dX6_net_269 rfl (by decide) rfl ?_
                              refine x_goto h 204 dX6_net_272 (by decide) ?_
                              exact x_lv (ih204 (k + 1) W (by omega) (by omega) (by first | exact Ch_s _ _ (Ch_s _ _ hCh) | exact hCh) (by first | (rw [show 88 + pq = 7 + (pq + 81) by omega, st2_k, st2_k, hW]; exact pnF_s hk3 (by omega) (by omega) (fun z e => by have := ho2 z e; omega) (by omega) hpq) | (rw [hW]; exact pnF_n hk3 (by omega) (by omega) (fun z e => by have := ho2 z e; omega) hpq))) [1, 2, 3, 0] rfl
                            · -- 220 false
                              have hk3 : k < 3 := by omega
                              obtain ⟨pq, hpq9, hpq⟩ := pnA_of (by omega) (by omega) ho2 c_220
                              refine x_aload_n h 0 dX6_net_223 rfl rfl ?_
                              refine xg_X6_0 h in_X6_net_X6 (by decide +kernel) dX6_net_224 ?_
                              refine x_bipush h (nI 7) dX6_net_227 (by decide) ?_
                              refine x_aload_n h 0 dX6_net_229 rfl rfl ?_
                              refine xg_X6_0 h in_X6_net_X6 (by decide +kernel) dX6_net_230 ?_
                              refine x_iload h 2 dX6_net_233 rfl ?_
                              refine x_iload h 3 dX6_net_235 rfl ?_
                              refine x_iadd_n h dX6_net_237 ?_
                              refine xl_159 h dX6_net_238 (by omega) ?_
                              refine x_top (nI pq) (by rw [hW, pnF_r (by omega) (by omega) ho2 (by omega), hRp k (by omega)]; exact hpq) ?_
                              refine x_iadd_n h dX6_net_239 ?_
                              refine x_bipush h (nI 11) dX6_net_240 (by decide) ?_
                              refine x_iload h 1 dX6_net_242 rfl ?_
                              refine x_iadd_n h dX6_net_244 ?_
                              refine xs_159 h dX6_net_245 (by omega) ?_
                              refine x_aload_n h 0 dX6_net_246 rfl rfl ?_
                              refine xg_X6_0 h in_X6_net_X6 (by decide +kernel) dX6_net_247 ?_
                              refine x_bipush h (nI 88) dX6_net_250 (by decide) ?_
                              refine x_aload_n h 0 dX6_net_252 rfl rfl ?_
                              refine xg_X6_0 h in_X6_net_X6 (by decide +kernel) dX6_net_253 ?_
                              refine x_iload h 2 dX6_net_256 rfl ?_
                              refine x_iload h 3 dX6_net_258 rfl ?_
                              refine x_iadd_n h dX6_net_260 ?_
                              refine xl_159 h dX6_net_261 (by omega) ?_
                              refine x_top (nI pq) (by rw [st2_k, pk_un (by omega), hW, pnF_r (by omega) (by omega) ho2 (by omega), hRp k (by omega)]; exact hpq) ?_
                              refine x_iadd_n h dX6_net_262 ?_
                              refine x_bipush h (nI 11) dX6_net_263 (by decide) ?_
                              refine x_iload h 1 dX6_net_265 rfl ?_
                              refine x_iadd_n h dX6_net_267 ?_
                              refine xs_159 h dX6_net_268 (by omega) ?_
                              refine x_iinc_n h 3 (n := 1) [(9, .int (nI (k + 1))), (0, .ref (g.1 158)), (7, .int (nI N)), (8, .int (nI (169 + 9 * N)))] dX6_net_269 rfl (by decide) rfl ?_
                              refine x_goto h 204 dX6_net_272 (by decide) ?_
                              exact x_lv (ih204 (k + 1) (st2 (st2 W 159 (7 + pq) (nI (11 + N))) 159 (88 + pq) (nI (11 + N))) (by omega) (by omega) (by first | exact Ch_s _ _ (Ch_s _ _ hCh) | exact hCh) (by first | (rw [show 88 + pq = 7 + (pq + 81) by omega, st2_k, st2_k, hW]; exact pnF_s hk3 (by omega) (by omega) (fun z e => by have := ho2 z e; omega) (by omega) hpq) | (rw [hW]; exact pnF_n hk3 (by omega) (by omega) (fun z e => by have := ho2 z e; omega) hpq))) [1, 2, 3, 0] rfl
                      exact x_lv (L204 _ 0 W0 (Nat.lt_succ_self _) (by omega) (by exact hCh0) (by exact hW9)) [4, 2, 1, 0] rfl
                    · -- 122 false
                      refine x_ldc h ((-1000003)) (by decide +kernel) dX6_net_125 ?_
                      exact hret _ _ _ _ _ dX6_net_127 (by 
                                                  have hgd : netGood (nI k4) (nI k14) (-1) t u := ⟨⟨k4, by omega, rfl⟩, ⟨k14, by omega, rfl⟩, Or.inl rfl, (fun e => c_55 ((nI_eq (by omega) (by omega)).mp e)), (fun e => m1_ne (by omega) e.symm), (fun e => m1_ne (by omega) e.symm), Int32.not_lt.mpr i35.1, i35.2, Int32.not_lt.mpr i47.1, i47.2⟩
                                                  have hfr : FPe eM (M 159) (nI k4) ∧ FPe eM (M 159) (nI k14) ∧ ((-1 : Int32) = -1 ∨ FPe eM (M 159) (-1)) := ⟨(⟨k4, by omega, rfl, f85.1, f85.2⟩ : FPe eM (M 159) (nI k4)), (⟨k14, by omega, rfl, f93.1, f93.2⟩ : FPe eM (M 159) (nI k14)), Or.inl rfl⟩
                                                  exact ⟨rfl, FrM_rf M, Or.inl ⟨by decide, rfl, hm, hat⟩, Or.inr ⟨hgd, Or.inr ⟨hfr, Or.inl ⟨by omega, rfl, rfl⟩⟩⟩⟩)
                  · -- call 93
                    refine x_if_eq h 111 dX6_net_96 (by decide) (fun _ => ?_) (fun c => absurd (by decide) c)
                    refine x_ldc h ((-1000002)) (by decide +kernel) dX6_net_111 ?_
                    exact hret _ _ _ _ _ dX6_net_113 (by 
                                              have hgd : netGood (nI k4) (nI k14) (-1) t u := ⟨⟨k4, by omega, rfl⟩, ⟨k14, by omega, rfl⟩, Or.inl rfl, (fun e => c_55 ((nI_eq (by omega) (by omega)).mp e)), (fun e => m1_ne (by omega) e.symm), (fun e => m1_ne (by omega) e.symm), Int32.not_lt.mpr i35.1, i35.2, Int32.not_lt.mpr i47.1, i47.2⟩
                                              exact ⟨rfl, FrM_rf M, Or.inl ⟨by decide, rfl, hm, hat⟩, Or.inr ⟨hgd, Or.inl ⟨fun q => (by first | exact (fun z : FPe eM (M 159) (nI k4) => nf85 (by obtain ⟨z1, z2, z3, z4⟩ := z; obtain rfl := (nI_eq (by omega) (by omega)).mp z3; exact z4)) q.1 | exact (fun z : FPe eM (M 159) (nI k14) => nf93 (by obtain ⟨z1, z2, z3, z4⟩ := z; obtain rfl := (nI_eq (by omega) (by omega)).mp z3; exact z4)) q.2.1 | exact q.2.2.elim (fun e => m1_ne (by omega) e.symm) (fun z : FPe eM (M 159) (nI k24) => nf105 (by obtain ⟨z1, z2, z3, z4⟩ := z; obtain rfl := (nI_eq (by omega) (by omega)).mp z3; exact z4))), rfl, rfl⟩⟩⟩)
                · -- call 85
                  refine x_if_eq h 111 dX6_net_88 (by decide) (fun _ => ?_) (fun c => absurd (by decide) c)
                  refine x_ldc h ((-1000002)) (by decide +kernel) dX6_net_111 ?_
                  exact hret _ _ _ _ _ dX6_net_113 (by 
                                          have hgd : netGood (nI k4) (nI k14) (-1) t u := ⟨⟨k4, by omega, rfl⟩, ⟨k14, by omega, rfl⟩, Or.inl rfl, (fun e => c_55 ((nI_eq (by omega) (by omega)).mp e)), (fun e => m1_ne (by omega) e.symm), (fun e => m1_ne (by omega) e.symm), Int32.not_lt.mpr i35.1, i35.2, Int32.not_lt.mpr i47.1, i47.2⟩
                                          exact ⟨rfl, FrM_rf M, Or.inl ⟨by decide, rfl, hm, hat⟩, Or.inr ⟨hgd, Or.inl ⟨fun q => (by first | exact (fun z : FPe eM (M 159) (nI k4) => nf85 (by obtain ⟨z1, z2, z3, z4⟩ := z; obtain rfl := (nI_eq (by omega) (by omega)).mp z3; exact z4)) q.1 | exact (fun z : FPe eM (M 159) (nI k14) => nf93 (by obtain ⟨z1, z2, z3, z4⟩ := z; obtain rfl := (nI_eq (by omega) (by omega)).mp z3; exact z4)) q.2.1 | exact q.2.2.elim (fun e => m1_ne (by omega) e.symm) (fun z : FPe eM (M 159) (nI k24) => nf105 (by obtain ⟨z1, z2, z3, z4⟩ := z; obtain rfl := (nI_eq (by omega) (by omega)).mp z3; exact z4))), rfl, rfl⟩⟩⟩)
            · -- call 47
              refine x_if_eq h 72 dX6_net_50 (by decide) (fun _ => ?_) (fun c => absurd (by decide) c)
              refine x_iconst h (nI 0) dX6_net_72 (by decide) ?_
              refine x_istore h [(6, .int (nI 0)), (0, .ref (g.1 158)), (1, .int (nI k4)), (2, .int (nI k14)), (3, .int (-1)), (4, .int t), (5, .int u)] dX6_net_73 (by decide) rfl ?_
              refine x_iload h 0 dX6_net_75 rfl ?_
              refine x_if_ne h 83 dX6_net_77 (by decide) (fun c => absurd c (by decide)) (fun _ => ?_)
              refine x_ldc h ((-1000001)) (by decide +kernel) dX6_net_80 ?_
              exact hret _ _ _ _ _ dX6_net_82 (by exact ⟨rfl, FrM_rf M, Or.inl ⟨by decide, rfl, hm, hat⟩, Or.inl ⟨fun q => (by first | exact nk4 q.1 | exact nk14 q.2.1 | exact ni24 (in_m1.mpr q.2.2.1) | exact ni35 ⟨Int32.not_lt.mp q.2.2.2.2.2.2.1, q.2.2.2.2.2.2.2.1⟩ | exact ni47 ⟨Int32.not_lt.mp q.2.2.2.2.2.2.2.2.1, q.2.2.2.2.2.2.2.2.2⟩ | exact q.2.2.2.1 (by rw [c_55]) | exact q.2.2.2.2.1 (by rw [c_60]) | exact q.2.2.2.2.2.1 (by rw [c_65])), rfl, rfl⟩⟩)
          · -- call 35
            refine x_if_eq h 72 dX6_net_38 (by decide) (fun _ => ?_) (fun c => absurd (by decide) c)
            refine x_iconst h (nI 0) dX6_net_72 (by decide) ?_
            refine x_istore h [(6, .int (nI 0)), (0, .ref (g.1 158)), (1, .int (nI k4)), (2, .int (nI k14)), (3, .int (-1)), (4, .int t), (5, .int u)] dX6_net_73 (by decide) rfl ?_
            refine x_iload h 0 dX6_net_75 rfl ?_
            refine x_if_ne h 83 dX6_net_77 (by decide) (fun c => absurd c (by decide)) (fun _ => ?_)
            refine x_ldc h ((-1000001)) (by decide +kernel) dX6_net_80 ?_
            exact hret _ _ _ _ _ dX6_net_82 (by exact ⟨rfl, FrM_rf M, Or.inl ⟨by decide, rfl, hm, hat⟩, Or.inl ⟨fun q => (by first | exact nk4 q.1 | exact nk14 q.2.1 | exact ni24 (in_m1.mpr q.2.2.1) | exact ni35 ⟨Int32.not_lt.mp q.2.2.2.2.2.2.1, q.2.2.2.2.2.2.2.1⟩ | exact ni47 ⟨Int32.not_lt.mp q.2.2.2.2.2.2.2.2.1, q.2.2.2.2.2.2.2.2.2⟩ | exact q.2.2.2.1 (by rw [c_55]) | exact q.2.2.2.2.1 (by rw [c_60]) | exact q.2.2.2.2.2.1 (by rw [c_65])), rfl, rfl⟩⟩)
        · -- a third
          refine x_if_eq h 72 dX6_net_27 (by decide) (fun c => absurd c (by decide)) (fun _ => ?_)
          refine x_iload h 4 dX6_net_30 rfl ?_
          refine x_iconst h (nI 0) dX6_net_32 (by decide) ?_
          refine x_bipush h (nI 9) dX6_net_33 (by decide) ?_
          refine x_callS h (As := [.int t, .int (nI 0), .int (nI 9)]) 3 hx (c_X6_in) gX6_net_X6_in rfl ⟨rfl, rfl⟩ (by decide +kernel) rfl (by decide) (Nat.le_of_ble_eq_true rfl) dX6_net_35 (fun rv M' P' hp => ?_)
          obtain ⟨⟨rfl, rfl⟩, hp⟩ := hp
          rcases hp with ⟨i35, rfl⟩ | ⟨ni35, rfl⟩
          · -- call 35
            refine x_if_eq h 72 dX6_net_38 (by decide) (fun c => absurd c (by decide)) (fun _ => ?_)
            refine x_iload h 5 dX6_net_41 rfl ?_
            refine x_iconst h (nI 0) dX6_net_43 (by decide) ?_
            refine x_sipush h (nI 9999) dX6_net_44 (by decide) ?_
            refine x_callS h (As := [.int u, .int (nI 0), .int (nI 9999)]) 3 hx (c_X6_in) gX6_net_X6_in rfl ⟨rfl, rfl⟩ (by decide +kernel) rfl (by decide) (Nat.le_of_ble_eq_true rfl) dX6_net_47 (fun rv M' P' hp => ?_)
            obtain ⟨⟨rfl, rfl⟩, hp⟩ := hp
            rcases hp with ⟨i47, rfl⟩ | ⟨ni47, rfl⟩
            · -- call 47
              refine x_if_eq h 72 dX6_net_50 (by decide) (fun c => absurd c (by decide)) (fun _ => ?_)
              refine x_iload_n h 1 dX6_net_53 rfl rfl ?_
              refine x_iload_n h 2 dX6_net_54 rfl rfl ?_
              refine x_icmp_eq_n h 72 dX6_net_55 (by decide) (by omega) (by omega) (fun c_55 => ?_) (fun c_55 => ?_)
              · -- 55 true
                refine x_iconst h (nI 0) dX6_net_72 (by decide) ?_
                refine x_istore h [(6, .int (nI 0)), (0, .ref (g.1 158)), (1, .int (nI k4)), (2, .int (nI k14)), (3, .int (nI k24)), (4, .int t), (5, .int u)] dX6_net_73 (by decide) rfl ?_
                refine x_iload h 0 dX6_net_75 rfl ?_
                refine x_if_ne h 83 dX6_net_77 (by decide) (fun c => absurd c (by decide)) (fun _ => ?_)
                refine x_ldc h ((-1000001)) (by decide +kernel) dX6_net_80 ?_
                exact hret _ _ _ _ _ dX6_net_82 (by exact ⟨rfl, FrM_rf M, Or.inl ⟨by decide, rfl, hm, hat⟩, Or.inl ⟨fun q => (by first | exact nk4 q.1 | exact nk14 q.2.1 | exact ni24 (in_m1.mpr q.2.2.1) | exact ni35 ⟨Int32.not_lt.mp q.2.2.2.2.2.2.1, q.2.2.2.2.2.2.2.1⟩ | exact ni47 ⟨Int32.not_lt.mp q.2.2.2.2.2.2.2.2.1, q.2.2.2.2.2.2.2.2.2⟩ | exact q.2.2.2.1 (by rw [c_55]) | exact q.2.2.2.2.1 (by rw [c_60]) | exact q.2.2.2.2.2.1 (by rw [c_65])), rfl, rfl⟩⟩)
              · -- 55 false
                refine x_iload_n h 1 dX6_net_58 rfl rfl ?_
                refine x_iload_n h 3 dX6_net_59 rfl rfl ?_
                refine x_icmp_eq_n h 72 dX6_net_60 (by decide) (by omega) (by omega) (fun c_60 => ?_) (fun c_60 => ?_)
                · -- 60 true
                  refine x_iconst h (nI 0) dX6_net_72 (by decide) ?_
                  refine x_istore h [(6, .int (nI 0)), (0, .ref (g.1 158)), (1, .int (nI k4)), (2, .int (nI k14)), (3, .int (nI k24)), (4, .int t), (5, .int u)] dX6_net_73 (by decide) rfl ?_
                  refine x_iload h 0 dX6_net_75 rfl ?_
                  refine x_if_ne h 83 dX6_net_77 (by decide) (fun c => absurd c (by decide)) (fun _ => ?_)
                  refine x_ldc h ((-1000001)) (by decide +kernel) dX6_net_80 ?_
                  exact hret _ _ _ _ _ dX6_net_82 (by exact ⟨rfl, FrM_rf M, Or.inl ⟨by decide, rfl, hm, hat⟩, Or.inl ⟨fun q => (by first | exact nk4 q.1 | exact nk14 q.2.1 | exact ni24 (in_m1.mpr q.2.2.1) | exact ni35 ⟨Int32.not_lt.mp q.2.2.2.2.2.2.1, q.2.2.2.2.2.2.2.1⟩ | exact ni47 ⟨Int32.not_lt.mp q.2.2.2.2.2.2.2.2.1, q.2.2.2.2.2.2.2.2.2⟩ | exact q.2.2.2.1 (by rw [c_55]) | exact q.2.2.2.2.1 (by rw [c_60]) | exact q.2.2.2.2.2.1 (by rw [c_65])), rfl, rfl⟩⟩)
                · -- 60 false
                  refine x_iload_n h 2 dX6_net_63 rfl rfl ?_
                  refine x_iload_n h 3 dX6_net_64 rfl rfl ?_
                  refine x_icmp_eq_n h 72 dX6_net_65 (by decide) (by omega) (by omega) (fun c_65 => ?_) (fun c_65 => ?_)
                  · -- 65 true
                    refine x_iconst h (nI 0) dX6_net_72 (by decide) ?_
                    refine x_istore h [(6, .int (nI 0)), (0, .ref (g.1 158)), (1, .int (nI k4)), (2, .int (nI k14)), (3, .int (nI k24)), (4, .int t), (5, .int u)] dX6_net_73 (by decide) rfl ?_
                    refine x_iload h 0 dX6_net_75 rfl ?_
                    refine x_if_ne h 83 dX6_net_77 (by decide) (fun c => absurd c (by decide)) (fun _ => ?_)
                    refine x_ldc h ((-1000001)) (by decide +kernel) dX6_net_80 ?_
                    exact hret _ _ _ _ _ dX6_net_82 (by exact ⟨rfl, FrM_rf M, Or.inl ⟨by decide, rfl, hm, hat⟩, Or.inl ⟨fun q => (by first | exact nk4 q.1 | exact nk14 q.2.1 | exact ni24 (in_m1.mpr q.2.2.1) | exact ni35 ⟨Int32.not_lt.mp q.2.2.2.2.2.2.1, q.2.2.2.2.2.2.2.1⟩ | exact ni47 ⟨Int32.not_lt.mp q.2.2.2.2.2.2.2.2.1, q.2.2.2.2.2.2.2.2.2⟩ | exact q.2.2.2.1 (by rw [c_55]) | exact q.2.2.2.2.1 (by rw [c_60]) | exact q.2.2.2.2.2.1 (by rw [c_65])), rfl, rfl⟩⟩)
                  · -- 65 false
                    refine x_iconst h (nI 1) dX6_net_68 (by decide) ?_
                    refine x_goto h 73 dX6_net_69 (by decide) ?_
                    refine x_istore h [(6, .int (nI 1)), (0, .ref (g.1 158)), (1, .int (nI k4)), (2, .int (nI k14)), (3, .int (nI k24)), (4, .int t), (5, .int u)] dX6_net_73 (by decide) rfl ?_
                    refine x_iload h 0 dX6_net_75 rfl ?_
                    refine x_if_ne h 83 dX6_net_77 (by decide) (fun _ => ?_) (fun c => absurd c (by decide))
                    refine x_aload_n h 1 dX6_net_83 rfl rfl ?_
                    refine x_iload_n h 2 dX6_net_84 rfl rfl ?_
                    refine x_callV h (As := [.int (nI k4)]) 1 hx (c_X6_isFree (by omega)) gX6_net_X6_isFree rfl ⟨rfl, rfl⟩ (by decide +kernel) rfl (by decide) (by decide) E_158 rfl rfl (Nat.le_of_ble_eq_true rfl) dX6_net_85 (fun rv M' P' hp => ?_)
                    obtain ⟨⟨rfl, rfl⟩, hp⟩ := hp
                    rcases hp with ⟨f85, rfl⟩ | ⟨nf85, rfl⟩
                    · -- call 85
                      refine x_if_eq h 111 dX6_net_88 (by decide) (fun c => absurd c (by decide)) (fun _ => ?_)
                      refine x_aload_n h 1 dX6_net_91 rfl rfl ?_
                      refine x_iload_n h 3 dX6_net_92 rfl rfl ?_
                      refine x_callV h (As := [.int (nI k14)]) 1 hx (c_X6_isFree (by omega)) gX6_net_X6_isFree rfl ⟨rfl, rfl⟩ (by decide +kernel) rfl (by decide) (by decide) E_158 rfl rfl (Nat.le_of_ble_eq_true rfl) dX6_net_93 (fun rv M' P' hp => ?_)
                      obtain ⟨⟨rfl, rfl⟩, hp⟩ := hp
                      rcases hp with ⟨f93, rfl⟩ | ⟨nf93, rfl⟩
                      · -- call 93
                        refine x_if_eq h 111 dX6_net_96 (by decide) (fun c => absurd c (by decide)) (fun _ => ?_)
                        refine x_iload_n h 4 dX6_net_99 rfl rfl ?_
                        refine x_if_lt_n h 114 dX6_net_100 (by decide) (by omega) ?_
                        refine x_aload_n h 1 dX6_net_103 rfl rfl ?_
                        refine x_iload_n h 4 dX6_net_104 rfl rfl ?_
                        refine x_callV h (As := [.int (nI k24)]) 1 hx (c_X6_isFree (by omega)) gX6_net_X6_isFree rfl ⟨rfl, rfl⟩ (by decide +kernel) rfl (by decide) (by decide) E_158 rfl rfl (Nat.le_of_ble_eq_true rfl) dX6_net_105 (fun rv M' P' hp => ?_)
                        obtain ⟨⟨rfl, rfl⟩, hp⟩ := hp
                        rcases hp with ⟨f105, rfl⟩ | ⟨nf105, rfl⟩
                        · -- call 105
                          refine x_if_ne h 114 dX6_net_108 (by decide) (fun _ => ?_) (fun c => absurd c (by decide))
                          refine x_aload_n h 1 dX6_net_114 rfl rfl ?_
                          refine xg_X6_0 h in_X6_net_X6 (by decide +kernel) dX6_net_115 ?_
                          refine x_iconst h (nI 5) dX6_net_118 (by decide) ?_
                          refine xl_159 h dX6_net_119 (by decide) ?_
                          refine x_top (nI N) (hN) ?_
                          refine x_bipush h (nI 6) dX6_net_120 (by decide) ?_
                          refine x_icmp_ne_n h 128 dX6_net_122 (by decide) (by omega) (by decide) (fun c_122 => ?_) (fun c_122 => ?_)
                          · -- 122 true
                            refine x_aload_n h 1 dX6_net_128 rfl rfl ?_
                            refine x_callVv h (As := []) 0 hx (c_X6_copy) gX6_net_X6_copy rfl ⟨rfl, rfl⟩ (by decide +kernel) rfl (by decide) (by decide) E_158 rfl rfl (Nat.le_of_ble_eq_true rfl) dX6_net_129 (fun Mc P' hp => ?_)
                            obtain ⟨rfl, hMc⟩ := hp
                            have hC : Ch M Mc := by rw [hMc]; exact Ch_copy M
                            have hc9 : Mc 159 = M 159 := by rw [hMc, va_up_n _ _ (by decide)]
                            refine x_aload_n h 1 dX6_net_132 rfl rfl ?_
                            refine xg_X6_0 h in_X6_net_X6 (by decide +kernel) dX6_net_133 ?_
                            refine x_iconst h (nI 5) dX6_net_136 (by decide) ?_
                            refine xl_159 h dX6_net_137 (by decide) ?_
                            refine x_top (nI N) (by rw [hc9]; exact hN) ?_
                            refine x_istore h [(7, .int (nI N)), (6, .int (nI 1)), (0, .ref (g.1 158)), (1, .int (nI k4)), (2, .int (nI k14)), (3, .int (nI k24)), (4, .int t), (5, .int u)] dX6_net_138 (by decide) rfl ?_
                            refine x_sipush h (nI 169) dX6_net_140 (by decide) ?_
                            refine x_bipush h (nI 9) dX6_net_143 (by decide) ?_
                            refine x_iload h 0 dX6_net_145 rfl ?_
                            refine x_imul_n h dX6_net_147 ?_
                            refine x_iadd_n h dX6_net_148 ?_
                            refine x_istore h [(8, .int (nI (169 + (9 * N)))), (7, .int (nI N)), (6, .int (nI 1)), (0, .ref (g.1 158)), (1, .int (nI k4)), (2, .int (nI k14)), (3, .int (nI k24)), (4, .int t), (5, .int u)] dX6_net_149 (by decide) rfl ?_
                            refine x_aload_n h 3 dX6_net_151 rfl rfl ?_
                            refine xg_X6_0 h in_X6_net_X6 (by decide +kernel) dX6_net_152 ?_
                            refine x_iload h 0 dX6_net_155 rfl ?_
                            refine x_iload_n h 4 dX6_net_157 rfl rfl ?_
                            refine xs_159 h dX6_net_158 (by omega) ?_
                            refine x_aload_n h 3 dX6_net_159 rfl rfl ?_
                            refine xg_X6_0 h in_X6_net_X6 (by decide +kernel) dX6_net_160 ?_
                            refine x_iload h 0 dX6_net_163 rfl ?_
                            refine x_iconst h (nI 1) dX6_net_165 (by decide) ?_
                            refine x_iadd_n h dX6_net_166 ?_
                            refine x_iload_n h 5 dX6_net_167 rfl rfl ?_
                            refine xs_159 h dX6_net_168 (by omega) ?_
                            refine x_aload_n h 3 dX6_net_169 rfl rfl ?_
                            refine xg_X6_0 h in_X6_net_X6 (by decide +kernel) dX6_net_170 ?_
                            refine x_iload h 0 dX6_net_173 rfl ?_
                            refine x_iconst h (nI 2) dX6_net_175 (by decide) ?_
                            refine x_iadd_n h dX6_net_176 ?_
                            refine x_iload_n h 6 dX6_net_177 rfl rfl ?_
                            refine xs_159 h dX6_net_178 (by omega) ?_
                            refine x_aload_n h 3 dX6_net_179 rfl rfl ?_
                            refine xg_X6_0 h in_X6_net_X6 (by decide +kernel) dX6_net_180 ?_
                            refine x_iload h 0 dX6_net_183 rfl ?_
                            refine x_iconst h (nI 3) dX6_net_185 (by decide) ?_
                            refine x_iadd_n h dX6_net_186 ?_
                            refine x_iload h 7 dX6_net_187 rfl ?_
                            refine xs_159 h dX6_net_189 (by omega) ?_
                            refine x_aload_n h 3 dX6_net_190 rfl rfl ?_
                            refine xg_X6_0 h in_X6_net_X6 (by decide +kernel) dX6_net_191 ?_
                            refine x_iload h 0 dX6_net_194 rfl ?_
                            refine x_iconst h (nI 4) dX6_net_196 (by decide) ?_
                            refine x_iadd_n h dX6_net_197 ?_
                            refine x_iload h 8 dX6_net_198 rfl ?_
                            refine xs_159 h dX6_net_200 (by omega) ?_
                            obtain ⟨o2, ho2e⟩ : ∃ o2 : Option Nat, o2 = some k24 := ⟨_, rfl⟩
                            have ho2 : ∀ q, o2 = some q → q < 81 := fun q e => by rw [ho2e] at e; cases e; exact hk24
                            obtain ⟨R0, hR0⟩ : ∃ R0 : Nat → Int32, R0 = mRow (M 159) N (nI k4) (nI k14) (nI k24) t u := ⟨_, rfl⟩
                            obtain ⟨W0, hW0⟩ : ∃ q : Nat → Nat → Int32, q = st2 (st2 (st2 (st2 (st2 Mc 159 (169 + (9 * N)) (nI k4)) 159 ((169 + (9 * N)) + 1) (nI k14)) 159 ((169 + (9 * N)) + 2) (nI k24)) 159 ((169 + (9 * N)) + 3) t) 159 ((169 + (9 * N)) + 4) u := ⟨_, rfl⟩
                            refine x_mem W0 hW0.symm ?_
                            have hW9 : W0 159 = R0 := by rw [hW0, hR0]; simp only [st2_k, hc9]; rfl
                            have hCh0 : Ch M W0 := by rw [hW0]; (repeat apply Ch_s); exact hC
                            have hRp : ∀ k, k < 3 → R0 (169 + 9 * N + k) = pnA k4 k14 o2 k := fun k hk => by
                              rw [hR0, ho2e]; unfold mRow pnA
                              rcases (show k = 0 ∨ k = 1 ∨ k = 2 by omega) with rfl | rfl | rfl <;> (try simp only [Nat.add_zero]) <;> (repeat first | rw [pk_us] | rw [pk_un (by omega)]) <;> rfl
                            refine x_iconst h (nI 0) dX6_net_201 (by decide) ?_
                            refine x_istore h [(9, .int (nI 0)), (8, .int (nI (169 + (9 * N)))), (7, .int (nI N)), (6, .int (nI 1)), (0, .ref (g.1 158)), (1, .int (nI k4)), (2, .int (nI k14)), (3, .int (nI k24)), (4, .int t), (5, .int u)] dX6_net_202 (by decide) rfl ?_
                            have L204 : ∀ (fu : Nat) (k : Nat) (W : Nat → Nat → Int32), (3 - k) < fu → (k ≤ 3) → (Ch M W) → (W 159 = pnF k4 k14 o2 N k R0) → X x 204 [(0, .ref (g.1 158)), (7, .int (nI N)), (8, .int (nI (169 + 9 * N))), (9, .int (nI k))] [] W P := by
                              intro fu
                              induction fu with
                              | zero => intro k W hmu204; exact absurd hmu204 (Nat.not_lt_zero _)
                              | succ fu ih204 =>
                                intro k W hmu204 hk hCh hW
                                refine x_iload h 3 dX6_net_204 rfl ?_
                                refine x_iconst h (nI 3) dX6_net_206 (by decide) ?_
                                refine x_icmp_ge_n h 275 dX6_net_207 (by decide) (by omega) (by decide) (fun c_207 => ?_) (fun c_207 => ?_)
                                · -- 207 true
                                  obtain rfl : k = 3 := by omega
                                  refine x_aload_n h 0 dX6_net_275 rfl rfl ?_
                                  refine xg_X6_0 h in_X6_net_X6 (by decide +kernel) dX6_net_276 ?_
                                  refine x_iconst h (nI 5) dX6_net_279 (by decide) ?_
                                  refine x_dup2 h dX6_net_280 rfl rfl ?_
                                  refine xl_159 h dX6_net_281 (by decide) ?_
                                  refine x_top (nI N) (by rw [hW, pnF_r (by omega) (by omega) ho2 (by omega), hR0]; unfold mRow; (repeat rw [pk_un (by omega)]); exact hN) ?_
                                  refine x_iconst h (nI 1) dX6_net_282 (by decide) ?_
                                  refine x_iadd_n h dX6_net_283 ?_
                                  refine xs_159 h dX6_net_284 (by decide) ?_
                                  obtain ⟨W1, hW1⟩ : ∃ q : Nat → Nat → Int32, q = st2 W 159 5 (nI (N + 1)) := ⟨_, rfl⟩
                                  refine x_mem W1 hW1.symm ?_
                                  replace hCh : Ch M W1 := by rw [hW1]; exact Ch_s _ _ hCh
                                  have hWf : W1 159 = upd (pnF k4 k14 o2 N 3 R0) 5 (nI (N + 1)) := by rw [hW1, st2_k, hW]
                                  rw [hR0] at hWf
                                  refine x_aload_n h 0 dX6_net_285 rfl rfl ?_
                                  refine x_iload h 1 dX6_net_286 rfl ?_
                                  refine x_callV h (As := [.int (nI N)]) 1 hx (c_X6_recorded ((hCh.2.2 5 (by decide)).trans hm) hm4 ((hCh.2.2 6 (by decide)).trans hat) hat4) gX6_net_X6_recorded rfl ⟨rfl, rfl⟩ (by decide +kernel) rfl (by decide) (by decide) E_158 rfl rfl (Nat.le_of_ble_eq_true rfl) dX6_net_288 (fun rv Mr P' hp => ?_)
                                  obtain ⟨rfl, rfl, hrec⟩ := hp
                                  obtain ⟨f1, f2, f3⟩ := rec_mk hCh hm hat hrec
                                  exact hret _ _ _ _ _ dX6_net_291 (by 
                                                                          have hgd : netGood (nI k4) (nI k14) (nI k24) t u := ⟨⟨k4, by omega, rfl⟩, ⟨k14, by omega, rfl⟩, Or.inr ⟨k24, hk24, rfl⟩, (fun e => c_55 ((nI_eq (by omega) (by omega)).mp e)), (fun e => c_60 ((nI_eq (by omega) (by omega)).mp e)), (fun e => c_65 ((nI_eq (by omega) (by omega)).mp e)), Int32.not_lt.mpr i35.1, i35.2, Int32.not_lt.mpr i47.1, i47.2⟩
                                                                          have hfr : FPe eM (M 159) (nI k4) ∧ FPe eM (M 159) (nI k14) ∧ (nI k24 = -1 ∨ FPe eM (M 159) (nI k24)) := ⟨(⟨k4, by omega, rfl, f85.1, f85.2⟩ : FPe eM (M 159) (nI k4)), (⟨k14, by omega, rfl, f93.1, f93.2⟩ : FPe eM (M 159) (nI k14)), Or.inr (⟨k24, by omega, rfl, f105.1, f105.2⟩ : FPe eM (M 159) (nI k24))⟩
                                                                          have heq := f3.trans (net_eq (by omega) hZ (pnF k4 k14 o2 N 3) (fun X j hj => pnF_r (by omega) (by omega) ho2 hj) (fun X Y j h => pnF_cg h) hWf)
                                                                          rw [ho2e] at heq
                                                                          exact ⟨rfl, f1, f2, Or.inr ⟨hgd, Or.inr ⟨hfr, Or.inr ⟨by omega, rfl, k4, k14, by omega, by omega, rfl, rfl, (Or.inr ⟨k24, hk24, rfl, heq⟩)⟩⟩⟩⟩)
                                · -- 207 false
                                  refine x_aload_n h 0 dX6_net_210 rfl rfl ?_
                                  refine xg_X6_0 h in_X6_net_X6 (by decide +kernel) dX6_net_211 ?_
                                  refine x_iload h 2 dX6_net_214 rfl ?_
                                  refine x_iload h 3 dX6_net_216 rfl ?_
                                  refine x_iadd_n h dX6_net_218 ?_
                                  refine xl_159 h dX6_net_219 (by omega) ?_
                                  refine x_top ((pnA k4 k14 o2 k)) (by rw [hW, pnF_r (by omega) (by omega) ho2 (by omega)]; exact hRp k (by omega)) ?_
                                  refine x_if_lt h 269 dX6_net_220 (by decide) (fun c_220 => ?_) (fun c_220 => ?_)
                                  · -- 220 true
                                    have hk3 : k < 3 := by omega
                                    have hpq := c_220
                                    refine x_iinc_n h 3 (n := 1) [(9, .int (nI (k + 1))), (0, .ref (g.1 158)), (7, .int (nI N)), (8, .int (nI (169 + 9 * N)))] dX6_net_269 rfl (by decide) rfl ?_
                                    refine x_goto h 204 dX6_net_272 (by decide) ?_
                                    exact x_lv (ih204 (k + 1) W (by omega) (by omega) (by first | exact Ch_s _ _ (Ch_s _ _ hCh) | exact hCh) (by first | (rw [show 88 + pq = 7 + (pq + 81) by omega, st2_k, st2_k, hW]; exact pnF_s hk3 (by omega) (by omega) (fun z e => by have := ho2 z e; omega) (by omega) hpq) | (rw [hW]; exact pnF_n hk3 (by omega) (by omega) (fun z e => by have := ho2 z e; omega) hpq))) [1, 2, 3, 0] rfl
                                  · -- 220 false
                                    have hk3 : k < 3 := by omega
                                    obtain ⟨pq, hpq9, hpq⟩ := pnA_of (by omega) (by omega) ho2 c_220
                                    refine x_aload_n h 0 dX6_net_223 rfl rfl ?_
                                    refine xg_X6_0 h in_X6_net_X6 (by decide +kernel) dX6_net_224 ?_
                                    refine x_bipush h (nI 7) dX6_net_227 (by decide) ?_
                                    refine x_aload_n h 0 dX6_net_229 rfl rfl ?_
                                    refine xg_X6_0 h in_X6_net_X6 (by decide +kernel) dX6_net_230 ?_
                                    refine x_iload h 2 dX6_net_233 rfl ?_
                                    refine x_iload h 3 dX6_net_235 rfl ?_
                                    refine x_iadd_n h dX6_net_237 ?_
                                    refine xl_159 h dX6_net_238 (by omega) ?_
                                    refine x_top (nI pq) (by rw [hW, pnF_r (by omega) (by omega) ho2 (by omega), hRp k (by omega)]; exact hpq) ?_
                                    refine x_iadd_n h dX6_net_239 ?_
                                    refine x_bipush h (nI 11) dX6_net_240 (by decide) ?_
                                    refine x_iload h 1 dX6_net_242 rfl ?_
                                    refine x_iadd_n h dX6_net_244 ?_
                                    refine xs_159 h dX6_net_245 (by omega) ?_
                                    refine x_aload_n h 0 dX6_net_246 rfl rfl ?_
                                    refine xg_X6_0 h in_X6_net_X6 (by decide +kernel) dX6_net_247 ?_
                                    refine x_bipush h (nI 88) dX6_net_250 (by decide) ?_
                                    refine x_aload_n h 0 dX6_net_252 rfl rfl ?_
                                    refine xg_X6_0 h in_X6_net_X6 (by decide +kernel) dX6_net_253 ?_
                                    refine x_iload h 2 dX6_net_256 rfl ?_
                                    refine x_iload h 3 dX6_net_258 rfl ?_
                                    refine x_iadd_n h dX6_net_260 ?_
                                    refine xl_159 h dX6_net_261 (by omega) ?_
                                    refine x_top (nI pq) (by rw [st2_k, pk_un (by omega), hW, pnF_r (by omega) (by omega) ho2 (by omega), hRp k (by omega)]; exact hpq) ?_
                                    refine x_iadd_n h dX6_net_262 ?_
                                    refine x_bipush h (nI 11) dX6_net_263 (by decide) ?_
                                    refine x_iload h 1 dX6_net_265 rfl ?_
                                    refine x_iadd_n h dX6_net_267 ?_
                                    refine xs_159 h dX6_net_268 (by omega) ?_
                                    refine x_iinc_n h 3 (n := 1) [(9, .int (nI (k + 1))), (0, .ref (g.1 158)), (7, .int (nI N)), (8, .int (nI (169 + 9 * N)))] dX6_net_269 rfl (by decide) rfl ?_
                                    refine x_goto h 204 dX6_net_272 (by decide) ?_
                                    exact x_lv (ih204 (k + 1) (st2 (st2 W 159 (7 + pq) (nI (11 + N))) 159 (88 + pq) (nI (11 + N))) (by omega) (by omega) (by first | exact Ch_s _ _ (Ch_s _ _ hCh) | exact hCh) (by first | (rw [show 88 + pq = 7 + (pq + 81) by omega, st2_k, st2_k, hW]; exact pnF_s hk3 (by omega) (by omega) (fun z e => by have := ho2 z e; omega) (by omega) hpq) | (rw [hW]; exact pnF_n hk3 (by omega) (by omega) (fun z e => by have := ho2 z e; omega) hpq))) [1, 2, 3, 0] rfl
                            exact x_lv (L204 _ 0 W0 (Nat.lt_succ_self _) (by omega) (by exact hCh0) (by exact hW9)) [4, 2, 1, 0] rfl
                          · -- 122 false
                            refine x_ldc h ((-1000003)) (by decide +kernel) dX6_net_125 ?_
                            exact hret _ _ _ _ _ dX6_net_127 (by 
                                                              have hgd : netGood (nI k4) (nI k14) (nI k24) t u := ⟨⟨k4, by omega, rfl⟩, ⟨k14, by omega, rfl⟩, Or.inr ⟨k24, hk24, rfl⟩, (fun e => c_55 ((nI_eq (by omega) (by omega)).mp e)), (fun e => c_60 ((nI_eq (by omega) (by omega)).mp e)), (fun e => c_65 ((nI_eq (by omega) (by omega)).mp e)), Int32.not_lt.mpr i35.1, i35.2, Int32.not_lt.mpr i47.1, i47.2⟩
                                                              have hfr : FPe eM (M 159) (nI k4) ∧ FPe eM (M 159) (nI k14) ∧ (nI k24 = -1 ∨ FPe eM (M 159) (nI k24)) := ⟨(⟨k4, by omega, rfl, f85.1, f85.2⟩ : FPe eM (M 159) (nI k4)), (⟨k14, by omega, rfl, f93.1, f93.2⟩ : FPe eM (M 159) (nI k14)), Or.inr (⟨k24, by omega, rfl, f105.1, f105.2⟩ : FPe eM (M 159) (nI k24))⟩
                                                              exact ⟨rfl, FrM_rf M, Or.inl ⟨by decide, rfl, hm, hat⟩, Or.inr ⟨hgd, Or.inr ⟨hfr, Or.inl ⟨by omega, rfl, rfl⟩⟩⟩⟩)
                        · -- call 105
                          refine x_if_ne h 114 dX6_net_108 (by decide) (fun c => absurd c (by decide)) (fun _ => ?_)
                          refine x_ldc h ((-1000002)) (by decide +kernel) dX6_net_111 ?_
                          exact hret _ _ _ _ _ dX6_net_113 (by 
                                                          have hgd : netGood (nI k4) (nI k14) (nI k24) t u := ⟨⟨k4, by omega, rfl⟩, ⟨k14, by omega, rfl⟩, Or.inr ⟨k24, hk24, rfl⟩, (fun e => c_55 ((nI_eq (by omega) (by omega)).mp e)), (fun e => c_60 ((nI_eq (by omega) (by omega)).mp e)), (fun e => c_65 ((nI_eq (by omega) (by omega)).mp e)), Int32.not_lt.mpr i35.1, i35.2, Int32.not_lt.mpr i47.1, i47.2⟩
                                                          exact ⟨rfl, FrM_rf M, Or.inl ⟨by decide, rfl, hm, hat⟩, Or.inr ⟨hgd, Or.inl ⟨fun q => (by first | exact (fun z : FPe eM (M 159) (nI k4) => nf85 (by obtain ⟨z1, z2, z3, z4⟩ := z; obtain rfl := (nI_eq (by omega) (by omega)).mp z3; exact z4)) q.1 | exact (fun z : FPe eM (M 159) (nI k14) => nf93 (by obtain ⟨z1, z2, z3, z4⟩ := z; obtain rfl := (nI_eq (by omega) (by omega)).mp z3; exact z4)) q.2.1 | exact q.2.2.elim (fun e => m1_ne (by omega) e.symm) (fun z : FPe eM (M 159) (nI k24) => nf105 (by obtain ⟨z1, z2, z3, z4⟩ := z; obtain rfl := (nI_eq (by omega) (by omega)).mp z3; exact z4))), rfl, rfl⟩⟩⟩)
                      · -- call 93
                        refine x_if_eq h 111 dX6_net_96 (by decide) (fun _ => ?_) (fun c => absurd (by decide) c)
                        refine x_ldc h ((-1000002)) (by decide +kernel) dX6_net_111 ?_
                        exact hret _ _ _ _ _ dX6_net_113 (by 
                                                      have hgd : netGood (nI k4) (nI k14) (nI k24) t u := ⟨⟨k4, by omega, rfl⟩, ⟨k14, by omega, rfl⟩, Or.inr ⟨k24, hk24, rfl⟩, (fun e => c_55 ((nI_eq (by omega) (by omega)).mp e)), (fun e => c_60 ((nI_eq (by omega) (by omega)).mp e)), (fun e => c_65 ((nI_eq (by omega) (by omega)).mp e)), Int32.not_lt.mpr i35.1, i35.2, Int32.not_lt.mpr i47.1, i47.2⟩
                                                      exact ⟨rfl, FrM_rf M, Or.inl ⟨by decide, rfl, hm, hat⟩, Or.inr ⟨hgd, Or.inl ⟨fun q => (by first | exact (fun z : FPe eM (M 159) (nI k4) => nf85 (by obtain ⟨z1, z2, z3, z4⟩ := z; obtain rfl := (nI_eq (by omega) (by omega)).mp z3; exact z4)) q.1 | exact (fun z : FPe eM (M 159) (nI k14) => nf93 (by obtain ⟨z1, z2, z3, z4⟩ := z; obtain rfl := (nI_eq (by omega) (by omega)).mp z3; exact z4)) q.2.1 | exact q.2.2.elim (fun e => m1_ne (by omega) e.symm) (fun z : FPe eM (M 159) (nI k24) => nf105 (by obtain ⟨z1, z2, z3, z4⟩ := z; obtain rfl := (nI_eq (by omega) (by omega)).mp z3; exact z4))), rfl, rfl⟩⟩⟩)
                    · -- call 85
                      refine x_if_eq h 111 dX6_net_88 (by decide) (fun _ => ?_) (fun c => absurd (by decide) c)
                      refine x_ldc h ((-1000002)) (by decide +kernel) dX6_net_111 ?_
                      exact hret _ _ _ _ _ dX6_net_113 (by 
                                                  have hgd : netGood (nI k4) (nI k14) (nI k24) t u := ⟨⟨k4, by omega, rfl⟩, ⟨k14, by omega, rfl⟩, Or.inr ⟨k24, hk24, rfl⟩, (fun e => c_55 ((nI_eq (by omega) (by omega)).mp e)), (fun e => c_60 ((nI_eq (by omega) (by omega)).mp e)), (fun e => c_65 ((nI_eq (by omega) (by omega)).mp e)), Int32.not_lt.mpr i35.1, i35.2, Int32.not_lt.mpr i47.1, i47.2⟩
                                                  exact ⟨rfl, FrM_rf M, Or.inl ⟨by decide, rfl, hm, hat⟩, Or.inr ⟨hgd, Or.inl ⟨fun q => (by first | exact (fun z : FPe eM (M 159) (nI k4) => nf85 (by obtain ⟨z1, z2, z3, z4⟩ := z; obtain rfl := (nI_eq (by omega) (by omega)).mp z3; exact z4)) q.1 | exact (fun z : FPe eM (M 159) (nI k14) => nf93 (by obtain ⟨z1, z2, z3, z4⟩ := z; obtain rfl := (nI_eq (by omega) (by omega)).mp z3; exact z4)) q.2.1 | exact q.2.2.elim (fun e => m1_ne (by omega) e.symm) (fun z : FPe eM (M 159) (nI k24) => nf105 (by obtain ⟨z1, z2, z3, z4⟩ := z; obtain rfl := (nI_eq (by omega) (by omega)).mp z3; exact z4))), rfl, rfl⟩⟩⟩)
            · -- call 47
              refine x_if_eq h 72 dX6_net_50 (by decide) (fun _ => ?_) (fun c => absurd (by decide) c)
              refine x_iconst h (nI 0) dX6_net_72 (by decide) ?_
              refine x_istore h [(6, .int (nI 0)), (0, .ref (g.1 158)), (1, .int (nI k4)), (2, .int (nI k14)), (3, .int (nI k24)), (4, .int t), (5, .int u)] dX6_net_73 (by decide) rfl ?_
              refine x_iload h 0 dX6_net_75 rfl ?_
              refine x_if_ne h 83 dX6_net_77 (by decide) (fun c => absurd c (by decide)) (fun _ => ?_)
              refine x_ldc h ((-1000001)) (by decide +kernel) dX6_net_80 ?_
              exact hret _ _ _ _ _ dX6_net_82 (by exact ⟨rfl, FrM_rf M, Or.inl ⟨by decide, rfl, hm, hat⟩, Or.inl ⟨fun q => (by first | exact nk4 q.1 | exact nk14 q.2.1 | exact ni24 (in_m1.mpr q.2.2.1) | exact ni35 ⟨Int32.not_lt.mp q.2.2.2.2.2.2.1, q.2.2.2.2.2.2.2.1⟩ | exact ni47 ⟨Int32.not_lt.mp q.2.2.2.2.2.2.2.2.1, q.2.2.2.2.2.2.2.2.2⟩ | exact q.2.2.2.1 (by rw [c_55]) | exact q.2.2.2.2.1 (by rw [c_60]) | exact q.2.2.2.2.2.1 (by rw [c_65])), rfl, rfl⟩⟩)
          · -- call 35
            refine x_if_eq h 72 dX6_net_38 (by decide) (fun _ => ?_) (fun c => absurd (by decide) c)
            refine x_iconst h (nI 0) dX6_net_72 (by decide) ?_
            refine x_istore h [(6, .int (nI 0)), (0, .ref (g.1 158)), (1, .int (nI k4)), (2, .int (nI k14)), (3, .int (nI k24)), (4, .int t), (5, .int u)] dX6_net_73 (by decide) rfl ?_
            refine x_iload h 0 dX6_net_75 rfl ?_
            refine x_if_ne h 83 dX6_net_77 (by decide) (fun c => absurd c (by decide)) (fun _ => ?_)
            refine x_ldc h ((-1000001)) (by decide +kernel) dX6_net_80 ?_
            exact hret _ _ _ _ _ dX6_net_82 (by exact ⟨rfl, FrM_rf M, Or.inl ⟨by decide, rfl, hm, hat⟩, Or.inl ⟨fun q => (by first | exact nk4 q.1 | exact nk14 q.2.1 | exact ni24 (in_m1.mpr q.2.2.1) | exact ni35 ⟨Int32.not_lt.mp q.2.2.2.2.2.2.1, q.2.2.2.2.2.2.2.1⟩ | exact ni47 ⟨Int32.not_lt.mp q.2.2.2.2.2.2.2.2.1, q.2.2.2.2.2.2.2.2.2⟩ | exact q.2.2.2.1 (by rw [c_55]) | exact q.2.2.2.2.1 (by rw [c_60]) | exact q.2.2.2.2.2.1 (by rw [c_65])), rfl, rfl⟩⟩)
      · -- out
        refine x_if_eq h 72 dX6_net_27 (by decide) (fun _ => ?_) (fun c => absurd (by decide) c)
        refine x_iconst h (nI 0) dX6_net_72 (by decide) ?_
        refine x_istore h [(6, .int (nI 0)), (0, .ref (g.1 158)), (1, .int (nI k4)), (2, .int (nI k14)), (3, .int p2), (4, .int t), (5, .int u)] dX6_net_73 (by decide) rfl ?_
        refine x_iload h 0 dX6_net_75 rfl ?_
        refine x_if_ne h 83 dX6_net_77 (by decide) (fun c => absurd c (by decide)) (fun _ => ?_)
        refine x_ldc h ((-1000001)) (by decide +kernel) dX6_net_80 ?_
        exact hret _ _ _ _ _ dX6_net_82 (by exact ⟨rfl, FrM_rf M, Or.inl ⟨by decide, rfl, hm, hat⟩, Or.inl ⟨fun q => (by first | exact nk4 q.1 | exact nk14 q.2.1 | exact ni24 (in_m1.mpr q.2.2.1) | exact ni35 ⟨Int32.not_lt.mp q.2.2.2.2.2.2.1, q.2.2.2.2.2.2.2.1⟩ | exact ni47 ⟨Int32.not_lt.mp q.2.2.2.2.2.2.2.2.1, q.2.2.2.2.2.2.2.2.2⟩ | exact q.2.2.2.1 (by rw [c_55]) | exact q.2.2.2.2.1 (by rw [c_60]) | exact q.2.2.2.2.2.1 (by rw [c_65])), rfl, rfl⟩⟩)
    · -- out
      have nk14 := fun q => in14 ((InR_in2 (N := 80) (by omega)).mpr q)
      refine x_if_eq h 72 dX6_net_17 (by decide) (fun _ => ?_) (fun c => absurd (by decide) c)
      refine x_iconst h (nI 0) dX6_net_72 (by decide) ?_
      refine x_istore h [(6, .int (nI 0)), (0, .ref (g.1 158)), (1, .int (nI k4)), (2, .int p1), (3, .int p2), (4, .int t), (5, .int u)] dX6_net_73 (by decide) rfl ?_
      refine x_iload h 0 dX6_net_75 rfl ?_
      refine x_if_ne h 83 dX6_net_77 (by decide) (fun c => absurd c (by decide)) (fun _ => ?_)
      refine x_ldc h ((-1000001)) (by decide +kernel) dX6_net_80 ?_
      exact hret _ _ _ _ _ dX6_net_82 (by exact ⟨rfl, FrM_rf M, Or.inl ⟨by decide, rfl, hm, hat⟩, Or.inl ⟨fun q => (by first | exact nk4 q.1 | exact nk14 q.2.1 | exact ni24 (in_m1.mpr q.2.2.1) | exact ni35 ⟨Int32.not_lt.mp q.2.2.2.2.2.2.1, q.2.2.2.2.2.2.2.1⟩ | exact ni47 ⟨Int32.not_lt.mp q.2.2.2.2.2.2.2.2.1, q.2.2.2.2.2.2.2.2.2⟩ | exact q.2.2.2.1 (by rw [c_55]) | exact q.2.2.2.2.1 (by rw [c_60]) | exact q.2.2.2.2.2.1 (by rw [c_65])), rfl, rfl⟩⟩)
  · -- out
    have nk4 := fun q => in4 ((InR_in2 (N := 80) (by omega)).mpr q)
    refine x_if_eq h 72 dX6_net_7 (by decide) (fun _ => ?_) (fun c => absurd (by decide) c)
    refine x_iconst h (nI 0) dX6_net_72 (by decide) ?_
    refine x_istore h [(6, .int (nI 0)), (0, .ref (g.1 158)), (1, .int p0), (2, .int p1), (3, .int p2), (4, .int t), (5, .int u)] dX6_net_73 (by decide) rfl ?_
    refine x_iload h 0 dX6_net_75 rfl ?_
    refine x_if_ne h 83 dX6_net_77 (by decide) (fun c => absurd c (by decide)) (fun _ => ?_)
    refine x_ldc h ((-1000001)) (by decide +kernel) dX6_net_80 ?_
    exact hret _ _ _ _ _ dX6_net_82 (by exact ⟨rfl, FrM_rf M, Or.inl ⟨by decide, rfl, hm, hat⟩, Or.inl ⟨fun q => (by first | exact nk4 q.1 | exact nk14 q.2.1 | exact ni24 (in_m1.mpr q.2.2.1) | exact ni35 ⟨Int32.not_lt.mp q.2.2.2.2.2.2.1, q.2.2.2.2.2.2.2.1⟩ | exact ni47 ⟨Int32.not_lt.mp q.2.2.2.2.2.2.2.2.1, q.2.2.2.2.2.2.2.2.2⟩ | exact q.2.2.2.1 (by rw [c_55]) | exact q.2.2.2.2.1 (by rw [c_60]) | exact q.2.2.2.2.2.1 (by rw [c_65])), rfl, rfl⟩⟩)
