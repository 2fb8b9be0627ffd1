/-! ===== Int32 by its bits: bb x i ===== -/
def bb (x : Int32) (i : Nat) : Bool := x.toBitVec.getLsbD i
theorem b_ext {x y : Int32} (h : ∀ i, i < 32 → bb x i = bb y i) : x = y := Int32.toBitVec_inj.mp (BitVec.eq_of_getLsbD_eq (fun i hi => h i hi))
theorem b_or (x y : Int32) (i : Nat) : bb (x ||| y) i = (bb x i || bb y i) := by unfold bb; rw [Int32.toBitVec_or, BitVec.getLsbD_or]
theorem b_and (x y : Int32) (i : Nat) : bb (x &&& y) i = (bb x i && bb y i) := by unfold bb; rw [Int32.toBitVec_and, BitVec.getLsbD_and]
theorem b_xor (x y : Int32) (i : Nat) : bb (x ^^^ y) i = (bb x i ^^ bb y i) := by unfold bb; rw [Int32.toBitVec_xor, BitVec.getLsbD_xor]
theorem b_big {x : Int32} {i : Nat} (h : 32 ≤ i) : bb x i = false := BitVec.getLsbD_of_ge _ _ h
theorem b_255 (i : Nat) : bb 255 i = decide (i < 8) := by
  rcases Nat.lt_or_ge i 32 with h | h
  · exact (by decide +kernel : ∀ i, i < 32 → bb 255 i = decide (i < 8)) i h
  · rw [b_big h, decide_eq_false (by omega)]
theorem b_65535 (i : Nat) : bb 65535 i = decide (i < 16) := by
  rcases Nat.lt_or_ge i 32 with h | h
  · exact (by decide +kernel : ∀ i, i < 32 → bb 65535 i = decide (i < 16)) i h
  · rw [b_big h, decide_eq_false (by omega)]
theorem b_m1 : ∀ i, i < 32 → bb (-1) i = true := by decide +kernel
theorem b_0 (i : Nat) : bb 0 i = false := BitVec.getLsbD_zero
theorem s_l : ∀ n, n < 32 → ((nI n &&& 31).toBitVec.smod 32).toNat = n := by decide +kernel
theorem s_u : ∀ n, n < 32 → (((nI n).toUInt32 &&& Int32.toUInt32 31).toBitVec % 32).toNat = n := by decide +kernel
theorem b_shl (n : Nat) (hn : n < 32) (x : Int32) {i : Nat} (hi : i < 32) : bb (x <<< (nI n &&& 31)) i = (decide (n ≤ i) && bb x (i - n)) := by
  unfold bb
  rw [Int32.toBitVec_shiftLeft]
  show (x.toBitVec <<< ((nI n &&& 31).toBitVec.smod 32).toNat).getLsbD i = _
  rw [s_l n hn, BitVec.getLsbD_shiftLeft]
  rcases Nat.lt_or_ge i n with h | h
  · simp [h, Nat.not_le.mpr h]
  · simp [hi, h, Nat.not_lt.mpr h]
theorem b_ushr (n : Nat) (hn : n < 32) (x : Int32) (i : Nat) : bb ((x.toUInt32 >>> ((nI n).toUInt32 &&& Int32.toUInt32 31)).toInt32) i = bb x (n + i) := by
  show (x.toUInt32 >>> ((nI n).toUInt32 &&& Int32.toUInt32 31)).toBitVec.getLsbD i = x.toUInt32.toBitVec.getLsbD (n + i)
  rw [UInt32.toBitVec_shiftRight]
  show (x.toUInt32.toBitVec >>> (((nI n).toUInt32 &&& Int32.toUInt32 31).toBitVec % 32).toNat).getLsbD i = _
  rw [s_u n hn, BitVec.getLsbD_ushiftRight]
theorem b_sshr (n : Nat) (hn : n < 32) (x : Int32) {i : Nat} (hi : i < 32) : bb (x >>> (nI n &&& 31)) i = if n + i < 32 then bb x (n + i) else bb x 31 := by
  unfold bb
  rw [Int32.toBitVec_shiftRight]
  show (x.toBitVec.sshiftRight ((nI n &&& 31).toBitVec.smod 32).toNat).getLsbD i = _
  rw [s_l n hn, BitVec.getLsbD_sshiftRight, BitVec.msb_eq_getLsbD_last]
  simp [hi]

theorem b_1 : ∀ i, i < 32 → bb (nI 1) i = decide (i = 0) := by decide +kernel
theorem bit1_b {v : Int32} {i : Nat} (hi : i < 31) : bit1 v i ↔ bb v i = true := by
  have key : bb (v >>> (nI i &&& 31) &&& nI 1) 0 = bb v i := by
    rw [b_and, b_sshr i (by omega) v (by decide), if_pos (by omega), b_1 0 (by decide), Nat.add_zero]
    simp
  constructor
  · intro h
    have h : v >>> (nI i &&& 31) &&& nI 1 = nI 1 := h
    rw [h, b_1 0 (by decide)] at key
    rw [← key]; rfl
  · intro h
    show v >>> (nI i &&& 31) &&& nI 1 = nI 1
    apply b_ext
    intro j hj
    by_cases e : j = 0
    · subst e
      rw [key, h, b_1 0 (by decide)]; rfl
    · rw [b_and, b_1 j hj, decide_eq_false e, Bool.and_false]
theorem b_shl1 : ∀ k, k < 31 → ∀ i, i < 32 → bb (nI 1 <<< (nI k &&& 31)) i = decide (i = k) := by decide +kernel
theorem bit1_or {v : Int32} {i k : Nat} (hi : i < 31) (hk : k < 31) : bit1 (v ||| (nI 1 <<< (nI k &&& 31))) i ↔ (i = k ∨ bit1 v i) := by
  rw [bit1_b hi, bit1_b hi, b_or, b_shl1 k hk i (by omega)]
  simp only [Bool.or_eq_true, decide_eq_true_eq]
  exact or_comm
/-! PURE: what a digging comes to, place by place -/
def lzE (e : Enc) (X : Nat → Int32) (N : Nat) (L : List Nat) (v a : Nat) : Int32 := if (∃ w, w < v ∧ w < N ∧ X (7 + a) = e.2.1 w ∧ vicE e X L w = true) then e.1 else X (7 + a)
/-- behind v victims; sp is what the digger has spent -/
def dgV (bt : (Nat → Int32) → Nat → Nat → Bool) (e : Enc) (X : Nat → Int32) (N K k : Nat) (L : List Nat) (sp v : Nat) (Y : Nat → Int32) : Prop :=
  (∀ j, j < 4 ∨ j = 5 → Y j = X j) ∧ Y 4 = X 4 + nI 1 ∧ Y 6 = nI (K + cnt (vicE e X L) v) ∧
  (∀ a, a < 162 → Y (7 + a) = lzE e X N L v a) ∧
  (∀ j, j < N → (∀ t, t < 4 → Y (169 + 9 * j + t) = X (169 + 9 * j + t)) ∧
    Y (169 + 9 * j + 4) = (if j = k then X (169 + 9 * j + 4) - nI sp else X (169 + 9 * j + 4)) + nI (if j < v then dueE e X L j else 0) ∧
    Y (169 + 9 * j + 5) = (if j < v ∧ vicE e X L j = true then nI 0 else X (169 + 9 * j + 5)) ∧
    Y (169 + 9 * j + 6) = (if j < v ∧ vicE e X L j = true then X (169 + 9 * j + 6) + nI 1 else X (169 + 9 * j + 6)) ∧
    Y (169 + 9 * j + 7) = (if j = k then X (169 + 9 * j + 7) + nI sp else X (169 + 9 * j + 7)) ∧
    Y (169 + 9 * j + 8) = X (169 + 9 * j + 8) + nI (if j < v then dueE e X L j else 0)) ∧
  (∀ i, i < K → ∀ t, t < 7 → Y (223 + 13 * i + t) = X (223 + 13 * i + t)) ∧
  (∀ w, w < v → w < N → vicE e X L w = true → Y (223 + 13 * (K + cnt (vicE e X L) w)) = nI w ∧ Y (223 + 13 * (K + cnt (vicE e X L) w) + 1) = nI k ∧ Y (223 + 13 * (K + cnt (vicE e X L) w) + 2) = nI (wir X (e.2.1 w)) ∧ Y (223 + 13 * (K + cnt (vicE e X L) w) + 3) = nI (via X (e.2.1 w)) ∧ Y (223 + 13 * (K + cnt (vicE e X L) w) + 4) = nI (dueE e X L w) ∧ Y (223 + 13 * (K + cnt (vicE e X L) w) + 5) = nI 0 ∧ Y (223 + 13 * (K + cnt (vicE e X L) w) + 6) = X 4 + nI 1) ∧
  (∀ i, i < K → ∀ a, a < 162 → bt Y i a = bt X i a) ∧
  (∀ w, w < v → w < N → vicE e X L w = true → ∀ a, a < 162 → bt Y (K + cnt (vicE e X L) w) a = decide (X (7 + a) = e.2.1 w))
theorem vic_f {e : Enc} {X : Nat → Int32} {L : List Nat} {j : Nat} (h : ¬ vicE e X L j = true) : dueE e X L j = 0 := by
  unfold dueE thrE
  rw [cnt_zero (fun a _ => decide_eq_false (fun q => h (decide_eq_true ⟨a, q⟩))), Nat.zero_mul]
theorem cnt_lt2 {p : Nat → Bool} {w v : Nat} (h : w < v) (hp : p w = true) : cnt p w < cnt p v := by
  have := cnt_le2 (p := p) (a := w + 1) (b := v) h
  rw [cnt_s hp] at this
  omega
theorem lz_n {e : Enc} {X : Nat → Int32} {N v a : Nat} {L : List Nat} (h : ¬ (v < N ∧ vicE e X L v = true)) : lzE e X N L (v + 1) a = lzE e X N L v a := by
  unfold lzE
  by_cases q : ∃ w, w < v ∧ w < N ∧ X (7 + a) = e.2.1 w ∧ vicE e X L w = true
  · rw [if_pos q, if_pos (by obtain ⟨w, h1, h2⟩ := q; exact ⟨w, by omega, h2⟩)]
  · rw [if_neg q, if_neg (by
      rintro ⟨w, h1, h2, h3, h4⟩
      rcases Nat.lt_succ_iff_lt_or_eq.mp h1 with h1 | h1
      · exact q ⟨w, h1, h2, h3, h4⟩
      · subst h1; exact h ⟨h2, h4⟩)]
theorem lz_s {e : Enc} {X : Nat → Int32} {N v a : Nat} {L : List Nat} (hE : EncG e) (hN : N ≤ 6) (h : v < N ∧ vicE e X L v = true) : (if lzE e X N L v a = e.2.1 v then e.1 else lzE e X N L v a) = lzE e X N L (v + 1) a := by
  unfold lzE
  by_cases q : ∃ w, w < v ∧ w < N ∧ X (7 + a) = e.2.1 w ∧ vicE e X L w = true
  · rw [if_pos q, if_pos (show ∃ w, w < v + 1 ∧ w < N ∧ X (7 + a) = e.2.1 w ∧ vicE e X L w = true from by obtain ⟨w, h1, h2⟩ := q; exact ⟨w, by omega, h2⟩)]
    split <;> rfl
  · rw [if_neg q]
    by_cases q2 : X (7 + a) = e.2.1 v
    · rw [if_pos q2, if_pos ⟨v, by omega, h.1, q2, h.2⟩]
    · rw [if_neg q2, if_neg (by
        rintro ⟨w, h1, h2, h3, h4⟩
        rcases Nat.lt_succ_iff_lt_or_eq.mp h1 with h1 | h1
        · exact q ⟨w, h1, h2, h3, h4⟩
        · subst h1; exact q2 h3)]
theorem lz_wire {e : Enc} {X : Nat → Int32} {N v a : Nat} {L : List Nat} (hE : EncG e) (hN : N ≤ 6) (hv : v < N) : lzE e X N L v a = e.2.1 v ↔ X (7 + a) = e.2.1 v := by
  unfold lzE
  by_cases q : ∃ w, w < v ∧ w < N ∧ X (7 + a) = e.2.1 w ∧ vicE e X L w = true
  · rw [if_pos q]
    obtain ⟨w, h1, h2, h3, -⟩ := q
    exact ⟨fun z => absurd z.symm (hE.1 v (by omega)).1, fun z => absurd (((hE.1 w (by omega)).2.2.2.2 v (by omega)).2.1 (h3.symm.trans z)) (by omega)⟩
  · rw [if_neg q]
/-- the frame of a step that changes nothing -/
theorem dgV_n {bt : (Nat → Int32) → Nat → Nat → Bool} {e : Enc} {X Y : Nat → Int32} {N K k sp v : Nat} {L : List Nat} (h : dgV bt e X N K k L sp v Y) (hv : v < N) (hn : ¬ vicE e X L v = true) : dgV bt e X N K k L sp (v + 1) Y := by
  obtain ⟨h1, h2, h3, h4, h5, h6, h7, h8, h9⟩ := h
  have hd := vic_f hn
  refine ⟨h1, h2, by rw [cnt_n (by simpa using hn)]; exact h3, fun a ha => by rw [lz_n (fun q => hn q.2)]; exact h4 a ha, fun j hj => ?_, h6, fun w hw hwN hvw => ?_, h8, fun w hw hwN hvw => ?_⟩
  · obtain ⟨a1, a2, a3, a4, a5, a6⟩ := h5 j hj
    by_cases e1 : j = v
    · subst e1
      rw [if_neg (Nat.lt_irrefl j)] at a2 a6
      rw [if_neg (fun q => absurd q.1 (Nat.lt_irrefl j))] at a3 a4
      refine ⟨a1, ?_, ?_, ?_, a5, ?_⟩
      · rw [if_pos (Nat.lt_succ_self j), hd]; exact a2
      · rw [if_neg (fun q => hn q.2)]; exact a3
      · rw [if_neg (fun q => hn q.2)]; exact a4
      · rw [if_pos (Nat.lt_succ_self j), hd]; exact a6
    · have e2 : (j < v + 1) = (j < v) := propext ⟨fun q => by omega, fun q => by omega⟩
      simp only [e2]
      exact ⟨a1, a2, a3, a4, a5, a6⟩
  · exact h7 w (by rcases Nat.lt_succ_iff_lt_or_eq.mp hw with q | q; exact q; exact absurd (q ▸ hvw) hn) hwN hvw
  · exact h9 w (by rcases Nat.lt_succ_iff_lt_or_eq.mp hw with q | q; exact q; exact absurd (q ▸ hvw) hn) hwN hvw
/-- a victim's step, place by place -/
def dgC1 (bt : (Nat → Int32) → Nat → Nat → Bool) (e : Enc) (N Kv k v : Nat) (due : Int32) (sp : Nat) (Y Z : Nat → Int32) : Prop :=
  (∀ j, j < 6 → Z j = Y j) ∧ Z 6 = nI (Kv + 1) ∧
  (∀ a, a < 162 → Z (7 + a) = if Y (7 + a) = e.2.1 v then e.1 else Y (7 + a)) ∧
  (∀ j, j < N → (∀ t, t < 4 → Z (169 + 9 * j + t) = Y (169 + 9 * j + t)) ∧
    Z (169 + 9 * j + 4) = (if j = k then Y (169 + 9 * j + 4) - nI sp else Y (169 + 9 * j + 4)) + (if j = v then due else nI 0) ∧
    Z (169 + 9 * j + 5) = (if j = v then nI 0 else Y (169 + 9 * j + 5)) ∧
    Z (169 + 9 * j + 6) = (if j = v then Y (169 + 9 * j + 6) + nI 1 else Y (169 + 9 * j + 6)) ∧
    Z (169 + 9 * j + 7) = (if j = k then Y (169 + 9 * j + 7) + nI sp else Y (169 + 9 * j + 7)) ∧
    Z (169 + 9 * j + 8) = Y (169 + 9 * j + 8) + (if j = v then due else nI 0)) ∧
  (∀ i, i < Kv → ∀ t, t < 7 → Z (223 + 13 * i + t) = Y (223 + 13 * i + t)) ∧
  (Z (223 + 13 * Kv) = nI v ∧ Z (223 + 13 * Kv + 1) = nI k ∧ Z (223 + 13 * Kv + 2) = nI (wir Y (e.2.1 v)) ∧ Z (223 + 13 * Kv + 3) = nI (via Y (e.2.1 v)) ∧ Z (223 + 13 * Kv + 4) = due ∧ Z (223 + 13 * Kv + 5) = nI 0 ∧ Z (223 + 13 * Kv + 6) = Y 4) ∧
  (∀ i, i < Kv → ∀ a, a < 162 → bt Z i a = bt Y i a) ∧ (∀ a, a < 162 → bt Z Kv a = decide (Y (7 + a) = e.2.1 v))
theorem i_sub (a b : Int32) (s t : Nat) : a - nI s + b - nI t = a - nI (s + t) + b := by
  rw [← nI_add]; simp only [Int32.sub_eq_add_neg, Int32.neg_add]; ac_rfl
theorem dgV_s {bt : (Nat → Int32) → Nat → Nat → Bool} {e : Enc} {X Y Z : Nat → Int32} {N K k sp sp2 v : Nat} {L : List Nat} (hE : EncG e) (hN : N ≤ 6) (hkN : k < N) (h : dgV bt e X N K k L sp v Y) (hv : v < N) (hy : vicE e X L v = true) (hz : dgC1 bt e N (K + cnt (vicE e X L) v) k v (nI (dueE e X L v)) sp2 Y Z) : dgV bt e X N K k L (sp + sp2) (v + 1) Z := by
  obtain ⟨h1, h2, h3, h4, h5, h6, h7, h8, h9⟩ := h
  obtain ⟨z1, z2, z3, z4, z5, z6, z7, z8⟩ := hz
  have hcl : ∀ w, w < v → vicE e X L w = true → K + cnt (vicE e X L) w < K + cnt (vicE e X L) v := fun w hw hp => by have := cnt_lt2 hw hp; omega
  have hwo : ∀ a, a < 162 → (Y (7 + a) = e.2.1 v ↔ X (7 + a) = e.2.1 v) := fun a ha => by rw [h4 a ha]; exact lz_wire hE hN hv
  refine ⟨fun j hj => (z1 j (by omega)).trans (h1 j hj), (z1 4 (by decide)).trans h2, ?_, fun a ha => ?_, fun j hj => ?_, fun i hi t ht => (z5 i (by omega) t ht).trans (h6 i hi t ht), fun w hw hwN hvw => ?_, fun i hi a ha => (z7 i (by omega) a ha).trans (h8 i hi a ha), fun w hw hwN hvw a ha => ?_⟩
  · rw [z2, cnt_s hy]; rfl
  · rw [z3 a ha, h4 a ha]; exact lz_s hE hN ⟨hv, hy⟩
  · obtain ⟨a1, a2, a3, a4, a5, a6⟩ := h5 j hj
    obtain ⟨b1, b2, b3, b4, b5, b6⟩ := z4 j hj
    have e7 : Z (169 + 9 * j + 7) = if j = k then X (169 + 9 * j + 7) + nI (sp + sp2) else X (169 + 9 * j + 7) := by
      rw [b5, a5]
      by_cases ek : j = k
      · rw [if_pos ek, if_pos ek, if_pos ek, Int32.add_assoc, nI_add]
      · rw [if_neg ek, if_neg ek, if_neg ek]
    by_cases ev : j = v
    · subst ev
      rw [if_neg (Nat.lt_irrefl j)] at a2 a6
      rw [if_neg (fun q => absurd q.1 (Nat.lt_irrefl j))] at a3 a4
      rw [if_pos rfl] at b2 b3 b4 b6
      refine ⟨fun t ht => (b1 t ht).trans (a1 t ht), ?_, ?_, ?_, e7, ?_⟩
      · rw [b2, a2, if_pos (Nat.lt_succ_self j)]
        by_cases ek : j = k
        · rw [if_pos ek, if_pos ek, if_pos ek, i_sub, Int32.add_assoc, nI_add, Nat.zero_add]
        · rw [if_neg ek, if_neg ek, if_neg ek, Int32.add_assoc, nI_add, Nat.zero_add]
      · rw [b3, if_pos ⟨Nat.lt_succ_self j, hy⟩]
      · rw [b4, a4, if_pos ⟨Nat.lt_succ_self j, hy⟩]
      · rw [b6, a6, if_pos (Nat.lt_succ_self j), Int32.add_assoc, nI_add, Nat.zero_add]
    · have e2 : (j < v + 1) = (j < v) := propext ⟨fun q => by omega, fun q => by omega⟩
      simp only [e2]
      rw [if_neg ev] at b2 b3 b4 b6
      refine ⟨fun t ht => (b1 t ht).trans (a1 t ht), ?_, b3.trans a3, b4.trans a4, e7, ?_⟩
      · rw [b2, a2]
        by_cases ek : j = k
        · rw [if_pos ek, if_pos ek, if_pos ek, i_sub, Int32.add_assoc, nI_add]; rfl
        · rw [if_neg ek, if_neg ek, if_neg ek, Int32.add_assoc, nI_add]; rfl
      · rw [b6, a6, Int32.add_assoc, nI_add]; rfl
  · rcases Nat.lt_succ_iff_lt_or_eq.mp hw with q | q
    · have hc := hcl w q hvw
      have hh := h7 w q hwN hvw
      have z0 := z5 _ hc 0 (by decide)
      rw [Nat.add_zero] at z0
      rw [z0, z5 _ hc 1 (by decide), z5 _ hc 2 (by decide), z5 _ hc 3 (by decide), z5 _ hc 4 (by decide), z5 _ hc 5 (by decide), z5 _ hc 6 (by decide)]
      exact hh
    · subst q
      rw [h2] at z6
      rw [show wir Y (e.2.1 w) = wir X (e.2.1 w) from cnt_congr (fun a ha => by simp only [hwo a ha]), show via Y (e.2.1 w) = via X (e.2.1 w) from cnt_congr (fun a ha => by simp only [hwo a (by omega), hwo (a + 81) (by omega)])] at z6
      exact z6
  · rcases Nat.lt_succ_iff_lt_or_eq.mp hw with q | q
    · rw [z7 _ (hcl w q hvw) a ha]; exact h9 w q hwN hvw a ha
    · subst q
      rw [z8 a ha]
      simp only [hwo a ha]
