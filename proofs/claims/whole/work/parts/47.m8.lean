/-! the model: what is paid, claims, hearings -/
theorem bits_all : ∀ t : Fin 64, t.val ≠ 0 → (nI t.val &&& (nI t.val - nI 1)) = nI (t.val &&& (t.val - 1)) ∧ bcnt (t.val &&& (t.val - 1)) + 1 = bcnt t.val ∧ (t.val &&& (t.val - 1)) < t.val := by decide +kernel
theorem bits_s {t : Nat} (ht : t < 64) (h : t ≠ 0) : (nI t &&& (nI t - nI 1)) = nI (t &&& (t - 1)) ∧ bcnt (t &&& (t - 1)) + 1 = bcnt t ∧ (t &&& (t - 1)) < t := bits_all ⟨t, ht⟩ h
theorem bcnt_0 : bcnt 0 = 0 := by decide
theorem upd_self {X : Nat → Int32} {j : Nat} {v : Int32} (h : X j = v) : upd X j v = X := by
  funext a
  unfold upd
  split
  · rename_i e; rw [e, h]
  · rfl
theorem pays_eq (X : Nat → Int32) (n o : Nat) (w : Int32) : upd (upd (upd (upd X (169 + 9 * n + 4) (X (169 + 9 * n + 4) + -w)) (169 + 9 * n + 7) (upd X (169 + 9 * n + 4) (X (169 + 9 * n + 4) + -w) (169 + 9 * n + 7) + w)) (169 + 9 * o + 4) (upd (upd X (169 + 9 * n + 4) (X (169 + 9 * n + 4) + -w)) (169 + 9 * n + 7) (upd X (169 + 9 * n + 4) (X (169 + 9 * n + 4) + -w) (169 + 9 * n + 7) + w) (169 + 9 * o + 4) + w)) (169 + 9 * o + 8) (upd (upd (upd X (169 + 9 * n + 4) (X (169 + 9 * n + 4) + -w)) (169 + 9 * n + 7) (upd X (169 + 9 * n + 4) (X (169 + 9 * n + 4) + -w) (169 + 9 * n + 7) + w)) (169 + 9 * o + 4) (upd (upd X (169 + 9 * n + 4) (X (169 + 9 * n + 4) + -w)) (169 + 9 * n + 7) (upd X (169 + 9 * n + 4) (X (169 + 9 * n + 4) + -w) (169 + 9 * n + 7) + w) (169 + 9 * o + 4) + w) (169 + 9 * o + 8) + w) = recvX (spendX X n w) o w := by
  have e1 : upd X (169 + 9 * n + 4) (X (169 + 9 * n + 4) + -w) (169 + 9 * n + 7) = X (169 + 9 * n + 7) := pk_un (by omega)
  have e2 : upd (upd X (169 + 9 * n + 4) (X (169 + 9 * n + 4) + -w)) (169 + 9 * n + 7) (X (169 + 9 * n + 7) + w) = spendX X n w := by
    unfold spendX; rw [Int32.sub_eq_add_neg]
  rw [e1, e2]
  have e3 : upd (spendX X n w) (169 + 9 * o + 4) (spendX X n w (169 + 9 * o + 4) + w) (169 + 9 * o + 8) = spendX X n w (169 + 9 * o + 8) := pk_un (by omega)
  rw [e3]
  rfl
/-- the marks of a claim's cells: 27 to an int -/
def bmI (X : Nat → Int32) (o : Int32) (q : Nat) : Nat → Int32
  | 0 => nI 0
  | c + 1 => if c / 27 = q ∧ X (7 + c) = o then bmI X o q c ||| (nI 1 <<< (nI (c % 27) &&& 31)) else bmI X o q c
theorem bmI_bit {X : Nat → Int32} {o : Int32} {q i : Nat} (hi : i < 27) : ∀ n, bit1 (bmI X o q n) i ↔ (27 * q + i < n ∧ X (7 + (27 * q + i)) = o)
  | 0 => by
    refine ⟨fun h => ?_, fun h => absurd h.1 (Nat.not_lt_zero _)⟩
    have h := (bit1_b (by omega)).mp h
    rw [show bmI X o q 0 = (0 : Int32) from rfl, b_0] at h
    cases h
  | n + 1 => by
    have ih := bmI_bit (X := X) (o := o) (q := q) hi n
    have hs : bmI X o q (n + 1) = if n / 27 = q ∧ X (7 + n) = o then bmI X o q n ||| (nI 1 <<< (nI (n % 27) &&& 31)) else bmI X o q n := rfl
    rw [hs]
    by_cases e : n / 27 = q ∧ X (7 + n) = o
    · rw [if_pos e, bit1_or (by omega) (by omega), ih]
      constructor
      · rintro (h | h)
        · have : 27 * q + i = n := by omega
          exact ⟨by omega, by rw [this]; exact e.2⟩
        · exact ⟨by omega, h.2⟩
      · rintro ⟨h1, h2⟩
        by_cases q2 : 27 * q + i = n
        · exact Or.inl (by omega)
        · exact Or.inr ⟨by omega, h2⟩
    · rw [if_neg e, ih]
      constructor
      · rintro ⟨h1, h2⟩
        exact ⟨by omega, h2⟩
      · rintro ⟨h1, h2⟩
        refine ⟨?_, h2⟩
        by_cases q2 : 27 * q + i = n
        · exact absurd ⟨by omega, by rw [← q2]; exact h2⟩ e
        · omega
def mkM (X Y : Nat → Int32) (K : Nat) (o : Int32) : Nat → Int32 := fun j => if 223 + 13 * K + 7 ≤ j ∧ j < 223 + 13 * K + 13 then bmI X o (j - (223 + 13 * K + 7)) 162 else Y j
/-- the row of a claim but for the number of claims, which comes last -/
def clm7 (X : Nat → Int32) (K : Nat) (h d cells vias w : Int32) : Nat → Int32 := upd (upd (upd (upd (upd (upd (upd X (223 + 13 * K) h) (223 + 13 * K + 1) d) (223 + 13 * K + 2) cells) (223 + 13 * K + 3) vias) (223 + 13 * K + 4) w) (223 + 13 * K + 5) (nI 0)) (223 + 13 * K + 6) (X 4)
theorem clm7_o {X : Nat → Int32} {K : Nat} {h d cells vias w : Int32} {j : Nat} (hj : j < 223 ∨ 223 + 13 * K + 7 ≤ j) : clm7 X K h d cells vias w j = X j := by
  unfold clm7
  repeat rw [pk_un (by omega)]
theorem claim_M {X W : Nat → Int32} {K v n : Nat} {w : Int32} (hb : ∀ q, q < 6 → W (223 + 13 * K + 7 + q) = bmI X (eM.2.1 v) q 162) (ho : ∀ j, ¬ (223 + 13 * K + 7 ≤ j ∧ j < 223 + 13 * K + 13) → W j = clm7 X K (nI v) (nI n) (nI (wir X (eM.2.1 v))) (nI (via X (eM.2.1 v))) w j) : upd W 6 (nI (K + 1)) = claimE mkM eM X K v n w := by
  funext j
  unfold claimE mkM
  by_cases e6 : j = 6
  · subst e6
    rw [pk_us, if_neg (by omega)]
    unfold clmRow
    repeat rw [pk_un (by omega)]
    exact pk_us.symm
  · rw [pk_un e6]
    by_cases hr : 223 + 13 * K + 7 ≤ j ∧ j < 223 + 13 * K + 13
    · rw [if_pos hr]
      have := hb (j - (223 + 13 * K + 7)) (by omega)
      rw [show 223 + 13 * K + 7 + (j - (223 + 13 * K + 7)) = j by omega] at this
      exact this
    · rw [if_neg hr, ho j hr]
      unfold clm7 clmRow
      exact upd_c (upd_c (upd_c (upd_c (upd_c (upd_c (upd_c (pk_un e6).symm))))))
/-- a claim's row in the model, place by place -/
theorem clM_lo {Y : Nat → Int32} {Kv v n j : Nat} {w : Int32} (h : j < 6 ∨ (7 ≤ j ∧ j < 223)) : claimE mkM eM Y Kv v n w j = Y j := by
  unfold claimE mkM clmRow
  rw [if_neg (by omega)]
  repeat rw [pk_un (by omega)]
theorem clM_6 {Y : Nat → Int32} {Kv v n : Nat} {w : Int32} : claimE mkM eM Y Kv v n w 6 = nI (Kv + 1) := by
  unfold claimE mkM clmRow
  rw [if_neg (by omega)]
  repeat rw [pk_un (by omega)]
  rw [pk_us]
theorem clM_o {Y : Nat → Int32} {Kv v n i t : Nat} {w : Int32} (hi : i < Kv) (ht : t < 13) : claimE mkM eM Y Kv v n w (223 + 13 * i + t) = Y (223 + 13 * i + t) := by
  unfold claimE mkM clmRow
  rw [if_neg (by omega)]
  repeat rw [pk_un (by omega)]
theorem clM_k {Y : Nat → Int32} {Kv v n : Nat} {w : Int32} : claimE mkM eM Y Kv v n w (223 + 13 * Kv) = nI v ∧ claimE mkM eM Y Kv v n w (223 + 13 * Kv + 1) = nI n ∧ claimE mkM eM Y Kv v n w (223 + 13 * Kv + 2) = nI (wir Y (eM.2.1 v)) ∧ claimE mkM eM Y Kv v n w (223 + 13 * Kv + 3) = nI (via Y (eM.2.1 v)) ∧ claimE mkM eM Y Kv v n w (223 + 13 * Kv + 4) = w ∧ claimE mkM eM Y Kv v n w (223 + 13 * Kv + 5) = nI 0 ∧ claimE mkM eM Y Kv v n w (223 + 13 * Kv + 6) = Y 4 := by
  unfold claimE mkM clmRow
  refine ⟨?_, ?_, ?_, ?_, ?_, ?_, ?_⟩
  · rw [if_neg (by omega)]
    repeat first | rw [pk_un (by omega)] | rw [pk_us]
  · rw [if_neg (by omega)]
    repeat first | rw [pk_un (by omega)] | rw [pk_us]
  · rw [if_neg (by omega)]
    repeat first | rw [pk_un (by omega)] | rw [pk_us]
  · rw [if_neg (by omega)]
    repeat first | rw [pk_un (by omega)] | rw [pk_us]
  · rw [if_neg (by omega)]
    repeat first | rw [pk_un (by omega)] | rw [pk_us]
  · rw [if_neg (by omega)]
    repeat first | rw [pk_un (by omega)] | rw [pk_us]
  · rw [if_neg (by omega), pk_us]
theorem clM_b {Y : Nat → Int32} {Kv v n q : Nat} {w : Int32} (hq : q < 6) : claimE mkM eM Y Kv v n w (223 + 13 * Kv + (7 + q)) = bmI Y (eM.2.1 v) q 162 := by
  unfold claimE mkM
  rw [if_pos (by omega), show 223 + 13 * Kv + (7 + q) - (223 + 13 * Kv + 7) = q by omega]
theorem bM_cg {X Y : Nat → Int32} {i a : Nat} (h : X (223 + 13 * i + (7 + a / 27)) = Y (223 + 13 * i + (7 + a / 27))) : bM X i a = bM Y i a := by unfold bM; rw [h]
theorem bM_bm {X Y : Nat → Int32} {i a : Nat} {o : Int32} (ha : a < 162) (h : Y (223 + 13 * i + (7 + a / 27)) = bmI X o (a / 27) 162) : bM Y i a = decide (X (7 + a) = o) := by
  unfold bM
  rw [h]
  refine decide_eq_decide.mpr ?_
  rw [bmI_bit (Nat.mod_lt _ (by decide)), show 27 * (a / 27) + a % 27 = a from Nat.div_add_mod a 27]
  exact ⟨fun q => q.2, fun q => ⟨ha, q⟩⟩
/-- a victim's step in the model -/
def dgSM (Kv n v : Nat) (du : Int32) (Y : Nat → Int32) : Nat → Int32 := loseE eM (upd (claimE mkM eM (recvX (spendX Y n du) v du) Kv v n du) (169 + 9 * v + 6) (claimE mkM eM (recvX (spendX Y n du) v du) Kv v n du (169 + 9 * v + 6) + nI 1)) v
def dgRM (X0 : Nat → Int32) (L : List Nat) (N n K : Nat) : Nat → Nat → Int32
  | 0 => upd X0 4 (X0 4 + nI 1)
  | v + 1 => if vicE eM X0 L v = true then dgSM (K + cnt (vicE eM X0 L) v) n v (nI (dueE eM X0 L v)) (dgRM X0 L N n K v) else dgRM X0 L N n K v
def finM (X : Nat → Int32) (N K k : Nat) (L : List Nat) : Nat → Int32 := takeE eM (dgRM X L N k K N) k L
theorem spd_o {X : Nat → Int32} {v j : Nat} {w : Int32} (h : j ≠ 169 + 9 * v + 4) (h2 : j ≠ 169 + 9 * v + 7) : spendX X v w j = X j := by
  unfold spendX; rw [pk_un h2, pk_un h]
theorem spd_4 {X : Nat → Int32} {v : Nat} {w : Int32} : spendX X v w (169 + 9 * v + 4) = X (169 + 9 * v + 4) - w := by
  unfold spendX; rw [pk_un (by omega), pk_us]
theorem spd_7 {X : Nat → Int32} {v : Nat} {w : Int32} : spendX X v w (169 + 9 * v + 7) = X (169 + 9 * v + 7) + w := by
  unfold spendX; rw [pk_us]
theorem dgSM_1 {Y : Nat → Int32} {N n Kv v du : Nat} (hN : N ≤ 6) (hn : n < N) (hv : v < N) : dgC1 bM eM N Kv n v (nI du) du Y (dgSM Kv n v (nI du) Y) := by
  have hi0 : ∀ x : Int32, x + nI 0 = x := fun x => Int32.add_zero x
  have hlo : ∀ j, j < 6 ∨ (7 ≤ j ∧ j < 169) → recvX (spendX Y n (nI du)) v (nI du) j = Y j := fun j hj => by rw [rcv_o (by omega) (by omega), spd_o (by omega) (by omega)]
  have hhi : ∀ j, 223 ≤ j → recvX (spendX Y n (nI du)) v (nI du) j = Y j := fun j hj => by rw [rcv_o (by omega) (by omega), spd_o (by omega) (by omega)]
  have hb : ∀ i a, a < 162 → dgSM Kv n v (nI du) Y (223 + 13 * i + (7 + a / 27)) = claimE mkM eM (recvX (spendX Y n (nI du)) v (nI du)) Kv v n (nI du) (223 + 13 * i + (7 + a / 27)) := fun i a ha => by
    unfold dgSM
    rw [loseE_n (by omega) (by omega), pk_un (by omega)]
  have hn4 : ∀ j, j < 6 → recvX (spendX Y n (nI du)) v (nI du) (169 + 9 * j + 4) = (if j = n then Y (169 + 9 * j + 4) - nI du else Y (169 + 9 * j + 4)) + (if j = v then nI du else nI 0) := fun j hj => by
    have e : spendX Y n (nI du) (169 + 9 * j + 4) = if j = n then Y (169 + 9 * j + 4) - nI du else Y (169 + 9 * j + 4) := by
      by_cases e : j = n
      · subst e; rw [if_pos rfl, spd_4]
      · rw [if_neg e, spd_o (by omega) (by omega)]
    by_cases e2 : j = v
    · subst e2; rw [rcv_4, if_pos (rfl : j = j), e]
    · rw [rcv_o (by omega) (by omega), if_neg e2, hi0, e]
  have hn7 : ∀ j, j < 6 → recvX (spendX Y n (nI du)) v (nI du) (169 + 9 * j + 7) = if j = n then Y (169 + 9 * j + 7) + nI du else Y (169 + 9 * j + 7) := fun j hj => by
    rw [rcv_o (by omega) (by omega)]
    by_cases e : j = n
    · subst e; rw [if_pos rfl, spd_7]
    · rw [if_neg e, spd_o (by omega) (by omega)]
  have hn8 : ∀ j, j < 6 → recvX (spendX Y n (nI du)) v (nI du) (169 + 9 * j + 8) = Y (169 + 9 * j + 8) + (if j = v then nI du else nI 0) := fun j hj => by
    by_cases e2 : j = v
    · subst e2; rw [rcv_8, if_pos (rfl : j = j), spd_o (by omega) (by omega)]
    · rw [rcv_o (by omega) (by omega), if_neg e2, hi0, spd_o (by omega) (by omega)]
  refine ⟨fun j hj => ?_, ?_, fun a ha => ?_, fun j hj => ⟨fun t ht => ?_, ?_, ?_, ?_, ?_, ?_⟩, fun i hi t ht => ?_, ?_, fun i hi a ha => ?_, fun a ha => ?_⟩
  · unfold dgSM; rw [loseE_n (by omega) (by omega), pk_un (by omega), clM_lo (by omega), hlo j (by omega)]
  · unfold dgSM; rw [loseE_n (by omega) (by omega), pk_un (by omega), clM_6]
  · unfold dgSM; rw [loseE_o (by omega) ha, pk_un (by omega), clM_lo (by omega), hlo _ (by omega)]
  · unfold dgSM; rw [loseE_n (by omega) (by omega), pk_un (by omega), clM_lo (by omega), rcv_o (by omega) (by omega), spd_o (by omega) (by omega)]
  · unfold dgSM; rw [loseE_n (by omega) (by omega), pk_un (by omega), clM_lo (by omega)]; exact hn4 j (by omega)
  · unfold dgSM
    by_cases e : j = v
    · subst e; rw [if_pos rfl, loseE_5]
    · rw [if_neg e, loseE_n (by omega) (by omega), pk_un (by omega), clM_lo (by omega), rcv_o (by omega) (by omega), spd_o (by omega) (by omega)]
  · unfold dgSM
    rw [loseE_n (by omega) (by omega)]
    by_cases e : j = v
    · subst e; rw [if_pos rfl, pk_us, clM_lo (by omega), rcv_o (by omega) (by omega), spd_o (by omega) (by omega)]
    · rw [if_neg e, pk_un (by omega), clM_lo (by omega), rcv_o (by omega) (by omega), spd_o (by omega) (by omega)]
  · unfold dgSM; rw [loseE_n (by omega) (by omega), pk_un (by omega), clM_lo (by omega)]; exact hn7 j (by omega)
  · unfold dgSM; rw [loseE_n (by omega) (by omega), pk_un (by omega), clM_lo (by omega)]; exact hn8 j (by omega)
  · unfold dgSM; rw [loseE_n (by omega) (by omega), pk_un (by omega), clM_o hi (by omega), hhi _ (by omega)]
  · have ew : ∀ a, a < 162 → recvX (spendX Y n (nI du)) v (nI du) (7 + a) = Y (7 + a) := fun a ha => hlo _ (by omega)
    obtain ⟨c0, c1, c2, c3, c4, c5, c6⟩ := clM_k (Y := recvX (spendX Y n (nI du)) v (nI du)) (Kv := Kv) (v := v) (n := n) (w := nI du)
    rw [wir_cg ew] at c2
    rw [via_cg ew] at c3
    rw [hlo 4 (by omega)] at c6
    unfold dgSM
    refine ⟨?_, ?_, ?_, ?_, ?_, ?_, ?_⟩
    · rw [loseE_n (by omega) (by omega), pk_un (by omega)]; exact c0
    · rw [loseE_n (by omega) (by omega), pk_un (by omega)]; exact c1
    · rw [loseE_n (by omega) (by omega), pk_un (by omega)]; exact c2
    · rw [loseE_n (by omega) (by omega), pk_un (by omega)]; exact c3
    · rw [loseE_n (by omega) (by omega), pk_un (by omega)]; exact c4
    · rw [loseE_n (by omega) (by omega), pk_un (by omega)]; exact c5
    · rw [loseE_n (by omega) (by omega), pk_un (by omega)]; exact c6
  · refine bM_cg ?_
    rw [hb i a ha, clM_o hi (by omega), hhi _ (by omega)]
  · have := bM_bm (X := recvX (spendX Y n (nI du)) v (nI du)) (Y := dgSM Kv n v (nI du) Y) (i := Kv) (o := eM.2.1 v) ha (by rw [hb Kv a ha]; exact clM_b (by omega))
    rw [this, hlo _ (by omega)]
theorem dgRM_V {X : Nat → Int32} {L : List Nat} {N k K : Nat} (hN : N ≤ 6) (hk : k < N) (hK : X 6 = nI K) : ∀ v, v ≤ N → dgV bM eM X N K k L (sumN (dueE eM X L) v) v (dgRM X L N k K v)
  | 0, _ => by
    have hi0 : ∀ x : Int32, x + nI 0 = x := fun x => Int32.add_zero x
    have hi1 : ∀ x : Int32, x - nI 0 = x := fun x => Int32.sub_zero x
    have hc : ∀ j, j ≠ 4 → upd X 4 (X 4 + nI 1) j = X j := fun j h1 => pk_un h1
    show dgV bM eM X N K k L 0 0 (upd X 4 (X 4 + nI 1))
    refine ⟨fun j hj => hc j (by omega), pk_us, (hc 6 (by omega)).trans hK, fun a ha => ?_, fun j hj => ⟨fun t ht => hc _ (by omega), ?_, ?_, ?_, ?_, ?_⟩, fun i hi t ht => hc _ (by omega), fun w hw => absurd hw (Nat.not_lt_zero w), fun i hi a ha => bM_cg (hc _ (by omega)), fun w hw => absurd hw (Nat.not_lt_zero w)⟩
    · rw [hc _ (by omega)]
      unfold lzE
      rw [if_neg (fun ⟨w, hw, _⟩ => absurd hw (Nat.not_lt_zero w))]
    · rw [if_neg (Nat.not_lt_zero j), hi0, hi1, ite_self]; exact hc _ (by omega)
    · rw [if_neg (fun q => absurd q.1 (Nat.not_lt_zero j)), hc _ (by omega)]
    · rw [if_neg (fun q => absurd q.1 (Nat.not_lt_zero j)), hc _ (by omega)]
    · rw [hi0, ite_self]; exact hc _ (by omega)
    · rw [if_neg (Nat.not_lt_zero j), hi0, hc _ (by omega)]
  | v + 1, hv => by
    have h1 := dgRM_V (L := L) hN hk hK v (by omega)
    have hs : dgRM X L N k K (v + 1) = if vicE eM X L v = true then dgSM (K + cnt (vicE eM X L) v) k v (nI (dueE eM X L v)) (dgRM X L N k K v) else dgRM X L N k K v := rfl
    have hsu : sumN (dueE eM X L) (v + 1) = sumN (dueE eM X L) v + dueE eM X L v := rfl
    rw [hs, hsu]
    by_cases e : vicE eM X L v = true
    · rw [if_pos e]
      exact dgV_s eM_g hN hk h1 hv e (dgSM_1 hN hk hv)
    · rw [if_neg e, vic_f e, Nat.add_zero]
      exact dgV_n h1 hv e
theorem finM_F {X : Nat → Int32} {L : List Nat} {N k K : Nat} (hN : N ≤ 6) (hk : k < N) (hK : X 6 = nI K) : dgF bM eM X N K k L (finM X N K k L) := ⟨_, dgRM_V hN hk hK N (Nat.le_refl N), rfl⟩
theorem vic_bit {p : Nat → Bool} {N v : Nat} (hN : N ≤ 6) (hv : v < N) : bit1 (nI (bset p N)) v ↔ p v = true := by
  rw [bit1_nI (bset_64 p hN) (by omega), bset_bit, decide_eq_true hv, Bool.true_and]
/-- what is due to a net does not change by what others lose -/
theorem due_V {X Y : Nat → Int32} {L : List Nat} {N k K v sp : Nat} (hN : N ≤ 6) (hLa : ∀ a, a ∈ L → a < 162) (h : dgV bM eM X N K k L sp v Y) (hv : v < N) : thrE eM Y L v * (prX X + stX X v) = dueE eM X L v := by
  unfold dueE
  refine congrArg (fun q => q * (prX X + stX X v)) (cnt_congr (fun a ha => ?_))
  have := lz_wire (X := X) (L := L) (a := a) eM_g hN hv
  rw [h.2.2.2.1 a ha]
  simp only [this]
theorem lose_u {e : Enc} {Y : Nat → Int32} {j d : Nat} {v : Int32} (hj : 223 ≤ j ∨ j = 4) (hd : d < 6) : loseE e (upd Y j v) d = upd (loseE e Y d) j v := by
  funext a
  by_cases e1 : a = j
  · subst e1; rw [pk_us, loseE_n (by omega) (by omega), pk_us]
  · rw [pk_un e1]
    by_cases e2 : a = 169 + 9 * d + 5
    · subst e2; rw [loseE_5, loseE_5]
    · unfold loseE
      rw [pk_un e2, pk_un e2]
      unfold scan
      split
      · rw [pk_un e1]
      · exact pk_un e1
theorem canB_u {X : Nat → Int32} {i h : Nat} {v : Int32} (hh : h < 6) : canB bM eM (upd X (223 + 13 * i + 5) v) i h ↔ canB bM eM X i h := by
  unfold canB
  rw [pk_un (by omega)]
  refine and_congr Iff.rfl (forall_congr' fun a => forall_congr' fun ha => ?_)
  rw [bM_cg (pk_un (by omega)), pk_un (by omega)]
theorem back_u {X : Nat → Int32} {i h : Nat} {v : Int32} (hh : h < 6) : backG bM eM (upd X (223 + 13 * i + 5) v) i h = upd (backG bM eM X i h) (223 + 13 * i + 5) v := by
  have hb : ∀ a, a < 162 → bM (upd X (223 + 13 * i + 5) v) i a = bM X i a := fun a ha => bM_cg (pk_un (by omega))
  funext a
  by_cases e1 : a = 223 + 13 * i + 5
  · subst e1; rw [pk_us, backG_n (by omega) (by omega), pk_us]
  · rw [pk_un e1]
    by_cases e2 : a = 169 + 9 * h + 5
    · subst e2; rw [backG_5, backG_5]
    · by_cases e3 : 7 ≤ a ∧ a < 169
      · obtain ⟨c, rfl⟩ : ∃ c, a = 7 + c := ⟨a - 7, by omega⟩
        rw [backG_o (by omega) (by omega), backG_o (by omega) (by omega), hb c (by omega), pk_un e1]
      · rw [backG_n (by omega) e2, backG_n (by omega) e2, pk_un e1]

theorem bmI_y {X : Nat → Int32} {W : Nat → Nat → Int32} {o : Int32} {b c : Nat} (hc : c < 162) (hb : ∀ q, q < 6 → W 159 (b + q) = bmI X o q c) (h : X (7 + c) = o) : ∀ q, q < 6 → st2 W 159 (b + c / 27) (bmI X o (c / 27) c ||| (nI 1 <<< (nI (c % 27) &&& 31))) 159 (b + q) = bmI X o q (c + 1) := fun q hq => by
  rw [st2_k]
  show _ = if c / 27 = q ∧ X (7 + c) = o then _ else _
  by_cases e : c / 27 = q
  · subst e; rw [pk_us, if_pos ⟨rfl, h⟩]
  · rw [pk_un (by omega), if_neg (fun z => e z.1)]; exact hb q hq
theorem bmI_n {X : Nat → Int32} {W : Nat → Nat → Int32} {o : Int32} {b c : Nat} (hb : ∀ q, q < 6 → W 159 (b + q) = bmI X o q c) (h : ¬ X (7 + c) = o) : ∀ q, q < 6 → st2 W 159 (b + c / 27) (bmI X o (c / 27) c ||| nI 0) 159 (b + q) = bmI X o q (c + 1) := fun q hq => by
  rw [st2_k]
  show _ = if c / 27 = q ∧ X (7 + c) = o then _ else _
  rw [if_neg (fun z => h z.2)]
  by_cases e : c / 27 = q
  · subst e; rw [pk_us]; exact Int32.or_zero
  · rw [pk_un (by omega)]; exact hb q hq

theorem dX6_bits_0 : decode cX6_bits 0 = .ok (.iconst 0, 1) := by decide +kernel
theorem dX6_bits_1 : decode cX6_bits 1 = .ok (.istore_n 1, 1) := by decide +kernel
theorem dX6_bits_2 : decode cX6_bits 2 = .ok (.iload_n 0, 1) := by decide +kernel
theorem dX6_bits_3 : decode cX6_bits 3 = .ok (.istore_n 2, 1) := by decide +kernel
theorem dX6_bits_4 : decode cX6_bits 4 = .ok (.iload_n 2, 1) := by decide +kernel
theorem dX6_bits_5 : decode cX6_bits 5 = .ok (.ifCond .eq 15, 3) := by decide +kernel
theorem dX6_bits_8 : decode cX6_bits 8 = .ok (.iinc 1 1, 3) := by decide +kernel
theorem dX6_bits_11 : decode cX6_bits 11 = .ok (.iload_n 2, 1) := by decide +kernel
theorem dX6_bits_12 : decode cX6_bits 12 = .ok (.iload_n 2, 1) := by decide +kernel
theorem dX6_bits_13 : decode cX6_bits 13 = .ok (.iconst 1, 1) := by decide +kernel
theorem dX6_bits_14 : decode cX6_bits 14 = .ok (.isub, 1) := by decide +kernel
theorem dX6_bits_15 : decode cX6_bits 15 = .ok (.iand, 1) := by decide +kernel
theorem dX6_bits_16 : decode cX6_bits 16 = .ok (.istore_n 2, 1) := by decide +kernel
theorem dX6_bits_17 : decode cX6_bits 17 = .ok (.goto (-13), 3) := by decide +kernel
theorem dX6_bits_20 : decode cX6_bits 20 = .ok (.iload_n 1, 1) := by decide +kernel
theorem dX6_bits_21 : decode cX6_bits 21 = .ok (.ireturn, 1) := by decide +kernel
abbrev rmX6_bits : Room := { frames := 0, cells := 0, slots := 0, locals := 0 }

set_option maxRecDepth 100000 in
set_option maxHeartbeats 4000000 in
theorem c_X6_bits {l : Launch} {g : Geo} {M : Nat → Nat → Int32} {P : Nat → Nat} {b : Nat} (hb : b < 64) : Met l yX6_bits wsX6_bits rmX6_bits (cPre g [.int (nI b)] M P) (cQi g (fun r M' P' => (P = P' ∧ M = M') ∧ r = nI (bcnt b))) 0 0 (gA g) := by
  refine met_i (cc := cX6_bits) (maxL := 3) (by decide) rfl ⟨rfl, rfl⟩ (Nat.le_of_ble_eq_true rfl) (fun x hx h hret => ?_)
  replace h : Cxk x g cX6_bits 3 wsX6_bits RX6 rmX6_bits := h
  show X x 0 [(0, .int (nI b))] [] M P
  refine x_iconst h (nI 0) dX6_bits_0 (by decide) ?_
  refine x_istore_n h [(1, .int (nI 0)), (0, .int (nI b))] dX6_bits_1 rfl (by decide) rfl ?_
  refine x_iload_n h 1 dX6_bits_2 rfl rfl ?_
  refine x_istore_n h [(2, .int (nI b)), (1, .int (nI 0)), (0, .int (nI b))] dX6_bits_3 rfl (by decide) rfl ?_
  have L4 : ∀ (fu : Nat) (t : Nat) (q : Nat), t < fu → (t < 64) → (q + bcnt t = bcnt b) → X x 4 [(0, .int (nI b)), (1, .int (nI q)), (2, .int (nI t))] [] M P := by
    intro fu
    induction fu with
    | zero => intro t q hmu4; exact absurd hmu4 (Nat.not_lt_zero _)
    | succ fu ih4 =>
      intro t q hmu4 ht hq
      refine x_iload_n h 2 dX6_bits_4 rfl rfl ?_
      refine x_if_eq_n h 20 dX6_bits_5 (by decide) (by omega) (fun c_5 => ?_) (fun c_5 => ?_)
      · -- 5 true
        refine x_iload_n h 1 dX6_bits_20 rfl rfl ?_
        exact hret _ _ _ _ _ dX6_bits_21 (by subst c_5; rw [bcnt_0] at hq; exact ⟨⟨rfl, rfl⟩, by rw [← hq]; rfl⟩)
      · -- 5 false
        obtain ⟨g1, g2, g3⟩ := bits_s ht c_5
        refine x_iinc_n h 1 (n := 1) [(1, .int (nI (q + 1))), (0, .int (nI b)), (2, .int (nI t))] dX6_bits_8 rfl (by decide) rfl ?_
        refine x_iload_n h 2 dX6_bits_11 rfl rfl ?_
        refine x_iload_n h 2 dX6_bits_12 rfl rfl ?_
        refine x_iconst h (nI 1) dX6_bits_13 (by decide) ?_
        refine x_isub h dX6_bits_14 ?_
        refine x_iand h dX6_bits_15 ?_
        refine x_top (nI (t &&& (t - 1))) g1 ?_
        refine x_istore_n h [(2, .int (nI (t &&& (t - 1)))), (1, .int (nI (q + 1))), (0, .int (nI b))] dX6_bits_16 rfl (by decide) rfl ?_
        refine x_goto h 4 dX6_bits_17 (by decide) ?_
        exact x_lv (ih4 (t &&& (t - 1)) (q + 1) (by omega) (by omega) (by omega)) [2, 1, 0] rfl
  exact x_lv (L4 _ b 0 (Nat.lt_succ_self _) (by exact hb) (by exact Nat.zero_add _)) [2, 1, 0] rfl

set_option maxRecDepth 20000 in
theorem ggX6_pays_X6_adds : GoodIn wsX6_pays wsX6_adds := goodIn_r _ [5, 6, 7, 8, 9, 10, 11, 12, 13, 14, 15, 16, 17, 18, 19, 20, 21, 22, 23, 24, 25] (by decide +kernel) (by decide +kernel)
set_option maxRecDepth 20000 in
theorem gX6_pays_X6_adds : GoodIn wsX6_pays (wsV RX6 81 RX6 yX6_adds wsX6_adds) := goodIn_app (goodIn_of _ (by decide +kernel)) ggX6_pays_X6_adds
theorem dX6_pays_0 : decode cX6_pays 0 = .ok (.aload_n 0, 1) := by decide +kernel
theorem dX6_pays_1 : decode cX6_pays 1 = .ok (.iload_n 1, 1) := by decide +kernel
theorem dX6_pays_2 : decode cX6_pays 2 = .ok (.iconst 4, 1) := by decide +kernel
theorem dX6_pays_3 : decode cX6_pays 3 = .ok (.iload_n 3, 1) := by decide +kernel
theorem dX6_pays_4 : decode cX6_pays 4 = .ok (.ineg, 1) := by decide +kernel
theorem dX6_pays_5 : decode cX6_pays 5 = .ok (.invokevirtual 81, 3) := by decide +kernel
theorem dX6_pays_8 : decode cX6_pays 8 = .ok (.aload_n 0, 1) := by decide +kernel
theorem dX6_pays_9 : decode cX6_pays 9 = .ok (.iload_n 1, 1) := by decide +kernel
theorem dX6_pays_10 : decode cX6_pays 10 = .ok (.bipush 7, 2) := by decide +kernel
theorem dX6_pays_12 : decode cX6_pays 12 = .ok (.iload_n 3, 1) := by decide +kernel
theorem dX6_pays_13 : decode cX6_pays 13 = .ok (.invokevirtual 81, 3) := by decide +kernel
theorem dX6_pays_16 : decode cX6_pays 16 = .ok (.aload_n 0, 1) := by decide +kernel
theorem dX6_pays_17 : decode cX6_pays 17 = .ok (.iload_n 2, 1) := by decide +kernel
theorem dX6_pays_18 : decode cX6_pays 18 = .ok (.iconst 4, 1) := by decide +kernel
theorem dX6_pays_19 : decode cX6_pays 19 = .ok (.iload_n 3, 1) := by decide +kernel
theorem dX6_pays_20 : decode cX6_pays 20 = .ok (.invokevirtual 81, 3) := by decide +kernel
theorem dX6_pays_23 : decode cX6_pays 23 = .ok (.aload_n 0, 1) := by decide +kernel
theorem dX6_pays_24 : decode cX6_pays 24 = .ok (.iload_n 2, 1) := by decide +kernel
theorem dX6_pays_25 : decode cX6_pays 25 = .ok (.bipush 8, 2) := by decide +kernel
theorem dX6_pays_27 : decode cX6_pays 27 = .ok (.iload_n 3, 1) := by decide +kernel
theorem dX6_pays_28 : decode cX6_pays 28 = .ok (.invokevirtual 81, 3) := by decide +kernel
theorem dX6_pays_31 : decode cX6_pays 31 = .ok (.return_, 1) := by decide +kernel
abbrev rmX6_pays : Room := { frames := 1, cells := 0, slots := 0, locals := 23 }

set_option maxRecDepth 100000 in
set_option maxHeartbeats 4000000 in
theorem c_X6_pays {l : Launch} {g : Geo} {M : Nat → Nat → Int32} {P : Nat → Nat} {n o : Nat} (hn6 : n < 6) (ho6 : o < 6) {w : Int32} : Met l yX6_pays wsX6_pays rmX6_pays (cPre g [.ref (g.1 158), .int (nI n), .int (nI o), .int w] M P) (cQv g (fun M' P' => P = P' ∧ M' = va_up M 159 (recvX (spendX (M 159) n w) o w))) 0 0 (gA g) := by
  refine met_v (cc := cX6_pays) (maxL := 4) (by decide) rfl ⟨rfl, rfl⟩ (Nat.le_of_ble_eq_true rfl) (fun x hx h hret => ?_)
  replace h : Cxk x g cX6_pays 4 wsX6_pays RX6 rmX6_pays := h
  show X x 0 [(0, .ref (g.1 158)), (1, .int (nI n)), (2, .int (nI o)), (3, .int w)] [] M P
  refine x_aload_n h 0 dX6_pays_0 rfl rfl ?_
  refine x_iload_n h 1 dX6_pays_1 rfl rfl ?_
  refine x_iconst h (nI 4) dX6_pays_2 (by decide) ?_
  refine x_iload_n h 3 dX6_pays_3 rfl rfl ?_
  refine x_ineg h dX6_pays_4 ?_
  refine x_callVv h (As := [.int (nI n), .int (nI 4), .int (-w)]) 3 hx (c_X6_adds (by omega) (by decide)) gX6_pays_X6_adds rfl ⟨rfl, rfl⟩ (by decide +kernel) rfl (by decide) (by decide) E_158 rfl rfl (Nat.le_of_ble_eq_true rfl) dX6_pays_5 (fun M5 P' hp => ?_)
  obtain ⟨rfl, hM5⟩ := hp
  refine x_aload_n h 0 dX6_pays_8 rfl rfl ?_
  refine x_iload_n h 1 dX6_pays_9 rfl rfl ?_
  refine x_bipush h (nI 7) dX6_pays_10 (by decide) ?_
  refine x_iload_n h 3 dX6_pays_12 rfl rfl ?_
  refine x_callVv h (As := [.int (nI n), .int (nI 7), .int w]) 3 hx (c_X6_adds (by omega) (by decide)) gX6_pays_X6_adds rfl ⟨rfl, rfl⟩ (by decide +kernel) rfl (by decide) (by decide) E_158 rfl rfl (Nat.le_of_ble_eq_true rfl) dX6_pays_13 (fun M13 P' hp => ?_)
  obtain ⟨rfl, hM13⟩ := hp
  refine x_aload_n h 0 dX6_pays_16 rfl rfl ?_
  refine x_iload_n h 2 dX6_pays_17 rfl rfl ?_
  refine x_iconst h (nI 4) dX6_pays_18 (by decide) ?_
  refine x_iload_n h 3 dX6_pays_19 rfl rfl ?_
  refine x_callVv h (As := [.int (nI o), .int (nI 4), .int w]) 3 hx (c_X6_adds (by omega) (by decide)) gX6_pays_X6_adds rfl ⟨rfl, rfl⟩ (by decide +kernel) rfl (by decide) (by decide) E_158 rfl rfl (Nat.le_of_ble_eq_true rfl) dX6_pays_20 (fun M20 P' hp => ?_)
  obtain ⟨rfl, hM20⟩ := hp
  refine x_aload_n h 0 dX6_pays_23 rfl rfl ?_
  refine x_iload_n h 2 dX6_pays_24 rfl rfl ?_
  refine x_bipush h (nI 8) dX6_pays_25 (by decide) ?_
  refine x_iload_n h 3 dX6_pays_27 rfl rfl ?_
  refine x_callVv h (As := [.int (nI o), .int (nI 8), .int w]) 3 hx (c_X6_adds (by omega) (by decide)) gX6_pays_X6_adds rfl ⟨rfl, rfl⟩ (by decide +kernel) rfl (by decide) (by decide) E_158 rfl rfl (Nat.le_of_ble_eq_true rfl) dX6_pays_28 (fun M28 P' hp => ?_)
  obtain ⟨rfl, hM28⟩ := hp
  exact hret _ _ _ _ dX6_pays_31 (by refine ⟨rfl, ?_⟩; rw [hM28, hM20, hM13, hM5]; simp only [va_up_up, va_up_k]; exact congrArg _ (pays_eq (M 159) n o w))

set_option maxRecDepth 20000 in
theorem ggX6_claims_X6_wireMany : GoodIn wsX6_claims wsX6_wireMany := goodIn_r _ [6, 1, 11, 12, 13, 14, 15, 16, 17, 18, 19, 20, 21, 22, 23, 24, 25, 26, 27, 28, 29] (by decide +kernel) (by decide +kernel)
set_option maxRecDepth 20000 in
theorem gX6_claims_X6_wireMany : GoodIn wsX6_claims (wsV RX6 86 RX6 yX6_wireMany wsX6_wireMany) := goodIn_app (goodIn_of _ (by decide +kernel)) ggX6_claims_X6_wireMany
set_option maxRecDepth 20000 in
theorem ggX6_claims_X6_viaMany : GoodIn wsX6_claims wsX6_viaMany := goodIn_r _ [10, 1, 11, 12, 13, 14, 15, 16, 17, 18, 19, 20, 21, 22, 23, 24, 25, 26, 27, 28, 29] (by decide +kernel) (by decide +kernel)
set_option maxRecDepth 20000 in
theorem gX6_claims_X6_viaMany : GoodIn wsX6_claims (wsV RX6 89 RX6 yX6_viaMany wsX6_viaMany) := goodIn_app (goodIn_of _ (by decide +kernel)) ggX6_claims_X6_viaMany
theorem dX6_claims_0 : decode cX6_claims 0 = .ok (.sipush 223, 3) := by decide +kernel
theorem dX6_claims_3 : decode cX6_claims 3 = .ok (.bipush 13, 2) := by decide +kernel
theorem dX6_claims_5 : decode cX6_claims 5 = .ok (.aload_n 0, 1) := by decide +kernel
theorem dX6_claims_6 : decode cX6_claims 6 = .ok (.getfield 7, 3) := by decide +kernel
theorem dX6_claims_9 : decode cX6_claims 9 = .ok (.bipush 6, 2) := by decide +kernel
theorem dX6_claims_11 : decode cX6_claims 11 = .ok (.iaload, 1) := by decide +kernel
theorem dX6_claims_12 : decode cX6_claims 12 = .ok (.imul, 1) := by decide +kernel
theorem dX6_claims_13 : decode cX6_claims 13 = .ok (.iadd, 1) := by decide +kernel
theorem dX6_claims_14 : decode cX6_claims 14 = .ok (.istore 4, 2) := by decide +kernel
theorem dX6_claims_16 : decode cX6_claims 16 = .ok (.aload_n 0, 1) := by decide +kernel
theorem dX6_claims_17 : decode cX6_claims 17 = .ok (.getfield 7, 3) := by decide +kernel
theorem dX6_claims_20 : decode cX6_claims 20 = .ok (.iload 4, 2) := by decide +kernel
theorem dX6_claims_22 : decode cX6_claims 22 = .ok (.iconst 0, 1) := by decide +kernel
theorem dX6_claims_23 : decode cX6_claims 23 = .ok (.iadd, 1) := by decide +kernel
theorem dX6_claims_24 : decode cX6_claims 24 = .ok (.iload_n 2, 1) := by decide +kernel
theorem dX6_claims_25 : decode cX6_claims 25 = .ok (.iastore, 1) := by decide +kernel
theorem dX6_claims_26 : decode cX6_claims 26 = .ok (.aload_n 0, 1) := by decide +kernel
theorem dX6_claims_27 : decode cX6_claims 27 = .ok (.getfield 7, 3) := by decide +kernel
theorem dX6_claims_30 : decode cX6_claims 30 = .ok (.iload 4, 2) := by decide +kernel
theorem dX6_claims_32 : decode cX6_claims 32 = .ok (.iconst 1, 1) := by decide +kernel
theorem dX6_claims_33 : decode cX6_claims 33 = .ok (.iadd, 1) := by decide +kernel
theorem dX6_claims_34 : decode cX6_claims 34 = .ok (.iload_n 1, 1) := by decide +kernel
theorem dX6_claims_35 : decode cX6_claims 35 = .ok (.iastore, 1) := by decide +kernel
theorem dX6_claims_36 : decode cX6_claims 36 = .ok (.aload_n 0, 1) := by decide +kernel
theorem dX6_claims_37 : decode cX6_claims 37 = .ok (.getfield 7, 3) := by decide +kernel
theorem dX6_claims_40 : decode cX6_claims 40 = .ok (.iload 4, 2) := by decide +kernel
theorem dX6_claims_42 : decode cX6_claims 42 = .ok (.iconst 2, 1) := by decide +kernel
theorem dX6_claims_43 : decode cX6_claims 43 = .ok (.iadd, 1) := by decide +kernel
theorem dX6_claims_44 : decode cX6_claims 44 = .ok (.aload_n 0, 1) := by decide +kernel
theorem dX6_claims_45 : decode cX6_claims 45 = .ok (.iload_n 2, 1) := by decide +kernel
theorem dX6_claims_46 : decode cX6_claims 46 = .ok (.invokevirtual 86, 3) := by decide +kernel
theorem dX6_claims_49 : decode cX6_claims 49 = .ok (.iastore, 1) := by decide +kernel
theorem dX6_claims_50 : decode cX6_claims 50 = .ok (.aload_n 0, 1) := by decide +kernel
theorem dX6_claims_51 : decode cX6_claims 51 = .ok (.getfield 7, 3) := by decide +kernel
theorem dX6_claims_54 : decode cX6_claims 54 = .ok (.iload 4, 2) := by decide +kernel
theorem dX6_claims_56 : decode cX6_claims 56 = .ok (.iconst 3, 1) := by decide +kernel
theorem dX6_claims_57 : decode cX6_claims 57 = .ok (.iadd, 1) := by decide +kernel
theorem dX6_claims_58 : decode cX6_claims 58 = .ok (.aload_n 0, 1) := by decide +kernel
theorem dX6_claims_59 : decode cX6_claims 59 = .ok (.iload_n 2, 1) := by decide +kernel
theorem dX6_claims_60 : decode cX6_claims 60 = .ok (.invokevirtual 89, 3) := by decide +kernel
theorem dX6_claims_63 : decode cX6_claims 63 = .ok (.iastore, 1) := by decide +kernel
theorem dX6_claims_64 : decode cX6_claims 64 = .ok (.aload_n 0, 1) := by decide +kernel
theorem dX6_claims_65 : decode cX6_claims 65 = .ok (.getfield 7, 3) := by decide +kernel
theorem dX6_claims_68 : decode cX6_claims 68 = .ok (.iload 4, 2) := by decide +kernel
theorem dX6_claims_70 : decode cX6_claims 70 = .ok (.iconst 4, 1) := by decide +kernel
theorem dX6_claims_71 : decode cX6_claims 71 = .ok (.iadd, 1) := by decide +kernel
theorem dX6_claims_72 : decode cX6_claims 72 = .ok (.iload_n 3, 1) := by decide +kernel
theorem dX6_claims_73 : decode cX6_claims 73 = .ok (.iastore, 1) := by decide +kernel
theorem dX6_claims_74 : decode cX6_claims 74 = .ok (.aload_n 0, 1) := by decide +kernel
theorem dX6_claims_75 : decode cX6_claims 75 = .ok (.getfield 7, 3) := by decide +kernel
theorem dX6_claims_78 : decode cX6_claims 78 = .ok (.iload 4, 2) := by decide +kernel
theorem dX6_claims_80 : decode cX6_claims 80 = .ok (.iconst 5, 1) := by decide +kernel
theorem dX6_claims_81 : decode cX6_claims 81 = .ok (.iadd, 1) := by decide +kernel
theorem dX6_claims_82 : decode cX6_claims 82 = .ok (.iconst 0, 1) := by decide +kernel
theorem dX6_claims_83 : decode cX6_claims 83 = .ok (.iastore, 1) := by decide +kernel
theorem dX6_claims_84 : decode cX6_claims 84 = .ok (.aload_n 0, 1) := by decide +kernel
theorem dX6_claims_85 : decode cX6_claims 85 = .ok (.getfield 7, 3) := by decide +kernel
theorem dX6_claims_88 : decode cX6_claims 88 = .ok (.iload 4, 2) := by decide +kernel
theorem dX6_claims_90 : decode cX6_claims 90 = .ok (.bipush 6, 2) := by decide +kernel
theorem dX6_claims_92 : decode cX6_claims 92 = .ok (.iadd, 1) := by decide +kernel
theorem dX6_claims_93 : decode cX6_claims 93 = .ok (.aload_n 0, 1) := by decide +kernel
theorem dX6_claims_94 : decode cX6_claims 94 = .ok (.getfield 7, 3) := by decide +kernel
theorem dX6_claims_97 : decode cX6_claims 97 = .ok (.iconst 4, 1) := by decide +kernel
theorem dX6_claims_98 : decode cX6_claims 98 = .ok (.iaload, 1) := by decide +kernel
theorem dX6_claims_99 : decode cX6_claims 99 = .ok (.iastore, 1) := by decide +kernel
theorem dX6_claims_100 : decode cX6_claims 100 = .ok (.iconst 0, 1) := by decide +kernel
theorem dX6_claims_101 : decode cX6_claims 101 = .ok (.istore 5, 2) := by decide +kernel
theorem dX6_claims_103 : decode cX6_claims 103 = .ok (.iload 5, 2) := by decide +kernel
theorem dX6_claims_105 : decode cX6_claims 105 = .ok (.bipush 6, 2) := by decide +kernel
theorem dX6_claims_107 : decode cX6_claims 107 = .ok (.if_icmp .ge 23, 3) := by decide +kernel
theorem dX6_claims_110 : decode cX6_claims 110 = .ok (.aload_n 0, 1) := by decide +kernel
theorem dX6_claims_111 : decode cX6_claims 111 = .ok (.getfield 7, 3) := by decide +kernel
theorem dX6_claims_114 : decode cX6_claims 114 = .ok (.iload 4, 2) := by decide +kernel
theorem dX6_claims_116 : decode cX6_claims 116 = .ok (.bipush 7, 2) := by decide +kernel
theorem dX6_claims_118 : decode cX6_claims 118 = .ok (.iadd, 1) := by decide +kernel
theorem dX6_claims_119 : decode cX6_claims 119 = .ok (.iload 5, 2) := by decide +kernel
theorem dX6_claims_121 : decode cX6_claims 121 = .ok (.iadd, 1) := by decide +kernel
theorem dX6_claims_122 : decode cX6_claims 122 = .ok (.iconst 0, 1) := by decide +kernel
theorem dX6_claims_123 : decode cX6_claims 123 = .ok (.iastore, 1) := by decide +kernel
theorem dX6_claims_124 : decode cX6_claims 124 = .ok (.iinc 5 1, 3) := by decide +kernel
theorem dX6_claims_127 : decode cX6_claims 127 = .ok (.goto (-24), 3) := by decide +kernel
theorem dX6_claims_130 : decode cX6_claims 130 = .ok (.iconst 0, 1) := by decide +kernel
theorem dX6_claims_131 : decode cX6_claims 131 = .ok (.istore 5, 2) := by decide +kernel
theorem dX6_claims_133 : decode cX6_claims 133 = .ok (.iload 5, 2) := by decide +kernel
theorem dX6_claims_135 : decode cX6_claims 135 = .ok (.sipush 162, 3) := by decide +kernel
theorem dX6_claims_138 : decode cX6_claims 138 = .ok (.if_icmp .ge 55, 3) := by decide +kernel
theorem dX6_claims_141 : decode cX6_claims 141 = .ok (.aload_n 0, 1) := by decide +kernel
theorem dX6_claims_142 : decode cX6_claims 142 = .ok (.getfield 7, 3) := by decide +kernel
theorem dX6_claims_145 : decode cX6_claims 145 = .ok (.iload 4, 2) := by decide +kernel
theorem dX6_claims_147 : decode cX6_claims 147 = .ok (.bipush 7, 2) := by decide +kernel
theorem dX6_claims_149 : decode cX6_claims 149 = .ok (.iadd, 1) := by decide +kernel
theorem dX6_claims_150 : decode cX6_claims 150 = .ok (.iload 5, 2) := by decide +kernel
theorem dX6_claims_152 : decode cX6_claims 152 = .ok (.bipush 27, 2) := by decide +kernel
theorem dX6_claims_154 : decode cX6_claims 154 = .ok (.idiv, 1) := by decide +kernel
theorem dX6_claims_155 : decode cX6_claims 155 = .ok (.iadd, 1) := by decide +kernel
theorem dX6_claims_156 : decode cX6_claims 156 = .ok (.dup2, 1) := by decide +kernel
theorem dX6_claims_157 : decode cX6_claims 157 = .ok (.iaload, 1) := by decide +kernel
theorem dX6_claims_158 : decode cX6_claims 158 = .ok (.aload_n 0, 1) := by decide +kernel
theorem dX6_claims_159 : decode cX6_claims 159 = .ok (.getfield 7, 3) := by decide +kernel
theorem dX6_claims_162 : decode cX6_claims 162 = .ok (.bipush 7, 2) := by decide +kernel
theorem dX6_claims_164 : decode cX6_claims 164 = .ok (.iload 5, 2) := by decide +kernel
theorem dX6_claims_166 : decode cX6_claims 166 = .ok (.iadd, 1) := by decide +kernel
theorem dX6_claims_167 : decode cX6_claims 167 = .ok (.iaload, 1) := by decide +kernel
theorem dX6_claims_168 : decode cX6_claims 168 = .ok (.iconst 1, 1) := by decide +kernel
theorem dX6_claims_169 : decode cX6_claims 169 = .ok (.iload_n 2, 1) := by decide +kernel
theorem dX6_claims_170 : decode cX6_claims 170 = .ok (.iadd, 1) := by decide +kernel
theorem dX6_claims_171 : decode cX6_claims 171 = .ok (.if_icmp .ne 13, 3) := by decide +kernel
theorem dX6_claims_174 : decode cX6_claims 174 = .ok (.iconst 1, 1) := by decide +kernel
theorem dX6_claims_175 : decode cX6_claims 175 = .ok (.iload 5, 2) := by decide +kernel
theorem dX6_claims_177 : decode cX6_claims 177 = .ok (.bipush 27, 2) := by decide +kernel
theorem dX6_claims_179 : decode cX6_claims 179 = .ok (.irem, 1) := by decide +kernel
theorem dX6_claims_180 : decode cX6_claims 180 = .ok (.ishl, 1) := by decide +kernel
theorem dX6_claims_181 : decode cX6_claims 181 = .ok (.goto 4, 3) := by decide +kernel
theorem dX6_claims_184 : decode cX6_claims 184 = .ok (.iconst 0, 1) := by decide +kernel
theorem dX6_claims_185 : decode cX6_claims 185 = .ok (.ior, 1) := by decide +kernel
theorem dX6_claims_186 : decode cX6_claims 186 = .ok (.iastore, 1) := by decide +kernel
theorem dX6_claims_187 : decode cX6_claims 187 = .ok (.iinc 5 1, 3) := by decide +kernel
theorem dX6_claims_190 : decode cX6_claims 190 = .ok (.goto (-57), 3) := by decide +kernel
theorem dX6_claims_193 : decode cX6_claims 193 = .ok (.aload_n 0, 1) := by decide +kernel
theorem dX6_claims_194 : decode cX6_claims 194 = .ok (.getfield 7, 3) := by decide +kernel
theorem dX6_claims_197 : decode cX6_claims 197 = .ok (.bipush 6, 2) := by decide +kernel
theorem dX6_claims_199 : decode cX6_claims 199 = .ok (.dup2, 1) := by decide +kernel
theorem dX6_claims_200 : decode cX6_claims 200 = .ok (.iaload, 1) := by decide +kernel
theorem dX6_claims_201 : decode cX6_claims 201 = .ok (.iconst 1, 1) := by decide +kernel
theorem dX6_claims_202 : decode cX6_claims 202 = .ok (.iadd, 1) := by decide +kernel
theorem dX6_claims_203 : decode cX6_claims 203 = .ok (.iastore, 1) := by decide +kernel
theorem dX6_claims_204 : decode cX6_claims 204 = .ok (.return_, 1) := by decide +kernel
abbrev rmX6_claims : Room := { frames := 1, cells := 0, slots := 0, locals := 23 }
set_option maxRecDepth 20000 in
theorem in_X6_claims_X6 : ∀ w ∈ wsX60, w ∈ wsX6_claims := by decide +kernel

set_option maxRecDepth 100000 in
set_option maxHeartbeats 16000000 in
theorem c_X6_claims {l : Launch} {g : Geo} {M : Nat → Nat → Int32} {P : Nat → Nat} {K : Nat} (hK : M 159 6 = nI K) (hK12 : K < 12) {v n : Nat} (hv6 : v < 6) {w : Int32} : Met l yX6_claims wsX6_claims rmX6_claims (cPre g [.ref (g.1 158), .int (nI n), .int (nI v), .int w] M P) (cQv g (fun M' P' => P = P' ∧ M' = va_up M 159 (claimE mkM eM (M 159) K v n w))) 0 0 (gA g) := by
  refine met_v (cc := cX6_claims) (maxL := 6) (by decide) rfl ⟨rfl, rfl⟩ (Nat.le_of_ble_eq_true rfl) (fun x hx h hret => ?_)
  replace h : Cxk x g cX6_claims 6 wsX6_claims RX6 rmX6_claims := h
  show X x 0 [(0, .ref (g.1 158)), (1, .int (nI n)), (2, .int (nI v)), (3, .int w)] [] M P
  refine x_sipush h (nI 223) dX6_claims_0 (by decide) ?_
  refine x_bipush h (nI 13) dX6_claims_3 (by decide) ?_
  refine x_aload_n h 0 dX6_claims_5 rfl rfl ?_
  refine xg_X6_0 h in_X6_claims_X6 (by decide +kernel) dX6_claims_6 ?_
  refine x_bipush h (nI 6) dX6_claims_9 (by decide) ?_
  refine xl_159 h dX6_claims_11 (by decide) ?_
  refine x_top (nI K) (hK) ?_
  refine x_imul_n h dX6_claims_12 ?_
  refine x_iadd_n h dX6_claims_13 ?_
  refine x_istore h [(4, .int (nI (223 + (13 * K)))), (0, .ref (g.1 158)), (1, .int (nI n)), (2, .int (nI v)), (3, .int w)] dX6_claims_14 (by decide) rfl ?_
  refine x_aload_n h 1 dX6_claims_16 rfl rfl ?_
  refine xg_X6_0 h in_X6_claims_X6 (by decide +kernel) dX6_claims_17 ?_
  refine x_iload h 0 dX6_claims_20 rfl ?_
  refine x_iconst h (nI 0) dX6_claims_22 (by decide) ?_
  refine x_iadd_n h dX6_claims_23 ?_
  refine x_iload_n h 3 dX6_claims_24 rfl rfl ?_
  refine xs_159 h dX6_claims_25 (by omega) ?_
  refine x_aload_n h 1 dX6_claims_26 rfl rfl ?_
  refine xg_X6_0 h in_X6_claims_X6 (by decide +kernel) dX6_claims_27 ?_
  refine x_iload h 0 dX6_claims_30 rfl ?_
  refine x_iconst h (nI 1) dX6_claims_32 (by decide) ?_
  refine x_iadd_n h dX6_claims_33 ?_
  refine x_iload_n h 2 dX6_claims_34 rfl rfl ?_
  refine xs_159 h dX6_claims_35 (by omega) ?_
  refine x_aload_n h 1 dX6_claims_36 rfl rfl ?_
  refine xg_X6_0 h in_X6_claims_X6 (by decide +kernel) dX6_claims_37 ?_
  refine x_iload h 0 dX6_claims_40 rfl ?_
  refine x_iconst h (nI 2) dX6_claims_42 (by decide) ?_
  refine x_iadd_n h dX6_claims_43 ?_
  refine x_aload_n h 1 dX6_claims_44 rfl rfl ?_
  refine x_iload_n h 3 dX6_claims_45 rfl rfl ?_
  refine x_callV h (As := [.int (nI v)]) 1 hx (c_X6_wireMany (by omega)) gX6_claims_X6_wireMany rfl ⟨rfl, rfl⟩ (by decide +kernel) rfl (by decide) (by decide) E_158 rfl rfl (Nat.le_of_ble_eq_true rfl) dX6_claims_46 (fun rv M' P' hp => ?_)
  obtain ⟨⟨rfl, rfl⟩, rfl⟩ := hp
  refine x_top (nI (wir (M 159) (nI (1 + v)))) (by rw [wir_cg (Y := M 159) (fun a ha => by simp only [st2_k]; (repeat rw [pk_un (by omega)]))]) ?_
  refine xs_159 h dX6_claims_49 (by omega) ?_
  refine x_aload_n h 1 dX6_claims_50 rfl rfl ?_
  refine xg_X6_0 h in_X6_claims_X6 (by decide +kernel) dX6_claims_51 ?_
  refine x_iload h 0 dX6_claims_54 rfl ?_
  refine x_iconst h (nI 3) dX6_claims_56 (by decide) ?_
  refine x_iadd_n h dX6_claims_57 ?_
  refine x_aload_n h 1 dX6_claims_58 rfl rfl ?_
  refine x_iload_n h 3 dX6_claims_59 rfl rfl ?_
  refine x_callV h (As := [.int (nI v)]) 1 hx (c_X6_viaMany (by omega)) gX6_claims_X6_viaMany rfl ⟨rfl, rfl⟩ (by decide +kernel) rfl (by decide) (by decide) E_158 rfl rfl (Nat.le_of_ble_eq_true rfl) dX6_claims_60 (fun rv M' P' hp => ?_)
  obtain ⟨⟨rfl, rfl⟩, rfl⟩ := hp
  refine x_top (nI (via (M 159) (nI (1 + v)))) (by rw [via_cg (Y := M 159) (fun a ha => by simp only [st2_k]; (repeat rw [pk_un (by omega)]))]) ?_
  refine xs_159 h dX6_claims_63 (by omega) ?_
  refine x_aload_n h 1 dX6_claims_64 rfl rfl ?_
  refine xg_X6_0 h in_X6_claims_X6 (by decide +kernel) dX6_claims_65 ?_
  refine x_iload h 0 dX6_claims_68 rfl ?_
  refine x_iconst h (nI 4) dX6_claims_70 (by decide) ?_
  refine x_iadd_n h dX6_claims_71 ?_
  refine x_iload_n h 4 dX6_claims_72 rfl rfl ?_
  refine xs_159 h dX6_claims_73 (by omega) ?_
  refine x_aload_n h 1 dX6_claims_74 rfl rfl ?_
  refine xg_X6_0 h in_X6_claims_X6 (by decide +kernel) dX6_claims_75 ?_
  refine x_iload h 0 dX6_claims_78 rfl ?_
  refine x_iconst h (nI 5) dX6_claims_80 (by decide) ?_
  refine x_iadd_n h dX6_claims_81 ?_
  refine x_iconst h (nI 0) dX6_claims_82 (by decide) ?_
  refine xs_159 h dX6_claims_83 (by omega) ?_
  refine x_aload_n h 1 dX6_claims_84 rfl rfl ?_
  refine xg_X6_0 h in_X6_claims_X6 (by decide +kernel) dX6_claims_85 ?_
  refine x_iload h 0 dX6_claims_88 rfl ?_
  refine x_bipush h (nI 6) dX6_claims_90 (by decide) ?_
  refine x_iadd_n h dX6_claims_92 ?_
  refine x_aload_n h 1 dX6_claims_93 rfl rfl ?_
  refine xg_X6_0 h in_X6_claims_X6 (by decide +kernel) dX6_claims_94 ?_
  refine x_iconst h (nI 4) dX6_claims_97 (by decide) ?_
  refine xl_159 h dX6_claims_98 (by decide) ?_
  refine x_top ((M 159 4)) (by simp only [st2_k]; (repeat rw [pk_un (by omega)])) ?_
  refine xs_159 h dX6_claims_99 (by omega) ?_
  obtain ⟨W1, hW1⟩ : ∃ q : Nat → Nat → Int32, q = st2 (st2 (st2 (st2 (st2 (st2 (st2 M 159 ((223 + (13 * K)) + 0) (nI v)) 159 ((223 + (13 * K)) + 1) (nI n)) 159 ((223 + (13 * K)) + 2) (nI (wir (M 159) (nI (1 + v))))) 159 ((223 + (13 * K)) + 3) (nI (via (M 159) (nI (1 + v))))) 159 ((223 + (13 * K)) + 4) w) 159 ((223 + (13 * K)) + 5) (nI 0)) 159 ((223 + (13 * K)) + 6) (M 159 4) := ⟨_, rfl⟩
  refine x_mem W1 hW1.symm ?_
  have h1k : ∀ k, k ≠ 159 → W1 k = M k := fun k hk => by rw [hW1]; (repeat rw [st2_n _ _ _ hk])
  have h1r : W1 159 = (clm7 (M 159) K (nI v) (nI n) (nI (wir (M 159) (nI (1 + v)))) (nI (via (M 159) (nI (1 + v)))) w) := by rw [hW1]; simp only [st2_k]; rfl
  refine x_iconst h (nI 0) dX6_claims_100 (by decide) ?_
  refine x_istore h [(5, .int (nI 0)), (4, .int (nI (223 + (13 * K)))), (0, .ref (g.1 158)), (1, .int (nI n)), (2, .int (nI v)), (3, .int w)] dX6_claims_101 (by decide) rfl ?_
  have L103 : ∀ (fu : Nat) (i : Nat) (W : Nat → Nat → Int32), (6 - i) < fu → (i ≤ 6) → (∀ k, k ≠ 159 → W k = M k) → (∀ t, t < i → W 159 (223 + 13 * K + 7 + t) = nI 0) → (∀ j, ¬ (223 + 13 * K + 7 ≤ j ∧ j < 223 + 13 * K + 13) → W 159 j = (clm7 (M 159) K (nI v) (nI n) (nI (wir (M 159) (nI (1 + v)))) (nI (via (M 159) (nI (1 + v)))) w) j) → X x 103 [(0, .ref (g.1 158)), (1, .int (nI n)), (2, .int (nI v)), (3, .int w), (4, .int (nI (223 + 13 * K))), (5, .int (nI i))] [] W P := by
    intro fu
    induction fu with
    | zero => intro i W hmu103; exact absurd hmu103 (Nat.not_lt_zero _)
    | succ fu ih103 =>
      intro i W hmu103 hi hWk hz ho
      refine x_iload h 5 dX6_claims_103 rfl ?_
      refine x_bipush h (nI 6) dX6_claims_105 (by decide) ?_
      refine x_icmp_ge_n h 130 dX6_claims_107 (by decide) (by omega) (by decide) (fun c_107 => ?_) (fun c_107 => ?_)
      · -- 107 true
        refine x_iconst h (nI 0) dX6_claims_130 (by decide) ?_
        refine x_istore h [(5, .int (nI 0)), (0, .ref (g.1 158)), (1, .int (nI n)), (2, .int (nI v)), (3, .int w), (4, .int (nI (223 + 13 * K)))] dX6_claims_131 (by decide) rfl ?_
        have L133 : ∀ (fu : Nat) (c : Nat) (W2 : Nat → Nat → Int32), (162 - c) < fu → (c ≤ 162) → (∀ k, k ≠ 159 → W2 k = M k) → (∀ q, q < 6 → W2 159 (223 + 13 * K + 7 + q) = bmI (M 159) (nI (1 + v)) (q) c) → (∀ j, ¬ (223 + 13 * K + 7 ≤ j ∧ j < 223 + 13 * K + 13) → W2 159 j = (clm7 (M 159) K (nI v) (nI n) (nI (wir (M 159) (nI (1 + v)))) (nI (via (M 159) (nI (1 + v)))) w) j) → X x 133 [(0, .ref (g.1 158)), (1, .int (nI n)), (2, .int (nI v)), (3, .int w), (4, .int (nI (223 + 13 * K))), (5, .int (nI c))] [] W2 P := by
          intro fu
          induction fu with
          | zero => intro c W2 hmu133; exact absurd hmu133 (Nat.not_lt_zero _)
          | succ fu ih133 =>
            intro c W2 hmu133 hc hW2k hb ho2
            refine x_iload h 5 dX6_claims_133 rfl ?_
            refine x_sipush h (nI 162) dX6_claims_135 (by decide) ?_
            refine x_icmp_ge_n h 193 dX6_claims_138 (by decide) (by omega) (by decide) (fun c_138 => ?_) (fun c_138 => ?_)
            · -- 138 true
              refine x_aload_n h 0 dX6_claims_193 rfl rfl ?_
              refine xg_X6_0 h in_X6_claims_X6 (by decide +kernel) dX6_claims_194 ?_
              refine x_bipush h (nI 6) dX6_claims_197 (by decide) ?_
              refine x_dup2 h dX6_claims_199 rfl rfl ?_
              refine xl_159 h dX6_claims_200 (by decide) ?_
              refine x_top (nI K) (by rw [ho2 _ (by omega), clm7_o (by omega)]; exact hK) ?_
              refine x_iconst h (nI 1) dX6_claims_201 (by decide) ?_
              refine x_iadd_n h dX6_claims_202 ?_
              refine xs_159 h dX6_claims_203 (by decide) ?_
              exact hret _ _ _ _ dX6_claims_204 (by obtain rfl : c = 162 := (by omega); refine ⟨rfl, ?_⟩; rw [st2_va, claim_M hb ho2]; funext k; by_cases e : k = 159; rw [e, va_up_k, va_up_k]; rw [va_up_n _ _ e, va_up_n _ _ e, hW2k k e])
            · -- 138 false
              refine x_aload_n h 0 dX6_claims_141 rfl rfl ?_
              refine xg_X6_0 h in_X6_claims_X6 (by decide +kernel) dX6_claims_142 ?_
              refine x_iload h 4 dX6_claims_145 rfl ?_
              refine x_bipush h (nI 7) dX6_claims_147 (by decide) ?_
              refine x_iadd_n h dX6_claims_149 ?_
              refine x_iload h 5 dX6_claims_150 rfl ?_
              refine x_bipush h (nI 27) dX6_claims_152 (by decide) ?_
              refine x_idiv_n h dX6_claims_154 (by omega) (by decide) (by decide) ?_
              refine x_iadd_n h dX6_claims_155 ?_
              refine x_dup2 h dX6_claims_156 rfl rfl ?_
              refine xl_159 h dX6_claims_157 (by omega) ?_
              refine x_top ((bmI (M 159) (nI (1 + v)) (c / 27) c)) (hb (c / 27) (by omega)) ?_
              refine x_aload_n h 0 dX6_claims_158 rfl rfl ?_
              refine xg_X6_0 h in_X6_claims_X6 (by decide +kernel) dX6_claims_159 ?_
              refine x_bipush h (nI 7) dX6_claims_162 (by decide) ?_
              refine x_iload h 5 dX6_claims_164 rfl ?_
              refine x_iadd_n h dX6_claims_166 ?_
              refine xl_159 h dX6_claims_167 (by omega) ?_
              refine x_top ((M 159 (7 + c))) (by rw [ho2 _ (by omega), clm7_o (by omega)]) ?_
              refine x_iconst h (nI 1) dX6_claims_168 (by decide) ?_
              refine x_iload_n h 2 dX6_claims_169 rfl rfl ?_
              refine x_iadd_n h dX6_claims_170 ?_
              refine x_icmp_ne h 184 dX6_claims_171 (by decide) (fun c_171 => ?_) (fun c_171 => ?_)
              · -- 171 true
                refine x_iconst h (nI 0) dX6_claims_184 (by decide) ?_
                refine x_ior h dX6_claims_185 ?_
                refine xs_159 h dX6_claims_186 (by omega) ?_
                refine x_iinc_n h 5 (n := 1) [(5, .int (nI (c + 1))), (0, .ref (g.1 158)), (1, .int (nI n)), (2, .int (nI v)), (3, .int w), (4, .int (nI (223 + 13 * K)))] dX6_claims_187 rfl (by decide) rfl ?_
                refine x_goto h 133 dX6_claims_190 (by decide) ?_
                exact x_lv (ih133 (c + 1) (st2 W2 159 (((223 + 13 * K) + 7) + (c / 27)) ((bmI (M 159) (nI (1 + v)) (c / 27) c) ||| (nI 0))) (by omega) (by omega) (by exact fun k hk => (st2_n _ _ _ hk).trans (hW2k k hk)) (by first | exact bmI_y (by omega) hb c_171 | exact bmI_n hb c_171) (by exact fun j hj => by rw [st2_k, pk_un (by omega)]; exact ho2 j hj)) [1, 2, 3, 4, 5, 0] rfl
              · -- 171 false
                refine x_iconst h (nI 1) dX6_claims_174 (by decide) ?_
                refine x_iload h 5 dX6_claims_175 rfl ?_
                refine x_bipush h (nI 27) dX6_claims_177 (by decide) ?_
                refine x_irem_n h dX6_claims_179 (by omega) (by decide) (by decide) ?_
                refine x_ishl h dX6_claims_180 ?_
                refine x_goto h 185 dX6_claims_181 (by decide) ?_
                refine x_ior h dX6_claims_185 ?_
                refine xs_159 h dX6_claims_186 (by omega) ?_
                refine x_iinc_n h 5 (n := 1) [(5, .int (nI (c + 1))), (0, .ref (g.1 158)), (1, .int (nI n)), (2, .int (nI v)), (3, .int w), (4, .int (nI (223 + 13 * K)))] dX6_claims_187 rfl (by decide) rfl ?_
                refine x_goto h 133 dX6_claims_190 (by decide) ?_
                exact x_lv (ih133 (c + 1) (st2 W2 159 (((223 + 13 * K) + 7) + (c / 27)) ((bmI (M 159) (nI (1 + v)) (c / 27) c) ||| ((nI 1) <<< ((nI (c % 27)) &&& 31)))) (by omega) (by omega) (by exact fun k hk => (st2_n _ _ _ hk).trans (hW2k k hk)) (by first | exact bmI_y (by omega) hb c_171 | exact bmI_n hb c_171) (by exact fun j hj => by rw [st2_k, pk_un (by omega)]; exact ho2 j hj)) [1, 2, 3, 4, 5, 0] rfl
        exact x_lv (L133 _ 0 W (Nat.lt_succ_self _) (by omega) (by exact hWk) (by exact fun q hq => hz q (by omega)) (by exact ho)) [1, 2, 3, 4, 5, 0] rfl
      · -- 107 false
        refine x_aload_n h 0 dX6_claims_110 rfl rfl ?_
        refine xg_X6_0 h in_X6_claims_X6 (by decide +kernel) dX6_claims_111 ?_
        refine x_iload h 4 dX6_claims_114 rfl ?_
        refine x_bipush h (nI 7) dX6_claims_116 (by decide) ?_
        refine x_iadd_n h dX6_claims_118 ?_
        refine x_iload h 5 dX6_claims_119 rfl ?_
        refine x_iadd_n h dX6_claims_121 ?_
        refine x_iconst h (nI 0) dX6_claims_122 (by decide) ?_
        refine xs_159 h dX6_claims_123 (by omega) ?_
        refine x_iinc_n h 5 (n := 1) [(5, .int (nI (i + 1))), (0, .ref (g.1 158)), (1, .int (nI n)), (2, .int (nI v)), (3, .int w), (4, .int (nI (223 + 13 * K)))] dX6_claims_124 rfl (by decide) rfl ?_
        refine x_goto h 103 dX6_claims_127 (by decide) ?_
        exact x_lv (ih103 (i + 1) (st2 W 159 (((223 + 13 * K) + 7) + i) (nI 0)) (by omega) (by omega) (by exact fun k hk => (st2_n _ _ _ hk).trans (hWk k hk)) (by intro t ht; rw [st2_k]; by_cases e : t = i; rw [e, pk_us]; rw [pk_un (by omega)]; exact hz t (by omega)) (by exact fun j hj => by rw [st2_k, pk_un (by omega)]; exact ho j hj)) [1, 2, 3, 4, 5, 0] rfl
  exact x_lv (L103 _ 0 W1 (Nat.lt_succ_self _) (by omega) (by exact h1k) (by exact fun t ht => absurd ht (Nat.not_lt_zero t)) (by exact fun j _ => by rw [h1r])) [2, 3, 4, 5, 1, 0] rfl

set_option maxRecDepth 20000 in
theorem ggX6_was_X6_claimAt : GoodIn wsX6_was wsX6_claimAt := goodIn_r _ [5, 6, 7, 8, 9, 10, 11, 12, 13, 14, 15, 16, 17, 18, 19, 20, 21, 22, 23, 24, 25] (by decide +kernel) (by decide +kernel)
set_option maxRecDepth 20000 in
theorem gX6_was_X6_claimAt : GoodIn wsX6_was (wsV RX6 168 RX6 yX6_claimAt wsX6_claimAt) := goodIn_app (goodIn_of _ (by decide +kernel)) ggX6_was_X6_claimAt
theorem dX6_was_0 : decode cX6_was 0 = .ok (.aload_n 0, 1) := by decide +kernel
theorem dX6_was_1 : decode cX6_was 1 = .ok (.iload_n 1, 1) := by decide +kernel
theorem dX6_was_2 : decode cX6_was 2 = .ok (.bipush 7, 2) := by decide +kernel
theorem dX6_was_4 : decode cX6_was 4 = .ok (.iload_n 2, 1) := by decide +kernel
theorem dX6_was_5 : decode cX6_was 5 = .ok (.bipush 27, 2) := by decide +kernel
theorem dX6_was_7 : decode cX6_was 7 = .ok (.idiv, 1) := by decide +kernel
theorem dX6_was_8 : decode cX6_was 8 = .ok (.iadd, 1) := by decide +kernel
theorem dX6_was_9 : decode cX6_was 9 = .ok (.invokevirtual 168, 3) := by decide +kernel
theorem dX6_was_12 : decode cX6_was 12 = .ok (.iload_n 2, 1) := by decide +kernel
theorem dX6_was_13 : decode cX6_was 13 = .ok (.bipush 27, 2) := by decide +kernel
theorem dX6_was_15 : decode cX6_was 15 = .ok (.irem, 1) := by decide +kernel
theorem dX6_was_16 : decode cX6_was 16 = .ok (.ishr, 1) := by decide +kernel
theorem dX6_was_17 : decode cX6_was 17 = .ok (.iconst 1, 1) := by decide +kernel
theorem dX6_was_18 : decode cX6_was 18 = .ok (.iand, 1) := by decide +kernel
theorem dX6_was_19 : decode cX6_was 19 = .ok (.iconst 1, 1) := by decide +kernel
theorem dX6_was_20 : decode cX6_was 20 = .ok (.if_icmp .ne 7, 3) := by decide +kernel
theorem dX6_was_23 : decode cX6_was 23 = .ok (.iconst 1, 1) := by decide +kernel
theorem dX6_was_24 : decode cX6_was 24 = .ok (.goto 4, 3) := by decide +kernel
theorem dX6_was_27 : decode cX6_was 27 = .ok (.iconst 0, 1) := by decide +kernel
theorem dX6_was_28 : decode cX6_was 28 = .ok (.ireturn, 1) := by decide +kernel
abbrev rmX6_was : Room := { frames := 1, cells := 0, slots := 0, locals := 22 }

set_option maxRecDepth 100000 in
set_option maxHeartbeats 4000000 in
theorem c_X6_was {l : Launch} {g : Geo} {M : Nat → Nat → Int32} {P : Nat → Nat} {i c : Nat} (hi : i < 12) (hc : c < 162) : Met l yX6_was wsX6_was rmX6_was (cPre g [.ref (g.1 158), .int (nI i), .int (nI c)] M P) (cQi g (fun r M' P' => (P = P' ∧ M = M') ∧ ((bM (M 159) i c = true ∧ r = nI 1) ∨ (bM (M 159) i c = false ∧ r = nI 0)))) 0 0 (gA g) := by
  refine met_z (cc := cX6_was) (maxL := 3) (by decide) rfl ⟨rfl, rfl⟩ (Nat.le_of_ble_eq_true rfl) (fun x hx h hret => ?_)
  replace h : Cxk x g cX6_was 3 wsX6_was RX6 rmX6_was := h
  show X x 0 [(0, .ref (g.1 158)), (1, .int (nI i)), (2, .int (nI c))] [] M P
  refine x_aload_n h 0 dX6_was_0 rfl rfl ?_
  refine x_iload_n h 1 dX6_was_1 rfl rfl ?_
  refine x_bipush h (nI 7) dX6_was_2 (by decide) ?_
  refine x_iload_n h 2 dX6_was_4 rfl rfl ?_
  refine x_bipush h (nI 27) dX6_was_5 (by decide) ?_
  refine x_idiv_n h dX6_was_7 (by omega) (by decide) (by decide) ?_
  refine x_iadd_n h dX6_was_8 ?_
  refine x_callV h (As := [.int (nI i), .int (nI (7 + (c / 27)))]) 2 hx (c_X6_claimAt (by omega) (by omega)) gX6_was_X6_claimAt rfl ⟨rfl, rfl⟩ (by decide +kernel) rfl (by decide) (by decide) E_158 rfl rfl (Nat.le_of_ble_eq_true rfl) dX6_was_9 (fun rv M' P' hp => ?_)
  obtain ⟨⟨rfl, rfl⟩, rfl⟩ := hp
  refine x_iload_n h 2 dX6_was_12 rfl rfl ?_
  refine x_bipush h (nI 27) dX6_was_13 (by decide) ?_
  refine x_irem_n h dX6_was_15 (by omega) (by decide) (by decide) ?_
  refine x_ishr h dX6_was_16 ?_
  refine x_iconst h (nI 1) dX6_was_17 (by decide) ?_
  refine x_iand h dX6_was_18 ?_
  refine x_iconst h (nI 1) dX6_was_19 (by decide) ?_
  refine x_icmp_ne h 27 dX6_was_20 (by decide) (fun c_20 => ?_) (fun c_20 => ?_)
  · -- 20 true
    refine x_iconst h (nI 0) dX6_was_27 (by decide) ?_
    exact hret _ _ _ _ _ dX6_was_28 (by decide) (by exact ⟨⟨rfl, rfl⟩, Or.inr ⟨decide_eq_false c_20, rfl⟩⟩)
  · -- 20 false
    refine x_iconst h (nI 1) dX6_was_23 (by decide) ?_
    refine x_goto h 28 dX6_was_24 (by decide) ?_
    exact hret _ _ _ _ _ dX6_was_28 (by decide) (by exact ⟨⟨rfl, rfl⟩, Or.inl ⟨decide_eq_true c_20, rfl⟩⟩)

set_option maxRecDepth 20000 in
theorem ggX6_comesBack_X6_claimAt : GoodIn wsX6_comesBack wsX6_claimAt := goodIn_r _ [6, 1, 19, 20, 21, 22, 23, 24, 25, 26, 27, 28, 29, 30, 31, 32, 33, 34, 35, 36, 37] (by decide +kernel) (by decide +kernel)
set_option maxRecDepth 20000 in
theorem gX6_comesBack_X6_claimAt : GoodIn wsX6_comesBack (wsV RX6 168 RX6 yX6_claimAt wsX6_claimAt) := goodIn_app (goodIn_of _ (by decide +kernel)) ggX6_comesBack_X6_claimAt
set_option maxRecDepth 20000 in
theorem ggX6_comesBack_X6_isJoined : GoodIn wsX6_comesBack wsX6_isJoined := goodIn_r _ [10, 11, 12, 13, 5, 14, 1, 19, 20, 21, 22, 23, 24, 25, 26, 27, 28, 29, 30, 31, 32, 33, 34, 35, 36, 37] (by decide +kernel) (by decide +kernel)
set_option maxRecDepth 20000 in
theorem gX6_comesBack_X6_isJoined : GoodIn wsX6_comesBack (wsV RX6 131 RX6 yX6_isJoined wsX6_isJoined) := goodIn_app (goodIn_of _ (by decide +kernel)) ggX6_comesBack_X6_isJoined
set_option maxRecDepth 20000 in
theorem ggX6_comesBack_X6_was : GoodIn wsX6_comesBack wsX6_was := goodIn_r _ [18, 2, 3, 4, 5, 6, 1, 19, 20, 21, 22, 23, 24, 25, 26, 27, 28, 29, 30, 31, 32, 33, 34, 35, 36, 37] (by decide +kernel) (by decide +kernel)
set_option maxRecDepth 20000 in
theorem gX6_comesBack_X6_was : GoodIn wsX6_comesBack (wsV RX6 186 RX6 yX6_was wsX6_was) := goodIn_app (goodIn_of _ (by decide +kernel)) ggX6_comesBack_X6_was
set_option maxRecDepth 20000 in
theorem ggX6_comesBack_X6_of : GoodIn wsX6_comesBack wsX6_of := goodIn_r _ [14, 1, 19, 20, 21, 22, 23, 24, 25, 26, 27, 28, 29, 30, 31, 32, 33, 34, 35, 36, 37] (by decide +kernel) (by decide +kernel)
set_option maxRecDepth 20000 in
theorem gX6_comesBack_X6_of : GoodIn wsX6_comesBack (wsV RX6 42 RX6 yX6_of wsX6_of) := goodIn_app (goodIn_of _ (by decide +kernel)) ggX6_comesBack_X6_of
theorem dX6_comesBack_0 : decode cX6_comesBack 0 = .ok (.aload_n 0, 1) := by decide +kernel
theorem dX6_comesBack_1 : decode cX6_comesBack 1 = .ok (.iload_n 1, 1) := by decide +kernel
theorem dX6_comesBack_2 : decode cX6_comesBack 2 = .ok (.iconst 0, 1) := by decide +kernel
theorem dX6_comesBack_3 : decode cX6_comesBack 3 = .ok (.invokevirtual 168, 3) := by decide +kernel
theorem dX6_comesBack_6 : decode cX6_comesBack 6 = .ok (.istore_n 2, 1) := by decide +kernel
theorem dX6_comesBack_7 : decode cX6_comesBack 7 = .ok (.aload_n 0, 1) := by decide +kernel
theorem dX6_comesBack_8 : decode cX6_comesBack 8 = .ok (.iload_n 2, 1) := by decide +kernel
theorem dX6_comesBack_9 : decode cX6_comesBack 9 = .ok (.invokevirtual 131, 3) := by decide +kernel
theorem dX6_comesBack_12 : decode cX6_comesBack 12 = .ok (.ifCond .ne 7, 3) := by decide +kernel
theorem dX6_comesBack_15 : decode cX6_comesBack 15 = .ok (.iconst 1, 1) := by decide +kernel
theorem dX6_comesBack_16 : decode cX6_comesBack 16 = .ok (.goto 4, 3) := by decide +kernel
theorem dX6_comesBack_19 : decode cX6_comesBack 19 = .ok (.iconst 0, 1) := by decide +kernel
theorem dX6_comesBack_20 : decode cX6_comesBack 20 = .ok (.istore_n 3, 1) := by decide +kernel
theorem dX6_comesBack_21 : decode cX6_comesBack 21 = .ok (.iconst 0, 1) := by decide +kernel
theorem dX6_comesBack_22 : decode cX6_comesBack 22 = .ok (.istore 4, 2) := by decide +kernel
theorem dX6_comesBack_24 : decode cX6_comesBack 24 = .ok (.iload 4, 2) := by decide +kernel
theorem dX6_comesBack_26 : decode cX6_comesBack 26 = .ok (.sipush 162, 3) := by decide +kernel
theorem dX6_comesBack_29 : decode cX6_comesBack 29 = .ok (.if_icmp .ge 42, 3) := by decide +kernel
theorem dX6_comesBack_32 : decode cX6_comesBack 32 = .ok (.iload_n 3, 1) := by decide +kernel
theorem dX6_comesBack_33 : decode cX6_comesBack 33 = .ok (.ifCond .eq 30, 3) := by decide +kernel
theorem dX6_comesBack_36 : decode cX6_comesBack 36 = .ok (.aload_n 0, 1) := by decide +kernel
theorem dX6_comesBack_37 : decode cX6_comesBack 37 = .ok (.iload_n 1, 1) := by decide +kernel
theorem dX6_comesBack_38 : decode cX6_comesBack 38 = .ok (.iload 4, 2) := by decide +kernel
theorem dX6_comesBack_40 : decode cX6_comesBack 40 = .ok (.invokevirtual 186, 3) := by decide +kernel
theorem dX6_comesBack_43 : decode cX6_comesBack 43 = .ok (.ifCond .eq 16, 3) := by decide +kernel
theorem dX6_comesBack_46 : decode cX6_comesBack 46 = .ok (.aload_n 0, 1) := by decide +kernel
theorem dX6_comesBack_47 : decode cX6_comesBack 47 = .ok (.getfield 7, 3) := by decide +kernel
theorem dX6_comesBack_50 : decode cX6_comesBack 50 = .ok (.bipush 7, 2) := by decide +kernel
theorem dX6_comesBack_52 : decode cX6_comesBack 52 = .ok (.iload 4, 2) := by decide +kernel
theorem dX6_comesBack_54 : decode cX6_comesBack 54 = .ok (.iadd, 1) := by decide +kernel
theorem dX6_comesBack_55 : decode cX6_comesBack 55 = .ok (.iaload, 1) := by decide +kernel
theorem dX6_comesBack_56 : decode cX6_comesBack 56 = .ok (.ifCond .ne 7, 3) := by decide +kernel
theorem dX6_comesBack_59 : decode cX6_comesBack 59 = .ok (.iconst 1, 1) := by decide +kernel
theorem dX6_comesBack_60 : decode cX6_comesBack 60 = .ok (.goto 4, 3) := by decide +kernel
theorem dX6_comesBack_63 : decode cX6_comesBack 63 = .ok (.iconst 0, 1) := by decide +kernel
theorem dX6_comesBack_64 : decode cX6_comesBack 64 = .ok (.istore_n 3, 1) := by decide +kernel
theorem dX6_comesBack_65 : decode cX6_comesBack 65 = .ok (.iinc 4 1, 3) := by decide +kernel
theorem dX6_comesBack_68 : decode cX6_comesBack 68 = .ok (.goto (-44), 3) := by decide +kernel
theorem dX6_comesBack_71 : decode cX6_comesBack 71 = .ok (.iconst 0, 1) := by decide +kernel
theorem dX6_comesBack_72 : decode cX6_comesBack 72 = .ok (.istore 4, 2) := by decide +kernel
theorem dX6_comesBack_74 : decode cX6_comesBack 74 = .ok (.iload 4, 2) := by decide +kernel
theorem dX6_comesBack_76 : decode cX6_comesBack 76 = .ok (.sipush 162, 3) := by decide +kernel
theorem dX6_comesBack_79 : decode cX6_comesBack 79 = .ok (.if_icmp .ge 49, 3) := by decide +kernel
theorem dX6_comesBack_82 : decode cX6_comesBack 82 = .ok (.iload_n 3, 1) := by decide +kernel
theorem dX6_comesBack_83 : decode cX6_comesBack 83 = .ok (.ifCond .eq 45, 3) := by decide +kernel
theorem dX6_comesBack_86 : decode cX6_comesBack 86 = .ok (.aload_n 0, 1) := by decide +kernel
theorem dX6_comesBack_87 : decode cX6_comesBack 87 = .ok (.getfield 7, 3) := by decide +kernel
theorem dX6_comesBack_90 : decode cX6_comesBack 90 = .ok (.bipush 7, 2) := by decide +kernel
theorem dX6_comesBack_92 : decode cX6_comesBack 92 = .ok (.iload 4, 2) := by decide +kernel
theorem dX6_comesBack_94 : decode cX6_comesBack 94 = .ok (.iadd, 1) := by decide +kernel
theorem dX6_comesBack_95 : decode cX6_comesBack 95 = .ok (.aload_n 0, 1) := by decide +kernel
theorem dX6_comesBack_96 : decode cX6_comesBack 96 = .ok (.iload_n 1, 1) := by decide +kernel
theorem dX6_comesBack_97 : decode cX6_comesBack 97 = .ok (.iload 4, 2) := by decide +kernel
theorem dX6_comesBack_99 : decode cX6_comesBack 99 = .ok (.invokevirtual 186, 3) := by decide +kernel
theorem dX6_comesBack_102 : decode cX6_comesBack 102 = .ok (.ifCond .eq 9, 3) := by decide +kernel
theorem dX6_comesBack_105 : decode cX6_comesBack 105 = .ok (.iconst 1, 1) := by decide +kernel
theorem dX6_comesBack_106 : decode cX6_comesBack 106 = .ok (.iload_n 2, 1) := by decide +kernel
theorem dX6_comesBack_107 : decode cX6_comesBack 107 = .ok (.iadd, 1) := by decide +kernel
theorem dX6_comesBack_108 : decode cX6_comesBack 108 = .ok (.goto 13, 3) := by decide +kernel
theorem dX6_comesBack_111 : decode cX6_comesBack 111 = .ok (.aload_n 0, 1) := by decide +kernel
theorem dX6_comesBack_112 : decode cX6_comesBack 112 = .ok (.getfield 7, 3) := by decide +kernel
theorem dX6_comesBack_115 : decode cX6_comesBack 115 = .ok (.bipush 7, 2) := by decide +kernel
theorem dX6_comesBack_117 : decode cX6_comesBack 117 = .ok (.iload 4, 2) := by decide +kernel
theorem dX6_comesBack_119 : decode cX6_comesBack 119 = .ok (.iadd, 1) := by decide +kernel
theorem dX6_comesBack_120 : decode cX6_comesBack 120 = .ok (.iaload, 1) := by decide +kernel
theorem dX6_comesBack_121 : decode cX6_comesBack 121 = .ok (.iastore, 1) := by decide +kernel
theorem dX6_comesBack_122 : decode cX6_comesBack 122 = .ok (.iinc 4 1, 3) := by decide +kernel
theorem dX6_comesBack_125 : decode cX6_comesBack 125 = .ok (.goto (-51), 3) := by decide +kernel
theorem dX6_comesBack_128 : decode cX6_comesBack 128 = .ok (.aload_n 0, 1) := by decide +kernel
theorem dX6_comesBack_129 : decode cX6_comesBack 129 = .ok (.getfield 7, 3) := by decide +kernel
theorem dX6_comesBack_132 : decode cX6_comesBack 132 = .ok (.sipush 169, 3) := by decide +kernel
theorem dX6_comesBack_135 : decode cX6_comesBack 135 = .ok (.bipush 9, 2) := by decide +kernel
theorem dX6_comesBack_137 : decode cX6_comesBack 137 = .ok (.iload_n 2, 1) := by decide +kernel
theorem dX6_comesBack_138 : decode cX6_comesBack 138 = .ok (.imul, 1) := by decide +kernel
theorem dX6_comesBack_139 : decode cX6_comesBack 139 = .ok (.iadd, 1) := by decide +kernel
theorem dX6_comesBack_140 : decode cX6_comesBack 140 = .ok (.iconst 5, 1) := by decide +kernel
theorem dX6_comesBack_141 : decode cX6_comesBack 141 = .ok (.iadd, 1) := by decide +kernel
theorem dX6_comesBack_142 : decode cX6_comesBack 142 = .ok (.iload_n 3, 1) := by decide +kernel
theorem dX6_comesBack_143 : decode cX6_comesBack 143 = .ok (.ifCond .eq 7, 3) := by decide +kernel
theorem dX6_comesBack_146 : decode cX6_comesBack 146 = .ok (.iconst 1, 1) := by decide +kernel
theorem dX6_comesBack_147 : decode cX6_comesBack 147 = .ok (.goto 9, 3) := by decide +kernel
theorem dX6_comesBack_150 : decode cX6_comesBack 150 = .ok (.aload_n 0, 1) := by decide +kernel
theorem dX6_comesBack_151 : decode cX6_comesBack 151 = .ok (.iload_n 2, 1) := by decide +kernel
theorem dX6_comesBack_152 : decode cX6_comesBack 152 = .ok (.iconst 5, 1) := by decide +kernel
theorem dX6_comesBack_153 : decode cX6_comesBack 153 = .ok (.invokevirtual 42, 3) := by decide +kernel
theorem dX6_comesBack_156 : decode cX6_comesBack 156 = .ok (.iastore, 1) := by decide +kernel
theorem dX6_comesBack_157 : decode cX6_comesBack 157 = .ok (.return_, 1) := by decide +kernel
abbrev rmX6_comesBack : Room := { frames := 2, cells := 0, slots := 0, locals := 44 }
set_option maxRecDepth 20000 in
theorem in_X6_comesBack_X6 : ∀ w ∈ wsX60, w ∈ wsX6_comesBack := by decide +kernel

set_option maxRecDepth 100000 in
set_option maxHeartbeats 16000000 in
theorem c_X6_comesBack {l : Launch} {g : Geo} {M : Nat → Nat → Int32} {P : Nat → Nat} {i h0 : Nat} (hi : i < 12) (hh : h0 < 6) (hof : M 159 (223 + 13 * i) = nI h0) (hj01 : M 159 (169 + 9 * h0 + 5) = nI 0 ∨ M 159 (169 + 9 * h0 + 5) = nI 1) : Met l yX6_comesBack wsX6_comesBack rmX6_comesBack (cPre g [.ref (g.1 158), .int (nI i)] M P) (cQv g (fun M' P' => P = P' ∧ ∃ X', ((¬ canB bM eM (M 159) i h0 ∧ X' = M 159) ∨ (canB bM eM (M 159) i h0 ∧ X' = backG bM eM (M 159) i h0)) ∧ M' = va_up M 159 X')) 0 0 (gA g) := by
  refine met_v (cc := cX6_comesBack) (maxL := 5) (by decide) rfl ⟨rfl, rfl⟩ (Nat.le_of_ble_eq_true rfl) (fun x hx h hret => ?_)
  replace h : Cxk x g cX6_comesBack 5 wsX6_comesBack RX6 rmX6_comesBack := h
  show X x 0 [(0, .ref (g.1 158)), (1, .int (nI i))] [] M P
  refine x_aload_n h 0 dX6_comesBack_0 rfl rfl ?_
  refine x_iload_n h 1 dX6_comesBack_1 rfl rfl ?_
  refine x_iconst h (nI 0) dX6_comesBack_2 (by decide) ?_
  refine x_callV h (As := [.int (nI i), .int (nI 0)]) 2 hx (c_X6_claimAt (by omega) (by decide)) gX6_comesBack_X6_claimAt rfl ⟨rfl, rfl⟩ (by decide +kernel) rfl (by decide) (by decide) E_158 rfl rfl (Nat.le_of_ble_eq_true rfl) dX6_comesBack_3 (fun rv M' P' hp => ?_)
  obtain ⟨⟨rfl, rfl⟩, rfl⟩ := hp
  refine x_top (nI h0) (hof) ?_
  refine x_istore_n h [(2, .int (nI h0)), (0, .ref (g.1 158)), (1, .int (nI i))] dX6_comesBack_6 rfl (by decide) rfl ?_
  refine x_aload_n h 1 dX6_comesBack_7 rfl rfl ?_
  refine x_iload_n h 0 dX6_comesBack_8 rfl rfl ?_
  refine x_callV h (As := [.int (nI h0)]) 1 hx (c_X6_isJoined (by omega)) gX6_comesBack_X6_isJoined rfl ⟨rfl, rfl⟩ (by decide +kernel) rfl (by decide) (by decide) E_158 rfl rfl (Nat.le_of_ble_eq_true rfl) dX6_comesBack_9 (fun rv M' P' hp => ?_)
  obtain ⟨⟨rfl, rfl⟩, hp⟩ := hp
  rcases hp with ⟨j9, rfl⟩ | ⟨nj9, rfl⟩
  · -- call 9
    refine x_if_ne h 19 dX6_comesBack_12 (by decide) (fun _ => ?_) (fun c => absurd c (by decide))
    refine x_iconst h (nI 0) dX6_comesBack_19 (by decide) ?_
    refine x_istore_n h [(3, .int (nI 0)), (2, .int (nI h0)), (0, .ref (g.1 158)), (1, .int (nI i))] dX6_comesBack_20 rfl (by decide) rfl ?_
    refine x_iconst h (nI 0) dX6_comesBack_21 (by decide) ?_
    refine x_istore h [(4, .int (nI 0)), (3, .int (nI 0)), (2, .int (nI h0)), (0, .ref (g.1 158)), (1, .int (nI i))] dX6_comesBack_22 (by decide) rfl ?_
    have L24 : ∀ (fu : Nat) (c : Nat) (b : Bool), (162 - c) < fu → (c ≤ 162) → (b = true ↔ (M 159 (169 + 9 * h0 + 5) = 0 ∧ ∀ a, a < c → bM (M 159) i a = true → M 159 (7 + a) = nI 0)) → X x 24 [(0, .ref (g.1 158)), (1, .int (nI i)), (2, .int (nI h0)), (3, .int (bI b)), (4, .int (nI c))] [] M P := by
      intro fu
      induction fu with
      | zero => intro c b hmu24; exact absurd hmu24 (Nat.not_lt_zero _)
      | succ fu ih24 =>
        intro c b hmu24 hc hb
        refine x_iload h 4 dX6_comesBack_24 rfl ?_
        refine x_sipush h (nI 162) dX6_comesBack_26 (by decide) ?_
        refine x_icmp_ge_n h 71 dX6_comesBack_29 (by decide) (by omega) (by decide) (fun c_29 => ?_) (fun c_29 => ?_)
        · -- 29 true
          obtain rfl : c = 162 := by omega
          refine x_iconst h (nI 0) dX6_comesBack_71 (by decide) ?_
          refine x_istore h [(4, .int (nI 0)), (0, .ref (g.1 158)), (1, .int (nI i)), (2, .int (nI h0)), (3, .int (bI b))] dX6_comesBack_72 (by decide) rfl ?_
          have L74 : ∀ (fu : Nat) (c : Nat) (W : Nat → Nat → Int32), (162 - c) < fu → (c ≤ 162) → (b = true → W = va_up M 159 (scan 7 (M 159) (fun a v => if bM (M 159) i a = true then nI (1 + h0) else v) c)) → (b = false → W = M) → X x 74 [(0, .ref (g.1 158)), (1, .int (nI i)), (2, .int (nI h0)), (3, .int (bI b)), (4, .int (nI c))] [] W P := by
            intro fu
            induction fu with
            | zero => intro c W hmu74; exact absurd hmu74 (Nat.not_lt_zero _)
            | succ fu ih74 =>
              intro c W hmu74 hc hWt hWf
              refine x_iload h 4 dX6_comesBack_74 rfl ?_
              refine x_sipush h (nI 162) dX6_comesBack_76 (by decide) ?_
              refine x_icmp_ge_n h 128 dX6_comesBack_79 (by decide) (by omega) (by decide) (fun c_79 => ?_) (fun c_79 => ?_)
              · -- 79 true
                refine x_aload_n h 0 dX6_comesBack_128 rfl rfl ?_
                refine xg_X6_0 h in_X6_comesBack_X6 (by decide +kernel) dX6_comesBack_129 ?_
                refine x_sipush h (nI 169) dX6_comesBack_132 (by decide) ?_
                refine x_bipush h (nI 9) dX6_comesBack_135 (by decide) ?_
                refine x_iload_n h 2 dX6_comesBack_137 rfl rfl ?_
                refine x_imul_n h dX6_comesBack_138 ?_
                refine x_iadd_n h dX6_comesBack_139 ?_
                refine x_iconst h (nI 5) dX6_comesBack_140 (by decide) ?_
                refine x_iadd_n h dX6_comesBack_141 ?_
                refine x_iload_n h 3 dX6_comesBack_142 rfl rfl ?_
                refine x_if_eq h 150 dX6_comesBack_143 (by decide) (fun c_143 => ?_) (fun c_143 => ?_)
                · -- 143 true
                  refine x_aload_n h 0 dX6_comesBack_150 rfl rfl ?_
                  refine x_iload_n h 2 dX6_comesBack_151 rfl rfl ?_
                  refine x_iconst h (nI 5) dX6_comesBack_152 (by decide) ?_
                  refine x_callV h (As := [.int (nI h0), .int (nI 5)]) 2 hx (c_X6_of (by omega) (by decide)) gX6_comesBack_X6_of rfl ⟨rfl, rfl⟩ (by decide +kernel) rfl (by decide) (by decide) E_158 rfl rfl (Nat.le_of_ble_eq_true rfl) dX6_comesBack_153 (fun rv M' P' hp => ?_)
                  obtain ⟨⟨rfl, rfl⟩, rfl⟩ := hp
                  refine xs_159 h dX6_comesBack_156 (by omega) ?_
                  exact hret _ _ _ _ dX6_comesBack_157 (by first | exact absurd c_83 c_143 | (have hbt := bI_1 c_143; obtain rfl : c = 162 := (by omega); refine ⟨rfl, _, Or.inr ⟨hb.mp hbt, rfl⟩, ?_⟩; rw [st2_va, hWt hbt, va_up_up, va_up_k]; rfl) | (have hbf := bI_0 c_143; refine ⟨rfl, _, Or.inl ⟨fun q => (by have z := hb.mpr q; rw [hbf] at z; cases z), rfl⟩, ?_⟩; rw [st2_va, hWf hbf, upd_self rfl]))
                · -- 143 false
                  refine x_iconst h (nI 1) dX6_comesBack_146 (by decide) ?_
                  refine x_goto h 156 dX6_comesBack_147 (by decide) ?_
                  refine xs_159 h dX6_comesBack_156 (by omega) ?_
                  exact hret _ _ _ _ dX6_comesBack_157 (by first | exact absurd c_83 c_143 | (have hbt := bI_1 c_143; obtain rfl : c = 162 := (by omega); refine ⟨rfl, _, Or.inr ⟨hb.mp hbt, rfl⟩, ?_⟩; rw [st2_va, hWt hbt, va_up_up, va_up_k]; rfl) | (have hbf := bI_0 c_143; refine ⟨rfl, _, Or.inl ⟨fun q => (by have z := hb.mpr q; rw [hbf] at z; cases z), rfl⟩, ?_⟩; rw [st2_va, hWf hbf, upd_self rfl]))
              · -- 79 false
                refine x_iload_n h 3 dX6_comesBack_82 rfl rfl ?_
                refine x_if_eq h 128 dX6_comesBack_83 (by decide) (fun c_83 => ?_) (fun c_83 => ?_)
                · -- 83 true
                  refine x_aload_n h 0 dX6_comesBack_128 rfl rfl ?_
                  refine xg_X6_0 h in_X6_comesBack_X6 (by decide +kernel) dX6_comesBack_129 ?_
                  refine x_sipush h (nI 169) dX6_comesBack_132 (by decide) ?_
                  refine x_bipush h (nI 9) dX6_comesBack_135 (by decide) ?_
                  refine x_iload_n h 2 dX6_comesBack_137 rfl rfl ?_
                  refine x_imul_n h dX6_comesBack_138 ?_
                  refine x_iadd_n h dX6_comesBack_139 ?_
                  refine x_iconst h (nI 5) dX6_comesBack_140 (by decide) ?_
                  refine x_iadd_n h dX6_comesBack_141 ?_
                  refine x_iload_n h 3 dX6_comesBack_142 rfl rfl ?_
                  refine x_if_eq h 150 dX6_comesBack_143 (by decide) (fun c_143 => ?_) (fun c_143 => ?_)
                  · -- 143 true
                    refine x_aload_n h 0 dX6_comesBack_150 rfl rfl ?_
                    refine x_iload_n h 2 dX6_comesBack_151 rfl rfl ?_
                    refine x_iconst h (nI 5) dX6_comesBack_152 (by decide) ?_
                    refine x_callV h (As := [.int (nI h0), .int (nI 5)]) 2 hx (c_X6_of (by omega) (by decide)) gX6_comesBack_X6_of rfl ⟨rfl, rfl⟩ (by decide +kernel) rfl (by decide) (by decide) E_158 rfl rfl (Nat.le_of_ble_eq_true rfl) dX6_comesBack_153 (fun rv M' P' hp => ?_)
                    obtain ⟨⟨rfl, rfl⟩, rfl⟩ := hp
                    refine xs_159 h dX6_comesBack_156 (by omega) ?_
                    exact hret _ _ _ _ dX6_comesBack_157 (by first | exact absurd c_83 c_143 | (have hbt := bI_1 c_143; obtain rfl : c = 162 := (by omega); refine ⟨rfl, _, Or.inr ⟨hb.mp hbt, rfl⟩, ?_⟩; rw [st2_va, hWt hbt, va_up_up, va_up_k]; rfl) | (have hbf := bI_0 c_143; refine ⟨rfl, _, Or.inl ⟨fun q => (by have z := hb.mpr q; rw [hbf] at z; cases z), rfl⟩, ?_⟩; rw [st2_va, hWf hbf, upd_self rfl]))
                  · -- 143 false
                    refine x_iconst h (nI 1) dX6_comesBack_146 (by decide) ?_
                    refine x_goto h 156 dX6_comesBack_147 (by decide) ?_
                    refine xs_159 h dX6_comesBack_156 (by omega) ?_
                    exact hret _ _ _ _ dX6_comesBack_157 (by first | exact absurd c_83 c_143 | (have hbt := bI_1 c_143; obtain rfl : c = 162 := (by omega); refine ⟨rfl, _, Or.inr ⟨hb.mp hbt, rfl⟩, ?_⟩; rw [st2_va, hWt hbt, va_up_up, va_up_k]; rfl) | (have hbf := bI_0 c_143; refine ⟨rfl, _, Or.inl ⟨fun q => (by have z := hb.mpr q; rw [hbf] at z; cases z), rfl⟩, ?_⟩; rw [st2_va, hWf hbf, upd_self rfl]))
                · -- 83 false
                  have hbw : bM (W 159) i c = bM (M 159) i c := bM_cg (by rw [hWt (bI_1 c_83), va_up_k, scan_ge _ _ (by omega)])
                  refine x_aload_n h 0 dX6_comesBack_86 rfl rfl ?_
                  refine xg_X6_0 h in_X6_comesBack_X6 (by decide +kernel) dX6_comesBack_87 ?_
                  refine x_bipush h (nI 7) dX6_comesBack_90 (by decide) ?_
                  refine x_iload h 4 dX6_comesBack_92 rfl ?_
                  refine x_iadd_n h dX6_comesBack_94 ?_
                  refine x_aload_n h 0 dX6_comesBack_95 rfl rfl ?_
                  refine x_iload_n h 1 dX6_comesBack_96 rfl rfl ?_
                  refine x_iload h 4 dX6_comesBack_97 rfl ?_
                  refine x_callV h (As := [.int (nI i), .int (nI c)]) 2 hx (c_X6_was (by omega) (by omega)) gX6_comesBack_X6_was rfl ⟨rfl, rfl⟩ (by decide +kernel) rfl (by decide) (by decide) E_158 rfl rfl (Nat.le_of_ble_eq_true rfl) dX6_comesBack_99 (fun rv M' P' hp => ?_)
                  obtain ⟨⟨rfl, rfl⟩, hp⟩ := hp
                  rw [hbw] at hp
                  rcases hp with ⟨hw99, rfl⟩ | ⟨hw99, rfl⟩
                  · -- marked
                    refine x_if_eq h 111 dX6_comesBack_102 (by decide) (fun c => absurd c (by decide)) (fun _ => ?_)
                    refine x_iconst h (nI 1) dX6_comesBack_105 (by decide) ?_
                    refine x_iload_n h 2 dX6_comesBack_106 rfl rfl ?_
                    refine x_iadd_n h dX6_comesBack_107 ?_
                    refine x_goto h 121 dX6_comesBack_108 (by decide) ?_
                    refine xs_159 h dX6_comesBack_121 (by omega) ?_
                    refine x_iinc_n h 4 (n := 1) [(4, .int (nI (c + 1))), (0, .ref (g.1 158)), (1, .int (nI i)), (2, .int (nI h0)), (3, .int (bI b))] dX6_comesBack_122 rfl (by decide) rfl ?_
                    refine x_goto h 74 dX6_comesBack_125 (by decide) ?_
                    exact x_lv (ih74 (c + 1) (st2 W 159 (7 + c) (nI (1 + h0))) (by omega) (by omega) (by intro q; first | (rw [st2_va, hWt q, va_up_up, va_up_k]; exact congrArg _ (scan_s 7 (M 159) (fun a v => if bM (M 159) i a = true then nI (1 + h0) else v) c (by first | rw [if_pos hw99] | rw [hw99, if_neg (by decide), scan_at])))) (by intro q; rw [bI_1 c_83] at q; cases q)) [1, 2, 3, 4, 0] rfl
                  · -- not marked
                    refine x_if_eq h 111 dX6_comesBack_102 (by decide) (fun _ => ?_) (fun c => absurd (by decide) c)
                    refine x_aload_n h 0 dX6_comesBack_111 rfl rfl ?_
                    refine xg_X6_0 h in_X6_comesBack_X6 (by decide +kernel) dX6_comesBack_112 ?_
                    refine x_bipush h (nI 7) dX6_comesBack_115 (by decide) ?_
                    refine x_iload h 4 dX6_comesBack_117 rfl ?_
                    refine x_iadd_n h dX6_comesBack_119 ?_
                    refine xl_159 h dX6_comesBack_120 (by omega) ?_
                    refine x_top ((scan 7 (M 159) (fun a v => if bM (M 159) i a = true then nI (1 + h0) else v) c (7 + c))) (by rw [hWt (bI_1 c_83), va_up_k]) ?_
                    refine xs_159 h dX6_comesBack_121 (by omega) ?_
                    refine x_iinc_n h 4 (n := 1) [(4, .int (nI (c + 1))), (0, .ref (g.1 158)), (1, .int (nI i)), (2, .int (nI h0)), (3, .int (bI b))] dX6_comesBack_122 rfl (by decide) rfl ?_
                    refine x_goto h 74 dX6_comesBack_125 (by decide) ?_
                    exact x_lv (ih74 (c + 1) (st2 W 159 (7 + c) (scan 7 (M 159) (fun a v => if bM (M 159) i a = true then nI (1 + h0) else v) c (7 + c))) (by omega) (by omega) (by intro q; first | (rw [st2_va, hWt q, va_up_up, va_up_k]; exact congrArg _ (scan_s 7 (M 159) (fun a v => if bM (M 159) i a = true then nI (1 + h0) else v) c (by first | rw [if_pos hw99] | rw [hw99, if_neg (by decide), scan_at])))) (by intro q; rw [bI_1 c_83] at q; cases q)) [1, 2, 3, 4, 0] rfl
          exact x_lv (L74 _ 0 M (Nat.lt_succ_self _) (by omega) (by intro _; rw [scan_0, va_up_id]) (by exact fun _ => rfl)) [1, 2, 3, 4, 0] rfl
        · -- 29 false
          refine x_iload_n h 3 dX6_comesBack_32 rfl rfl ?_
          refine x_if_eq h 63 dX6_comesBack_33 (by decide) (fun c_33 => ?_) (fun c_33 => ?_)
          · -- 33 true
            refine x_iconst h (nI 0) dX6_comesBack_63 (by decide) ?_
            refine x_istore_n h [(3, .int (nI 0)), (0, .ref (g.1 158)), (1, .int (nI i)), (2, .int (nI h0)), (4, .int (nI c))] dX6_comesBack_64 rfl (by decide) rfl ?_
            refine x_iinc_n h 4 (n := 1) [(4, .int (nI (c + 1))), (3, .int (nI 0)), (0, .ref (g.1 158)), (1, .int (nI i)), (2, .int (nI h0))] dX6_comesBack_65 rfl (by decide) rfl ?_
            refine x_goto h 24 dX6_comesBack_68 (by decide) ?_
            exact x_lv (ih24 (c + 1) false (by omega) (by omega) (by exact ⟨fun q => (by cases q), fun q => by first | (have z := hb.mpr ⟨q.1, fun a ha => q.2 a (by omega)⟩; rw [bI_0 c_33] at z; cases z) | exact absurd (q.2 c (by omega) hw40) c_56⟩)) [2, 3, 4, 1, 0] rfl
          · -- 33 false
            refine x_aload_n h 0 dX6_comesBack_36 rfl rfl ?_
            refine x_iload_n h 1 dX6_comesBack_37 rfl rfl ?_
            refine x_iload h 4 dX6_comesBack_38 rfl ?_
            refine x_callV h (As := [.int (nI i), .int (nI c)]) 2 hx (c_X6_was (by omega) (by omega)) gX6_comesBack_X6_was rfl ⟨rfl, rfl⟩ (by decide +kernel) rfl (by decide) (by decide) E_158 rfl rfl (Nat.le_of_ble_eq_true rfl) dX6_comesBack_40 (fun rv M' P' hp => ?_)
            obtain ⟨⟨rfl, rfl⟩, hp⟩ := hp
            rw [(rfl : M 159 = M 159)] at hp
            rcases hp with ⟨hw40, rfl⟩ | ⟨hw40, rfl⟩
            · -- marked
              refine x_if_eq h 59 dX6_comesBack_43 (by decide) (fun c => absurd c (by decide)) (fun _ => ?_)
              refine x_aload_n h 0 dX6_comesBack_46 rfl rfl ?_
              refine xg_X6_0 h in_X6_comesBack_X6 (by decide +kernel) dX6_comesBack_47 ?_
              refine x_bipush h (nI 7) dX6_comesBack_50 (by decide) ?_
              refine x_iload h 4 dX6_comesBack_52 rfl ?_
              refine x_iadd_n h dX6_comesBack_54 ?_
              refine xl_159 h dX6_comesBack_55 (by omega) ?_
              refine x_if_ne h 63 dX6_comesBack_56 (by decide) (fun c_56 => ?_) (fun c_56 => ?_)
              · -- 56 true
                refine x_iconst h (nI 0) dX6_comesBack_63 (by decide) ?_
                refine x_istore_n h [(3, .int (nI 0)), (0, .ref (g.1 158)), (1, .int (nI i)), (2, .int (nI h0)), (4, .int (nI c))] dX6_comesBack_64 rfl (by decide) rfl ?_
                refine x_iinc_n h 4 (n := 1) [(4, .int (nI (c + 1))), (3, .int (nI 0)), (0, .ref (g.1 158)), (1, .int (nI i)), (2, .int (nI h0))] dX6_comesBack_65 rfl (by decide) rfl ?_
                refine x_goto h 24 dX6_comesBack_68 (by decide) ?_
                exact x_lv (ih24 (c + 1) false (by omega) (by omega) (by exact ⟨fun q => (by cases q), fun q => by first | (have z := hb.mpr ⟨q.1, fun a ha => q.2 a (by omega)⟩; rw [bI_0 c_33] at z; cases z) | exact absurd (q.2 c (by omega) hw40) c_56⟩)) [2, 3, 4, 1, 0] rfl
              · -- 56 false
                refine x_iconst h (nI 1) dX6_comesBack_59 (by decide) ?_
                refine x_goto h 64 dX6_comesBack_60 (by decide) ?_
                refine x_istore_n h [(3, .int (nI 1)), (0, .ref (g.1 158)), (1, .int (nI i)), (2, .int (nI h0)), (4, .int (nI c))] dX6_comesBack_64 rfl (by decide) rfl ?_
                refine x_iinc_n h 4 (n := 1) [(4, .int (nI (c + 1))), (3, .int (nI 1)), (0, .ref (g.1 158)), (1, .int (nI i)), (2, .int (nI h0))] dX6_comesBack_65 rfl (by decide) rfl ?_
                refine x_goto h 24 dX6_comesBack_68 (by decide) ?_
                exact x_lv (ih24 (c + 1) true (by omega) (by omega) (by exact ⟨fun _ => ⟨((hb.mp (bI_1 c_33)).1), fun a ha hm => by rcases Nat.lt_succ_iff_lt_or_eq.mp ha with q | q; exact (hb.mp (bI_1 c_33)).2 a q hm; subst q; first | exact c_56 | (rw [hw40] at hm; cases hm)⟩, fun _ => rfl⟩)) [2, 3, 4, 1, 0] rfl
            · -- not marked
              refine x_if_eq h 59 dX6_comesBack_43 (by decide) (fun _ => ?_) (fun c => absurd (by decide) c)
              refine x_iconst h (nI 1) dX6_comesBack_59 (by decide) ?_
              refine x_goto h 64 dX6_comesBack_60 (by decide) ?_
              refine x_istore_n h [(3, .int (nI 1)), (0, .ref (g.1 158)), (1, .int (nI i)), (2, .int (nI h0)), (4, .int (nI c))] dX6_comesBack_64 rfl (by decide) rfl ?_
              refine x_iinc_n h 4 (n := 1) [(4, .int (nI (c + 1))), (3, .int (nI 1)), (0, .ref (g.1 158)), (1, .int (nI i)), (2, .int (nI h0))] dX6_comesBack_65 rfl (by decide) rfl ?_
              refine x_goto h 24 dX6_comesBack_68 (by decide) ?_
              exact x_lv (ih24 (c + 1) true (by omega) (by omega) (by exact ⟨fun _ => ⟨((hb.mp (bI_1 c_33)).1), fun a ha hm => by rcases Nat.lt_succ_iff_lt_or_eq.mp ha with q | q; exact (hb.mp (bI_1 c_33)).2 a q hm; subst q; first | exact c_56 | (rw [hw40] at hm; cases hm)⟩, fun _ => rfl⟩)) [2, 3, 4, 1, 0] rfl
    exact x_lv (L24 _ 0 false (Nat.lt_succ_self _) (by omega) (by exact ⟨fun q => (by first | (cases q; done) | exact ⟨(hj01.elim id (fun q => absurd q nj9)), fun a ha => absurd ha (Nat.not_lt_zero a)⟩), fun q => by first | rfl | exact (by have z := q.1; rw [j9] at z; exact absurd z (by decide))⟩)) [3, 4, 2, 1, 0] rfl
  · -- call 9
    refine x_if_ne h 19 dX6_comesBack_12 (by decide) (fun c => absurd c (by decide)) (fun _ => ?_)
    refine x_iconst h (nI 1) dX6_comesBack_15 (by decide) ?_
    refine x_goto h 20 dX6_comesBack_16 (by decide) ?_
    refine x_istore_n h [(3, .int (nI 1)), (2, .int (nI h0)), (0, .ref (g.1 158)), (1, .int (nI i))] dX6_comesBack_20 rfl (by decide) rfl ?_
    refine x_iconst h (nI 0) dX6_comesBack_21 (by decide) ?_
    refine x_istore h [(4, .int (nI 0)), (3, .int (nI 1)), (2, .int (nI h0)), (0, .ref (g.1 158)), (1, .int (nI i))] dX6_comesBack_22 (by decide) rfl ?_
    have L24 : ∀ (fu : Nat) (c : Nat) (b : Bool), (162 - c) < fu → (c ≤ 162) → (b = true ↔ (M 159 (169 + 9 * h0 + 5) = 0 ∧ ∀ a, a < c → bM (M 159) i a = true → M 159 (7 + a) = nI 0)) → X x 24 [(0, .ref (g.1 158)), (1, .int (nI i)), (2, .int (nI h0)), (3, .int (bI b)), (4, .int (nI c))] [] M P := by
      intro fu
      induction fu with
      | zero => intro c b hmu24; exact absurd hmu24 (Nat.not_lt_zero _)
      | succ fu ih24 =>
        intro c b hmu24 hc hb
        refine x_iload h 4 dX6_comesBack_24 rfl ?_
        refine x_sipush h (nI 162) dX6_comesBack_26 (by decide) ?_
        refine x_icmp_ge_n h 71 dX6_comesBack_29 (by decide) (by omega) (by decide) (fun c_29 => ?_) (fun c_29 => ?_)
        · -- 29 true
          obtain rfl : c = 162 := by omega
          refine x_iconst h (nI 0) dX6_comesBack_71 (by decide) ?_
          refine x_istore h [(4, .int (nI 0)), (0, .ref (g.1 158)), (1, .int (nI i)), (2, .int (nI h0)), (3, .int (bI b))] dX6_comesBack_72 (by decide) rfl ?_
          have L74 : ∀ (fu : Nat) (c : Nat) (W : Nat → Nat → Int32), (162 - c) < fu → (c ≤ 162) → (b = true → W = va_up M 159 (scan 7 (M 159) (fun a v => if bM (M 159) i a = true then nI (1 + h0) else v) c)) → (b = false → W = M) → X x 74 [(0, .ref (g.1 158)), (1, .int (nI i)), (2, .int (nI h0)), (3, .int (bI b)), (4, .int (nI c))] [] W P := by
            intro fu
            induction fu with
            | zero => intro c W hmu74; exact absurd hmu74 (Nat.not_lt_zero _)
            | succ fu ih74 =>
              intro c W hmu74 hc hWt hWf
              refine x_iload h 4 dX6_comesBack_74 rfl ?_
              refine x_sipush h (nI 162) dX6_comesBack_76 (by decide) ?_
              refine x_icmp_ge_n h 128 dX6_comesBack_79 (by decide) (by omega) (by decide) (fun c_79 => ?_) (fun c_79 => ?_)
              · -- 79 true
                refine x_aload_n h 0 dX6_comesBack_128 rfl rfl ?_
                refine xg_X6_0 h in_X6_comesBack_X6 (by decide +kernel) dX6_comesBack_129 ?_
                refine x_sipush h (nI 169) dX6_comesBack_132 (by decide) ?_
                refine x_bipush h (nI 9) dX6_comesBack_135 (by decide) ?_
                refine x_iload_n h 2 dX6_comesBack_137 rfl rfl ?_
                refine x_imul_n h dX6_comesBack_138 ?_
                refine x_iadd_n h dX6_comesBack_139 ?_
                refine x_iconst h (nI 5) dX6_comesBack_140 (by decide) ?_
                refine x_iadd_n h dX6_comesBack_141 ?_
                refine x_iload_n h 3 dX6_comesBack_142 rfl rfl ?_
                refine x_if_eq h 150 dX6_comesBack_143 (by decide) (fun c_143 => ?_) (fun c_143 => ?_)
                · -- 143 true
                  refine x_aload_n h 0 dX6_comesBack_150 rfl rfl ?_
                  refine x_iload_n h 2 dX6_comesBack_151 rfl rfl ?_
                  refine x_iconst h (nI 5) dX6_comesBack_152 (by decide) ?_
                  refine x_callV h (As := [.int (nI h0), .int (nI 5)]) 2 hx (c_X6_of (by omega) (by decide)) gX6_comesBack_X6_of rfl ⟨rfl, rfl⟩ (by decide +kernel) rfl (by decide) (by decide) E_158 rfl rfl (Nat.le_of_ble_eq_true rfl) dX6_comesBack_153 (fun rv M' P' hp => ?_)
                  obtain ⟨⟨rfl, rfl⟩, rfl⟩ := hp
                  refine xs_159 h dX6_comesBack_156 (by omega) ?_
                  exact hret _ _ _ _ dX6_comesBack_157 (by first | exact absurd c_83 c_143 | (have hbt := bI_1 c_143; obtain rfl : c = 162 := (by omega); refine ⟨rfl, _, Or.inr ⟨hb.mp hbt, rfl⟩, ?_⟩; rw [st2_va, hWt hbt, va_up_up, va_up_k]; rfl) | (have hbf := bI_0 c_143; refine ⟨rfl, _, Or.inl ⟨fun q => (by have z := hb.mpr q; rw [hbf] at z; cases z), rfl⟩, ?_⟩; rw [st2_va, hWf hbf, upd_self rfl]))
                · -- 143 false
                  refine x_iconst h (nI 1) dX6_comesBack_146 (by decide) ?_
                  refine x_goto h 156 dX6_comesBack_147 (by decide) ?_
                  refine xs_159 h dX6_comesBack_156 (by omega) ?_
                  exact hret _ _ _ _ dX6_comesBack_157 (by first | exact absurd c_83 c_143 | (have hbt := bI_1 c_143; obtain rfl : c = 162 := (by omega); refine ⟨rfl, _, Or.inr ⟨hb.mp hbt, rfl⟩, ?_⟩; rw [st2_va, hWt hbt, va_up_up, va_up_k]; rfl) | (have hbf := bI_0 c_143; refine ⟨rfl, _, Or.inl ⟨fun q => (by have z := hb.mpr q; rw [hbf] at z; cases z), rfl⟩, ?_⟩; rw [st2_va, hWf hbf, upd_self rfl]))
              · -- 79 false
                refine x_iload_n h 3 dX6_comesBack_82 rfl rfl ?_
                refine x_if_eq h 128 dX6_comesBack_83 (by decide) (fun c_83 => ?_) (fun c_83 => ?_)
                · -- 83 true
                  refine x_aload_n h 0 dX6_comesBack_128 rfl rfl ?_
                  refine xg_X6_0 h in_X6_comesBack_X6 (by decide +kernel) dX6_comesBack_129 ?_
                  refine x_sipush h (nI 169) dX6_comesBack_132 (by decide) ?_
                  refine x_bipush h (nI 9) dX6_comesBack_135 (by decide) ?_
                  refine x_iload_n h 2 dX6_comesBack_137 rfl rfl ?_
                  refine x_imul_n h dX6_comesBack_138 ?_
                  refine x_iadd_n h dX6_comesBack_139 ?_
                  refine x_iconst h (nI 5) dX6_comesBack_140 (by decide) ?_
                  refine x_iadd_n h dX6_comesBack_141 ?_
                  refine x_iload_n h 3 dX6_comesBack_142 rfl rfl ?_
                  refine x_if_eq h 150 dX6_comesBack_143 (by decide) (fun c_143 => ?_) (fun c_143 => ?_)
                  · -- 143 true
                    refine x_aload_n h 0 dX6_comesBack_150 rfl rfl ?_
                    refine x_iload_n h 2 dX6_comesBack_151 rfl rfl ?_
                    refine x_iconst h (nI 5) dX6_comesBack_152 (by decide) ?_
                    refine x_callV h (As := [.int (nI h0), .int (nI 5)]) 2 hx (c_X6_of (by omega) (by decide)) gX6_comesBack_X6_of rfl ⟨rfl, rfl⟩ (by decide +kernel) rfl (by decide) (by decide) E_158 rfl rfl (Nat.le_of_ble_eq_true rfl) dX6_comesBack_153 (fun rv M' P' hp => ?_)
                    obtain ⟨⟨rfl, rfl⟩, rfl⟩ := hp
                    refine xs_159 h dX6_comesBack_156 (by omega) ?_
                    exact hret _ _ _ _ dX6_comesBack_157 (by first | exact absurd c_83 c_143 | (have hbt := bI_1 c_143; obtain rfl : c = 162 := (by omega); refine ⟨rfl, _, Or.inr ⟨hb.mp hbt, rfl⟩, ?_⟩; rw [st2_va, hWt hbt, va_up_up, va_up_k]; rfl) | (have hbf := bI_0 c_143; refine ⟨rfl, _, Or.inl ⟨fun q => (by have z := hb.mpr q; rw [hbf] at z; cases z), rfl⟩, ?_⟩; rw [st2_va, hWf hbf, upd_self rfl]))
                  · -- 143 false
                    refine x_iconst h (nI 1) dX6_comesBack_146 (by decide) ?_
                    refine x_goto h 156 dX6_comesBack_147 (by decide) ?_
                    refine xs_159 h dX6_comesBack_156 (by omega) ?_
                    exact hret _ _ _ _ dX6_comesBack_157 (by first | exact absurd c_83 c_143 | (have hbt := bI_1 c_143; obtain rfl : c = 162 := (by omega); refine ⟨rfl, _, Or.inr ⟨hb.mp hbt, rfl⟩, ?_⟩; rw [st2_va, hWt hbt, va_up_up, va_up_k]; rfl) | (have hbf := bI_0 c_143; refine ⟨rfl, _, Or.inl ⟨fun q => (by have z := hb.mpr q; rw [hbf] at z; cases z), rfl⟩, ?_⟩; rw [st2_va, hWf hbf, upd_self rfl]))
                · -- 83 false
                  have hbw : bM (W 159) i c = bM (M 159) i c := bM_cg (by rw [hWt (bI_1 c_83), va_up_k, scan_ge _ _ (by omega)])
                  refine x_aload_n h 0 dX6_comesBack_86 rfl rfl ?_
                  refine xg_X6_0 h in_X6_comesBack_X6 (by decide +kernel) dX6_comesBack_87 ?_
                  refine x_bipush h (nI 7) dX6_comesBack_90 (by decide) ?_
                  refine x_iload h 4 dX6_comesBack_92 rfl ?_
                  refine x_iadd_n h dX6_comesBack_94 ?_
                  refine x_aload_n h 0 dX6_comesBack_95 rfl rfl ?_
                  refine x_iload_n h 1 dX6_comesBack_96 rfl rfl ?_
                  refine x_iload h 4 dX6_comesBack_97 rfl ?_
                  refine x_callV h (As := [.int (nI i), .int (nI c)]) 2 hx (c_X6_was (by omega) (by omega)) gX6_comesBack_X6_was rfl ⟨rfl, rfl⟩ (by decide +kernel) rfl (by decide) (by decide) E_158 rfl rfl (Nat.le_of_ble_eq_true rfl) dX6_comesBack_99 (fun rv M' P' hp => ?_)
                  obtain ⟨⟨rfl, rfl⟩, hp⟩ := hp
                  rw [hbw] at hp
                  rcases hp with ⟨hw99, rfl⟩ | ⟨hw99, rfl⟩
                  · -- marked
                    refine x_if_eq h 111 dX6_comesBack_102 (by decide) (fun c => absurd c (by decide)) (fun _ => ?_)
                    refine x_iconst h (nI 1) dX6_comesBack_105 (by decide) ?_
                    refine x_iload_n h 2 dX6_comesBack_106 rfl rfl ?_
                    refine x_iadd_n h dX6_comesBack_107 ?_
                    refine x_goto h 121 dX6_comesBack_108 (by decide) ?_
                    refine xs_159 h dX6_comesBack_121 (by omega) ?_
                    refine x_iinc_n h 4 (n := 1) [(4, .int (nI (c + 1))), (0, .ref (g.1 158)), (1, .int (nI i)), (2, .int (nI h0)), (3, .int (bI b))] dX6_comesBack_122 rfl (by decide) rfl ?_
                    refine x_goto h 74 dX6_comesBack_125 (by decide) ?_
                    exact x_lv (ih74 (c + 1) (st2 W 159 (7 + c) (nI (1 + h0))) (by omega) (by omega) (by intro q; first | (rw [st2_va, hWt q, va_up_up, va_up_k]; exact congrArg _ (scan_s 7 (M 159) (fun a v => if bM (M 159) i a = true then nI (1 + h0) else v) c (by first | rw [if_pos hw99] | rw [hw99, if_neg (by decide), scan_at])))) (by intro q; rw [bI_1 c_83] at q; cases q)) [1, 2, 3, 4, 0] rfl
                  · -- not marked
                    refine x_if_eq h 111 dX6_comesBack_102 (by decide) (fun _ => ?_) (fun c => absurd (by decide) c)
                    refine x_aload_n h 0 dX6_comesBack_111 rfl rfl ?_
                    refine xg_X6_0 h in_X6_comesBack_X6 (by decide +kernel) dX6_comesBack_112 ?_
                    refine x_bipush h (nI 7) dX6_comesBack_115 (by decide) ?_
                    refine x_iload h 4 dX6_comesBack_117 rfl ?_
                    refine x_iadd_n h dX6_comesBack_119 ?_
                    refine xl_159 h dX6_comesBack_120 (by omega) ?_
                    refine x_top ((scan 7 (M 159) (fun a v => if bM (M 159) i a = true then nI (1 + h0) else v) c (7 + c))) (by rw [hWt (bI_1 c_83), va_up_k]) ?_
                    refine xs_159 h dX6_comesBack_121 (by omega) ?_
                    refine x_iinc_n h 4 (n := 1) [(4, .int (nI (c + 1))), (0, .ref (g.1 158)), (1, .int (nI i)), (2, .int (nI h0)), (3, .int (bI b))] dX6_comesBack_122 rfl (by decide) rfl ?_
                    refine x_goto h 74 dX6_comesBack_125 (by decide) ?_
                    exact x_lv (ih74 (c + 1) (st2 W 159 (7 + c) (scan 7 (M 159) (fun a v => if bM (M 159) i a = true then nI (1 + h0) else v) c (7 + c))) (by omega) (by omega) (by intro q; first | (rw [st2_va, hWt q, va_up_up, va_up_k]; exact congrArg _ (scan_s 7 (M 159) (fun a v => if bM (M 159) i a = true then nI (1 + h0) else v) c (by first | rw [if_pos hw99] | rw [hw99, if_neg (by decide), scan_at])))) (by intro q; rw [bI_1 c_83] at q; cases q)) [1, 2, 3, 4, 0] rfl
          exact x_lv (L74 _ 0 M (Nat.lt_succ_self _) (by omega) (by intro _; rw [scan_0, va_up_id]) (by exact fun _ => rfl)) [1, 2, 3, 4, 0] rfl
        · -- 29 false
          refine x_iload_n h 3 dX6_comesBack_32 rfl rfl ?_
          refine x_if_eq h 63 dX6_comesBack_33 (by decide) (fun c_33 => ?_) (fun c_33 => ?_)
          · -- 33 true
            refine x_iconst h (nI 0) dX6_comesBack_63 (by decide) ?_
            refine x_istore_n h [(3, .int (nI 0)), (0, .ref (g.1 158)), (1, .int (nI i)), (2, .int (nI h0)), (4, .int (nI c))] dX6_comesBack_64 rfl (by decide) rfl ?_
            refine x_iinc_n h 4 (n := 1) [(4, .int (nI (c + 1))), (3, .int (nI 0)), (0, .ref (g.1 158)), (1, .int (nI i)), (2, .int (nI h0))] dX6_comesBack_65 rfl (by decide) rfl ?_
            refine x_goto h 24 dX6_comesBack_68 (by decide) ?_
            exact x_lv (ih24 (c + 1) false (by omega) (by omega) (by exact ⟨fun q => (by cases q), fun q => by first | (have z := hb.mpr ⟨q.1, fun a ha => q.2 a (by omega)⟩; rw [bI_0 c_33] at z; cases z) | exact absurd (q.2 c (by omega) hw40) c_56⟩)) [2, 3, 4, 1, 0] rfl
          · -- 33 false
            refine x_aload_n h 0 dX6_comesBack_36 rfl rfl ?_
            refine x_iload_n h 1 dX6_comesBack_37 rfl rfl ?_
            refine x_iload h 4 dX6_comesBack_38 rfl ?_
            refine x_callV h (As := [.int (nI i), .int (nI c)]) 2 hx (c_X6_was (by omega) (by omega)) gX6_comesBack_X6_was rfl ⟨rfl, rfl⟩ (by decide +kernel) rfl (by decide) (by decide) E_158 rfl rfl (Nat.le_of_ble_eq_true rfl) dX6_comesBack_40 (fun rv M' P' hp => ?_)
            obtain ⟨⟨rfl, rfl⟩, hp⟩ := hp
            rw [(rfl : M 159 = M 159)] at hp
            rcases hp with ⟨hw40, rfl⟩ | ⟨hw40, rfl⟩
            · -- marked
              refine x_if_eq h 59 dX6_comesBack_43 (by decide) (fun c => absurd c (by decide)) (fun _ => ?_)
              refine x_aload_n h 0 dX6_comesBack_46 rfl rfl ?_
              refine xg_X6_0 h in_X6_comesBack_X6 (by decide +kernel) dX6_comesBack_47 ?_
              refine x_bipush h (nI 7) dX6_comesBack_50 (by decide) ?_
              refine x_iload h 4 dX6_comesBack_52 rfl ?_
              refine x_iadd_n h dX6_comesBack_54 ?_
              refine xl_159 h dX6_comesBack_55 (by omega) ?_
              refine x_if_ne h 63 dX6_comesBack_56 (by decide) (fun c_56 => ?_) (fun c_56 => ?_)
              · -- 56 true
                refine x_iconst h (nI 0) dX6_comesBack_63 (by decide) ?_
                refine x_istore_n h [(3, .int (nI 0)), (0, .ref (g.1 158)), (1, .int (nI i)), (2, .int (nI h0)), (4, .int (nI c))] dX6_comesBack_64 rfl (by decide) rfl ?_
                refine x_iinc_n h 4 (n := 1) [(4, .int (nI (c + 1))), (3, .int (nI 0)), (0, .ref (g.1 158)), (1, .int (nI i)), (2, .int (nI h0))] dX6_comesBack_65 rfl (by decide) rfl ?_
                refine x_goto h 24 dX6_comesBack_68 (by decide) ?_
                exact x_lv (ih24 (c + 1) false (by omega) (by omega) (by exact ⟨fun q => (by cases q), fun q => by first | (have z := hb.mpr ⟨q.1, fun a ha => q.2 a (by omega)⟩; rw [bI_0 c_33] at z; cases z) | exact absurd (q.2 c (by omega) hw40) c_56⟩)) [2, 3, 4, 1, 0] rfl
              · -- 56 false
                refine x_iconst h (nI 1) dX6_comesBack_59 (by decide) ?_
                refine x_goto h 64 dX6_comesBack_60 (by decide) ?_
                refine x_istore_n h [(3, .int (nI 1)), (0, .ref (g.1 158)), (1, .int (nI i)), (2, .int (nI h0)), (4, .int (nI c))] dX6_comesBack_64 rfl (by decide) rfl ?_
                refine x_iinc_n h 4 (n := 1) [(4, .int (nI (c + 1))), (3, .int (nI 1)), (0, .ref (g.1 158)), (1, .int (nI i)), (2, .int (nI h0))] dX6_comesBack_65 rfl (by decide) rfl ?_
                refine x_goto h 24 dX6_comesBack_68 (by decide) ?_
                exact x_lv (ih24 (c + 1) true (by omega) (by omega) (by exact ⟨fun _ => ⟨((hb.mp (bI_1 c_33)).1), fun a ha hm => by rcases Nat.lt_succ_iff_lt_or_eq.mp ha with q | q; exact (hb.mp (bI_1 c_33)).2 a q hm; subst q; first | exact c_56 | (rw [hw40] at hm; cases hm)⟩, fun _ => rfl⟩)) [2, 3, 4, 1, 0] rfl
            · -- not marked
              refine x_if_eq h 59 dX6_comesBack_43 (by decide) (fun _ => ?_) (fun c => absurd (by decide) c)
              refine x_iconst h (nI 1) dX6_comesBack_59 (by decide) ?_
              refine x_goto h 64 dX6_comesBack_60 (by decide) ?_
              refine x_istore_n h [(3, .int (nI 1)), (0, .ref (g.1 158)), (1, .int (nI i)), (2, .int (nI h0)), (4, .int (nI c))] dX6_comesBack_64 rfl (by decide) rfl ?_
              refine x_iinc_n h 4 (n := 1) [(4, .int (nI (c + 1))), (3, .int (nI 1)), (0, .ref (g.1 158)), (1, .int (nI i)), (2, .int (nI h0))] dX6_comesBack_65 rfl (by decide) rfl ?_
              refine x_goto h 24 dX6_comesBack_68 (by decide) ?_
              exact x_lv (ih24 (c + 1) true (by omega) (by omega) (by exact ⟨fun _ => ⟨((hb.mp (bI_1 c_33)).1), fun a ha hm => by rcases Nat.lt_succ_iff_lt_or_eq.mp ha with q | q; exact (hb.mp (bI_1 c_33)).2 a q hm; subst q; first | exact c_56 | (rw [hw40] at hm; cases hm)⟩, fun _ => rfl⟩)) [2, 3, 4, 1, 0] rfl
    exact x_lv (L24 _ 0 true (Nat.lt_succ_self _) (by omega) (by exact ⟨fun q => (by first | (cases q; done) | exact ⟨(hj01.elim id (fun q => absurd q nj9)), fun a ha => absurd ha (Nat.not_lt_zero a)⟩), fun q => by first | rfl | exact (by have z := q.1; rw [j9] at z; exact absurd z (by decide))⟩)) [3, 4, 2, 1, 0] rfl

set_option maxRecDepth 20000 in
theorem ggX6_hears_X6_heard : GoodIn wsX6_hears wsX6_heard := goodIn_r _ [7, 2, 8, 9, 10, 11, 6, 12, 13, 14, 15, 16, 45, 46, 47, 48, 49, 50, 51, 52, 53, 54, 55, 56, 57, 58, 59, 60, 61, 62, 63] (by decide +kernel) (by decide +kernel)
set_option maxRecDepth 20000 in
theorem gX6_hears_X6_heard : GoodIn wsX6_hears (wsV RX6 189 RX6 yX6_heard wsX6_heard) := goodIn_app (goodIn_of _ (by decide +kernel)) ggX6_hears_X6_heard
set_option maxRecDepth 20000 in
theorem ggX6_hears_X6_claimAt : GoodIn wsX6_hears wsX6_claimAt := goodIn_r _ [16, 2, 45, 46, 47, 48, 49, 50, 51, 52, 53, 54, 55, 56, 57, 58, 59, 60, 61, 62, 63] (by decide +kernel) (by decide +kernel)
set_option maxRecDepth 20000 in
theorem gX6_hears_X6_claimAt : GoodIn wsX6_hears (wsV RX6 168 RX6 yX6_claimAt wsX6_claimAt) := goodIn_app (goodIn_of _ (by decide +kernel)) ggX6_hears_X6_claimAt
set_option maxRecDepth 20000 in
theorem ggX6_hears_X6_loss : GoodIn wsX6_hears wsX6_loss := goodIn_r _ [12, 2, 13, 14, 15, 6, 16, 45, 46, 47, 48, 49, 50, 51, 52, 53, 54, 55, 56, 57, 58, 59, 60, 61, 62, 63] (by decide +kernel) (by decide +kernel)
set_option maxRecDepth 20000 in
theorem gX6_hears_X6_loss : GoodIn wsX6_hears (wsV RX6 183 RX6 yX6_loss wsX6_loss) := goodIn_app (goodIn_of _ (by decide +kernel)) ggX6_hears_X6_loss
set_option maxRecDepth 20000 in
theorem ggX6_hears_X6_of : GoodIn wsX6_hears wsX6_of := goodIn_r _ [20, 2, 45, 46, 47, 48, 49, 50, 51, 52, 53, 54, 55, 56, 57, 58, 59, 60, 61, 62, 63] (by decide +kernel) (by decide +kernel)
set_option maxRecDepth 20000 in
theorem gX6_hears_X6_of : GoodIn wsX6_hears (wsV RX6 42 RX6 yX6_of wsX6_of) := goodIn_app (goodIn_of _ (by decide +kernel)) ggX6_hears_X6_of
set_option maxRecDepth 20000 in
theorem ggX6_hears_X6_pays : GoodIn wsX6_hears wsX6_pays := goodIn_r _ [24, 25, 26, 27, 6, 28, 2, 45, 46, 47, 48, 49, 50, 51, 52, 53, 54, 55, 56, 57, 58, 59, 60, 61, 62, 63] (by decide +kernel) (by decide +kernel)
set_option maxRecDepth 20000 in
theorem gX6_hears_X6_pays : GoodIn wsX6_hears (wsV RX6 153 RX6 yX6_pays wsX6_pays) := goodIn_app (goodIn_of _ (by decide +kernel)) ggX6_hears_X6_pays
set_option maxRecDepth 20000 in
theorem ggX6_hears_X6_loses : GoodIn wsX6_hears wsX6_loses := goodIn_r _ [32, 2, 45, 46, 47, 48, 49, 50, 51, 52, 53, 54, 55, 56, 57, 58, 59, 60, 61, 62, 63] (by decide +kernel) (by decide +kernel)
set_option maxRecDepth 20000 in
theorem gX6_hears_X6_loses : GoodIn wsX6_hears (wsV RX6 159 RX6 yX6_loses wsX6_loses) := goodIn_app (goodIn_of _ (by decide +kernel)) ggX6_hears_X6_loses
set_option maxRecDepth 20000 in
theorem ggX6_hears_X6_comesBack : GoodIn wsX6_hears wsX6_comesBack := goodIn_r _ [36, 2, 13, 14, 15, 6, 16, 37, 38, 39, 40, 17, 18, 19, 20, 41, 42, 43, 44, 45, 46, 47, 48, 49, 50, 51, 52, 53, 54, 55, 56, 57, 58, 59, 60, 61, 62, 63] (by decide +kernel) (by decide +kernel)
set_option maxRecDepth 20000 in
theorem gX6_hears_X6_comesBack : GoodIn wsX6_hears (wsV RX6 192 RX6 yX6_comesBack wsX6_comesBack) := goodIn_app (goodIn_of _ (by decide +kernel)) ggX6_hears_X6_comesBack
theorem dX6_hears_0 : decode cX6_hears 0 = .ok (.aload_n 0, 1) := by decide +kernel
theorem dX6_hears_1 : decode cX6_hears 1 = .ok (.iconst 0, 1) := by decide +kernel
theorem dX6_hears_2 : decode cX6_hears 2 = .ok (.invokevirtual 189, 3) := by decide +kernel
theorem dX6_hears_5 : decode cX6_hears 5 = .ok (.istore_n 1, 1) := by decide +kernel
theorem dX6_hears_6 : decode cX6_hears 6 = .ok (.iload_n 1, 1) := by decide +kernel
theorem dX6_hears_7 : decode cX6_hears 7 = .ok (.ifCond .ge 6, 3) := by decide +kernel
theorem dX6_hears_10 : decode cX6_hears 10 = .ok (.ldc 53, 2) := by decide +kernel
theorem dX6_hears_12 : decode cX6_hears 12 = .ok (.ireturn, 1) := by decide +kernel
theorem dX6_hears_13 : decode cX6_hears 13 = .ok (.aload_n 0, 1) := by decide +kernel
theorem dX6_hears_14 : decode cX6_hears 14 = .ok (.iload_n 1, 1) := by decide +kernel
theorem dX6_hears_15 : decode cX6_hears 15 = .ok (.iconst 1, 1) := by decide +kernel
theorem dX6_hears_16 : decode cX6_hears 16 = .ok (.invokevirtual 168, 3) := by decide +kernel
theorem dX6_hears_19 : decode cX6_hears 19 = .ok (.istore_n 2, 1) := by decide +kernel
theorem dX6_hears_20 : decode cX6_hears 20 = .ok (.aload_n 0, 1) := by decide +kernel
theorem dX6_hears_21 : decode cX6_hears 21 = .ok (.iload_n 1, 1) := by decide +kernel
theorem dX6_hears_22 : decode cX6_hears 22 = .ok (.invokevirtual 183, 3) := by decide +kernel
theorem dX6_hears_25 : decode cX6_hears 25 = .ok (.aload_n 0, 1) := by decide +kernel
theorem dX6_hears_26 : decode cX6_hears 26 = .ok (.iload_n 1, 1) := by decide +kernel
theorem dX6_hears_27 : decode cX6_hears 27 = .ok (.iconst 4, 1) := by decide +kernel
theorem dX6_hears_28 : decode cX6_hears 28 = .ok (.invokevirtual 168, 3) := by decide +kernel
theorem dX6_hears_31 : decode cX6_hears 31 = .ok (.isub, 1) := by decide +kernel
theorem dX6_hears_32 : decode cX6_hears 32 = .ok (.istore_n 3, 1) := by decide +kernel
theorem dX6_hears_33 : decode cX6_hears 33 = .ok (.iload_n 3, 1) := by decide +kernel
theorem dX6_hears_34 : decode cX6_hears 34 = .ok (.ifCond .gt 7, 3) := by decide +kernel
theorem dX6_hears_37 : decode cX6_hears 37 = .ok (.iconst 0, 1) := by decide +kernel
theorem dX6_hears_38 : decode cX6_hears 38 = .ok (.goto 23, 3) := by decide +kernel
theorem dX6_hears_41 : decode cX6_hears 41 = .ok (.iload_n 3, 1) := by decide +kernel
theorem dX6_hears_42 : decode cX6_hears 42 = .ok (.aload_n 0, 1) := by decide +kernel
theorem dX6_hears_43 : decode cX6_hears 43 = .ok (.iload_n 2, 1) := by decide +kernel
theorem dX6_hears_44 : decode cX6_hears 44 = .ok (.iconst 4, 1) := by decide +kernel
theorem dX6_hears_45 : decode cX6_hears 45 = .ok (.invokevirtual 42, 3) := by decide +kernel
theorem dX6_hears_48 : decode cX6_hears 48 = .ok (.if_icmp .ge 7, 3) := by decide +kernel
theorem dX6_hears_51 : decode cX6_hears 51 = .ok (.iload_n 3, 1) := by decide +kernel
theorem dX6_hears_52 : decode cX6_hears 52 = .ok (.goto 9, 3) := by decide +kernel
theorem dX6_hears_55 : decode cX6_hears 55 = .ok (.aload_n 0, 1) := by decide +kernel
theorem dX6_hears_56 : decode cX6_hears 56 = .ok (.iload_n 2, 1) := by decide +kernel
theorem dX6_hears_57 : decode cX6_hears 57 = .ok (.iconst 4, 1) := by decide +kernel
theorem dX6_hears_58 : decode cX6_hears 58 = .ok (.invokevirtual 42, 3) := by decide +kernel
theorem dX6_hears_61 : decode cX6_hears 61 = .ok (.istore 4, 2) := by decide +kernel
theorem dX6_hears_63 : decode cX6_hears 63 = .ok (.aload_n 0, 1) := by decide +kernel
theorem dX6_hears_64 : decode cX6_hears 64 = .ok (.iload_n 2, 1) := by decide +kernel
theorem dX6_hears_65 : decode cX6_hears 65 = .ok (.aload_n 0, 1) := by decide +kernel
theorem dX6_hears_66 : decode cX6_hears 66 = .ok (.iload_n 1, 1) := by decide +kernel
theorem dX6_hears_67 : decode cX6_hears 67 = .ok (.iconst 0, 1) := by decide +kernel
theorem dX6_hears_68 : decode cX6_hears 68 = .ok (.invokevirtual 168, 3) := by decide +kernel
theorem dX6_hears_71 : decode cX6_hears 71 = .ok (.iload 4, 2) := by decide +kernel
theorem dX6_hears_73 : decode cX6_hears 73 = .ok (.invokevirtual 153, 3) := by decide +kernel
theorem dX6_hears_76 : decode cX6_hears 76 = .ok (.aload_n 0, 1) := by decide +kernel
theorem dX6_hears_77 : decode cX6_hears 77 = .ok (.getfield 7, 3) := by decide +kernel
theorem dX6_hears_80 : decode cX6_hears 80 = .ok (.sipush 223, 3) := by decide +kernel
theorem dX6_hears_83 : decode cX6_hears 83 = .ok (.bipush 13, 2) := by decide +kernel
theorem dX6_hears_85 : decode cX6_hears 85 = .ok (.iload_n 1, 1) := by decide +kernel
theorem dX6_hears_86 : decode cX6_hears 86 = .ok (.imul, 1) := by decide +kernel
theorem dX6_hears_87 : decode cX6_hears 87 = .ok (.iadd, 1) := by decide +kernel
theorem dX6_hears_88 : decode cX6_hears 88 = .ok (.iconst 4, 1) := by decide +kernel
theorem dX6_hears_89 : decode cX6_hears 89 = .ok (.iadd, 1) := by decide +kernel
theorem dX6_hears_90 : decode cX6_hears 90 = .ok (.dup2, 1) := by decide +kernel
theorem dX6_hears_91 : decode cX6_hears 91 = .ok (.iaload, 1) := by decide +kernel
theorem dX6_hears_92 : decode cX6_hears 92 = .ok (.iload 4, 2) := by decide +kernel
theorem dX6_hears_94 : decode cX6_hears 94 = .ok (.iadd, 1) := by decide +kernel
theorem dX6_hears_95 : decode cX6_hears 95 = .ok (.iastore, 1) := by decide +kernel
theorem dX6_hears_96 : decode cX6_hears 96 = .ok (.iload 4, 2) := by decide +kernel
theorem dX6_hears_98 : decode cX6_hears 98 = .ok (.iload_n 3, 1) := by decide +kernel
theorem dX6_hears_99 : decode cX6_hears 99 = .ok (.if_icmp .ge 13, 3) := by decide +kernel
theorem dX6_hears_102 : decode cX6_hears 102 = .ok (.aload_n 0, 1) := by decide +kernel
theorem dX6_hears_103 : decode cX6_hears 103 = .ok (.iload_n 2, 1) := by decide +kernel
theorem dX6_hears_104 : decode cX6_hears 104 = .ok (.invokevirtual 159, 3) := by decide +kernel
theorem dX6_hears_107 : decode cX6_hears 107 = .ok (.aload_n 0, 1) := by decide +kernel
theorem dX6_hears_108 : decode cX6_hears 108 = .ok (.iload_n 1, 1) := by decide +kernel
theorem dX6_hears_109 : decode cX6_hears 109 = .ok (.invokevirtual 192, 3) := by decide +kernel
theorem dX6_hears_112 : decode cX6_hears 112 = .ok (.aload_n 0, 1) := by decide +kernel
theorem dX6_hears_113 : decode cX6_hears 113 = .ok (.getfield 7, 3) := by decide +kernel
theorem dX6_hears_116 : decode cX6_hears 116 = .ok (.sipush 223, 3) := by decide +kernel
theorem dX6_hears_119 : decode cX6_hears 119 = .ok (.bipush 13, 2) := by decide +kernel
theorem dX6_hears_121 : decode cX6_hears 121 = .ok (.iload_n 1, 1) := by decide +kernel
theorem dX6_hears_122 : decode cX6_hears 122 = .ok (.imul, 1) := by decide +kernel
theorem dX6_hears_123 : decode cX6_hears 123 = .ok (.iadd, 1) := by decide +kernel
theorem dX6_hears_124 : decode cX6_hears 124 = .ok (.iconst 5, 1) := by decide +kernel
theorem dX6_hears_125 : decode cX6_hears 125 = .ok (.iadd, 1) := by decide +kernel
theorem dX6_hears_126 : decode cX6_hears 126 = .ok (.iconst 2, 1) := by decide +kernel
theorem dX6_hears_127 : decode cX6_hears 127 = .ok (.iastore, 1) := by decide +kernel
theorem dX6_hears_128 : decode cX6_hears 128 = .ok (.aload_n 0, 1) := by decide +kernel
theorem dX6_hears_129 : decode cX6_hears 129 = .ok (.getfield 7, 3) := by decide +kernel
theorem dX6_hears_132 : decode cX6_hears 132 = .ok (.iconst 4, 1) := by decide +kernel
theorem dX6_hears_133 : decode cX6_hears 133 = .ok (.dup2, 1) := by decide +kernel
theorem dX6_hears_134 : decode cX6_hears 134 = .ok (.iaload, 1) := by decide +kernel
theorem dX6_hears_135 : decode cX6_hears 135 = .ok (.iconst 1, 1) := by decide +kernel
theorem dX6_hears_136 : decode cX6_hears 136 = .ok (.iadd, 1) := by decide +kernel
theorem dX6_hears_137 : decode cX6_hears 137 = .ok (.iastore, 1) := by decide +kernel
theorem dX6_hears_138 : decode cX6_hears 138 = .ok (.iload 4, 2) := by decide +kernel
theorem dX6_hears_140 : decode cX6_hears 140 = .ok (.ireturn, 1) := by decide +kernel
abbrev rmX6_hears : Room := { frames := 3, cells := 0, slots := 0, locals := 68 }
set_option maxRecDepth 20000 in
theorem in_X6_hears_X6 : ∀ w ∈ wsX60, w ∈ wsX6_hears := by decide +kernel

set_option maxRecDepth 100000 in
set_option maxHeartbeats 16000000 in
theorem c_X6_hears {l : Launch} {g : Geo} {M : Nat → Nat → Int32} {P : Nat → Nat} {N K B : Nat} (hI : InvX eM (M 159) N K B) : Met l yX6_hears wsX6_hears rmX6_hears (cPre g [.ref (g.1 158)] M P) (cQi g (fun r M' P' => P = P' ∧ ∃ X', hearQ bM eM (M 159) N K r X' ∧ M' = va_up M 159 X')) 0 0 (gA g) := by
  refine met_i (cc := cX6_hears) (maxL := 5) (by decide) rfl ⟨rfl, rfl⟩ (Nat.le_of_ble_eq_true rfl) (fun x hx h hret => ?_)
  replace h : Cxk x g cX6_hears 5 wsX6_hears RX6 rmX6_hears := h
  show X x 0 [(0, .ref (g.1 158))] [] M P
  have hN := hI.1.1
  have hN6 := hI.1.2.1
  have hK := hI.1.2.2.1
  have hK12 := hI.1.2.2.2.1
  refine x_aload_n h 0 dX6_hears_0 rfl rfl ?_
  refine x_iconst h (nI 0) dX6_hears_1 (by decide) ?_
  refine x_callV h (As := [.int (nI 0)]) 1 hx (c_X6_heard hI) gX6_hears_X6_heard rfl ⟨rfl, rfl⟩ (by decide +kernel) rfl (by decide) (by decide) E_158 rfl rfl (Nat.le_of_ble_eq_true rfl) dX6_hears_2 (fun rv M' P' hp => ?_)
  obtain ⟨⟨rfl, rfl⟩, hp⟩ := hp
  cases hh1 : hd1 (M 159) K (nI 0) with
  | none =>
    rw [hh1] at hp
    refine x_top (-1000004) hp ?_
    refine x_istore_n h [(1, .int (-1000004)), (0, .ref (g.1 158))] dX6_hears_5 rfl (by decide) rfl ?_
    refine x_iload_n h 0 dX6_hears_6 rfl rfl ?_
    refine x_if_ge h 13 dX6_hears_7 (by decide) (fun c => absurd c (by decide)) (fun _ => ?_)
    refine x_ldc h ((-1000002)) (by decide +kernel) dX6_hears_10 ?_
    exact hret _ _ _ _ _ dX6_hears_12 (by exact ⟨rfl, _, Or.inl ⟨hh1, rfl, rfl⟩, (va_up_id _ _).symm⟩)
  | some i =>
    rw [hh1] at hp
    have hiK := hd1_lt hh1
    obtain ⟨⟨h0, hh0, eh0⟩, ⟨d0, hd0, ed0⟩⟩ := hI.1.2.2.2.2.2.2.2 i hiK
    refine x_top (nI i) hp ?_
    refine x_istore_n h [(1, .int (nI i)), (0, .ref (g.1 158))] dX6_hears_5 rfl (by decide) rfl ?_
    refine x_iload_n h 0 dX6_hears_6 rfl rfl ?_
    refine x_if_ge_n h 13 dX6_hears_7 (by decide) (by omega) ?_
    refine x_aload_n h 1 dX6_hears_13 rfl rfl ?_
    refine x_iload_n h 0 dX6_hears_14 rfl rfl ?_
    refine x_iconst h (nI 1) dX6_hears_15 (by decide) ?_
    refine x_callV h (As := [.int (nI i), .int (nI 1)]) 2 hx (c_X6_claimAt (by omega) (by decide)) gX6_hears_X6_claimAt rfl ⟨rfl, rfl⟩ (by decide +kernel) rfl (by decide) (by decide) E_158 rfl rfl (Nat.le_of_ble_eq_true rfl) dX6_hears_16 (fun rv M' P' hp => ?_)
    obtain ⟨⟨rfl, rfl⟩, rfl⟩ := hp
    refine x_top (nI d0) (ed0) ?_
    refine x_istore_n h [(2, .int (nI d0)), (1, .int (nI i)), (0, .ref (g.1 158))] dX6_hears_19 rfl (by decide) rfl ?_
    refine x_aload_n h 2 dX6_hears_20 rfl rfl ?_
    refine x_iload_n h 1 dX6_hears_21 rfl rfl ?_
    refine x_callV h (As := [.int (nI i)]) 1 hx (c_X6_loss (by omega)) gX6_hears_X6_loss rfl ⟨rfl, rfl⟩ (by decide +kernel) rfl (by decide) (by decide) E_158 rfl rfl (Nat.le_of_ble_eq_true rfl) dX6_hears_22 (fun rv M' P' hp => ?_)
    obtain ⟨⟨rfl, rfl⟩, rfl⟩ := hp
    refine x_aload_n h 2 dX6_hears_25 rfl rfl ?_
    refine x_iload_n h 1 dX6_hears_26 rfl rfl ?_
    refine x_iconst h (nI 4) dX6_hears_27 (by decide) ?_
    refine x_callV h (As := [.int (nI i), .int (nI 4)]) 2 hx (c_X6_claimAt (by omega) (by decide)) gX6_hears_X6_claimAt rfl ⟨rfl, rfl⟩ (by decide +kernel) rfl (by decide) (by decide) E_158 rfl rfl (Nat.le_of_ble_eq_true rfl) dX6_hears_28 (fun rv M' P' hp => ?_)
    obtain ⟨⟨rfl, rfl⟩, rfl⟩ := hp
    refine x_isub h dX6_hears_31 ?_
    refine x_istore_n h [(3, .int ((lossX (M 159) i) - (M 159 (223 + 13 * i + 4)))), (2, .int (nI d0)), (1, .int (nI i)), (0, .ref (g.1 158))] dX6_hears_32 rfl (by decide) rfl ?_
    have J63 : ∀ (p : Int32), (p = payI (dueI (M 159) i) (M 159 (169 + 9 * d0 + 4))) → X x 63 [(0, .ref (g.1 158)), (1, .int (nI i)), (2, .int (nI d0)), (3, .int (dueI (M 159) i)), (4, .int p)] [] M P := by
      intro p hpp
      refine x_aload_n h 0 dX6_hears_63 rfl rfl ?_
      refine x_iload_n h 2 dX6_hears_64 rfl rfl ?_
      refine x_aload_n h 0 dX6_hears_65 rfl rfl ?_
      refine x_iload_n h 1 dX6_hears_66 rfl rfl ?_
      refine x_iconst h (nI 0) dX6_hears_67 (by decide) ?_
      refine x_callV h (As := [.int (nI i), .int (nI 0)]) 2 hx (c_X6_claimAt (by omega) (by decide)) gX6_hears_X6_claimAt rfl ⟨rfl, rfl⟩ (by decide +kernel) rfl (by decide) (by decide) E_158 rfl rfl (Nat.le_of_ble_eq_true rfl) dX6_hears_68 (fun rv M' P' hp => ?_)
      obtain ⟨⟨rfl, rfl⟩, rfl⟩ := hp
      refine x_top (nI h0) (eh0) ?_
      refine x_iload h 4 dX6_hears_71 rfl ?_
      refine x_callVv h (As := [.int (nI d0), .int (nI h0), .int p]) 3 hx (c_X6_pays (n := d0) (o := h0) (by omega) (by omega)) gX6_hears_X6_pays rfl ⟨rfl, rfl⟩ (by decide +kernel) rfl (by decide) (by decide) E_158 rfl rfl (Nat.le_of_ble_eq_true rfl) dX6_hears_73 (fun M73 P' hp => ?_)
      obtain ⟨rfl, hM73⟩ := hp
      refine x_aload_n h 0 dX6_hears_76 rfl rfl ?_
      refine xg_X6_0 h in_X6_hears_X6 (by decide +kernel) dX6_hears_77 ?_
      refine x_sipush h (nI 223) dX6_hears_80 (by decide) ?_
      refine x_bipush h (nI 13) dX6_hears_83 (by decide) ?_
      refine x_iload_n h 1 dX6_hears_85 rfl rfl ?_
      refine x_imul_n h dX6_hears_86 ?_
      refine x_iadd_n h dX6_hears_87 ?_
      refine x_iconst h (nI 4) dX6_hears_88 (by decide) ?_
      refine x_iadd_n h dX6_hears_89 ?_
      refine x_dup2 h dX6_hears_90 rfl rfl ?_
      refine xl_159 h dX6_hears_91 (by omega) ?_
      refine x_top ((M 159 (223 + 13 * i + 4))) (by rw [hM73, va_up_k, rcv_o (by omega) (by omega), spd_o (by omega) (by omega)]) ?_
      refine x_iload h 4 dX6_hears_92 rfl ?_
      refine x_iadd h dX6_hears_94 ?_
      refine xs_159 h dX6_hears_95 (by omega) ?_
      obtain ⟨W1, hW1⟩ : ∃ q : Nat → Nat → Int32, q = st2 M73 159 ((223 + (13 * i)) + 4) ((M 159 (223 + 13 * i + 4)) + p) := ⟨_, rfl⟩
      refine x_mem W1 hW1.symm ?_
      have hW1r : W1 = va_up M 159 (upd (recvX (spendX (M 159) d0 p) h0 p) (223 + 13 * i + 4) (M 159 (223 + 13 * i + 4) + p)) := by rw [hW1, hM73]; simp only [st2_va, va_up_up, va_up_k]
      obtain ⟨Y0, hY0⟩ : ∃ Y0, Y0 = (upd (recvX (spendX (M 159) d0 p) h0 p) (223 + 13 * i + 4) (M 159 (223 + 13 * i + 4) + p)) := ⟨_, rfl⟩
      rw [← hY0] at hW1r
      have hY0o : ∀ j, (j < 169 ∨ 223 ≤ j) → j ≠ 223 + 13 * i + 4 → Y0 j = M 159 j := fun j hj h2 => by rw [hY0, pk_un h2, rcv_o (by omega) (by omega), spd_o (by omega) (by omega)]
      have hY05 : ∀ k, k < 6 → Y0 (169 + 9 * k + 5) = M 159 (169 + 9 * k + 5) := fun k hk => by rw [hY0, pk_un (by omega), rcv_o (by omega) (by omega), spd_o (by omega) (by omega)]
      refine x_iload h 4 dX6_hears_96 rfl ?_
      refine x_iload_n h 3 dX6_hears_98 rfl rfl ?_
      refine x_icmp_ge h 112 dX6_hears_99 (by decide) (fun c_99 => ?_) (fun c_99 => ?_)
      · -- 99 true
        refine x_aload_n h 0 dX6_hears_112 rfl rfl ?_
        refine xg_X6_0 h in_X6_hears_X6 (by decide +kernel) dX6_hears_113 ?_
        refine x_sipush h (nI 223) dX6_hears_116 (by decide) ?_
        refine x_bipush h (nI 13) dX6_hears_119 (by decide) ?_
        refine x_iload_n h 1 dX6_hears_121 rfl rfl ?_
        refine x_imul_n h dX6_hears_122 ?_
        refine x_iadd_n h dX6_hears_123 ?_
        refine x_iconst h (nI 5) dX6_hears_124 (by decide) ?_
        refine x_iadd_n h dX6_hears_125 ?_
        refine x_iconst h (nI 2) dX6_hears_126 (by decide) ?_
        refine xs_159 h dX6_hears_127 (by omega) ?_
        refine x_aload_n h 0 dX6_hears_128 rfl rfl ?_
        refine xg_X6_0 h in_X6_hears_X6 (by decide +kernel) dX6_hears_129 ?_
        refine x_iconst h (nI 4) dX6_hears_132 (by decide) ?_
        refine x_dup2 h dX6_hears_133 rfl rfl ?_
        refine xl_159 h dX6_hears_134 (by decide) ?_
        refine x_iconst h (nI 1) dX6_hears_135 (by decide) ?_
        refine x_iadd h dX6_hears_136 ?_
        refine xs_159 h dX6_hears_137 (by decide) ?_
        refine x_iload h 4 dX6_hears_138 rfl ?_
        exact hret _ _ _ _ _ dX6_hears_140 (by 
                      have hHY : hearY (M 159) i h0 d0 p = upd Y0 (223 + 13 * i + 5) (nI 2) := by rw [hY0]; rfl
                      have e4 : Y0 4 = M 159 4 := hY0o 4 (by omega) (by omega)
                      refine ⟨rfl, upd (upd Y0 (223 + 13 * i + 5) (nI 2)) 4 (M 159 4 + nI 1), Or.inr ⟨i, h0, d0, hh1, hiK, eh0, ed0, hh0, hd0, hpp, ?_⟩, ?_⟩
                      · exact Or.inl ⟨Int32.not_lt.mpr c_99, by rw [hHY]⟩
                      · rw [hW1r]; simp only [st2_va, va_up_up, va_up_k]; rw [pk_un (by omega), e4])
      · -- 99 false
        refine x_aload_n h 0 dX6_hears_102 rfl rfl ?_
        refine x_iload_n h 2 dX6_hears_103 rfl rfl ?_
        refine x_callVv h (As := [.int (nI d0)]) 1 hx (c_X6_loses (by omega)) gX6_hears_X6_loses rfl ⟨rfl, rfl⟩ (by decide +kernel) rfl (by decide) (by decide) E_158 rfl rfl (Nat.le_of_ble_eq_true rfl) dX6_hears_104 (fun M104 P' hp => ?_)
        obtain ⟨rfl, hM104⟩ := hp
        have hLr : M104 = va_up M 159 (loseE eM Y0 d0) := by rw [hM104, hW1r]; simp only [va_up_up, va_up_k]
        have hL9 : M104 159 = loseE eM Y0 d0 := by rw [hLr, va_up_k]
        refine x_aload_n h 0 dX6_hears_107 rfl rfl ?_
        refine x_iload_n h 1 dX6_hears_108 rfl rfl ?_
        refine x_callVv h (As := [.int (nI i)]) 1 hx (c_X6_comesBack (i := i) (h0 := h0) (by omega) (by omega) (by rw [hL9, loseE_n (by omega) (by omega), hY0o _ (by omega) (by omega)]; exact eh0) (by rw [hL9]; by_cases e : h0 = d0; rw [e, loseE_5]; exact Or.inl rfl; rw [loseE_n (by omega) (by omega), hY05 h0 (by omega)]; exact hI.j5 hh0)) gX6_hears_X6_comesBack rfl ⟨rfl, rfl⟩ (by decide +kernel) rfl (by decide) (by decide) E_158 rfl rfl (Nat.le_of_ble_eq_true rfl) dX6_hears_109 (fun M109 P' hp => ?_)
        obtain ⟨rfl, X109, hQ109, hM109⟩ := hp
        rw [hL9] at hQ109
        refine x_aload_n h 0 dX6_hears_112 rfl rfl ?_
        refine xg_X6_0 h in_X6_hears_X6 (by decide +kernel) dX6_hears_113 ?_
        refine x_sipush h (nI 223) dX6_hears_116 (by decide) ?_
        refine x_bipush h (nI 13) dX6_hears_119 (by decide) ?_
        refine x_iload_n h 1 dX6_hears_121 rfl rfl ?_
        refine x_imul_n h dX6_hears_122 ?_
        refine x_iadd_n h dX6_hears_123 ?_
        refine x_iconst h (nI 5) dX6_hears_124 (by decide) ?_
        refine x_iadd_n h dX6_hears_125 ?_
        refine x_iconst h (nI 2) dX6_hears_126 (by decide) ?_
        refine xs_159 h dX6_hears_127 (by omega) ?_
        refine x_aload_n h 0 dX6_hears_128 rfl rfl ?_
        refine xg_X6_0 h in_X6_hears_X6 (by decide +kernel) dX6_hears_129 ?_
        refine x_iconst h (nI 4) dX6_hears_132 (by decide) ?_
        refine x_dup2 h dX6_hears_133 rfl rfl ?_
        refine xl_159 h dX6_hears_134 (by decide) ?_
        refine x_iconst h (nI 1) dX6_hears_135 (by decide) ?_
        refine x_iadd h dX6_hears_136 ?_
        refine xs_159 h dX6_hears_137 (by decide) ?_
        refine x_iload h 4 dX6_hears_138 rfl ?_
        exact hret _ _ _ _ _ dX6_hears_140 (by 
                      have hHY : hearY (M 159) i h0 d0 p = upd Y0 (223 + 13 * i + 5) (nI 2) := by rw [hY0]; rfl
                      have e4 : Y0 4 = M 159 4 := hY0o 4 (by omega) (by omega)
                      have hl : loseE eM (hearY (M 159) i h0 d0 p) d0 = upd (loseE eM Y0 d0) (223 + 13 * i + 5) (nI 2) := by rw [hHY]; exact lose_u (by omega) (by omega)
                      have el4 : loseE eM Y0 d0 4 = M 159 4 := by rw [loseE_4]; exact e4
                      rcases hQ109 with ⟨q1, rfl⟩ | ⟨q1, rfl⟩
                      · refine ⟨rfl, upd (upd (loseE eM Y0 d0) (223 + 13 * i + 5) (nI 2)) 4 (M 159 4 + nI 1), Or.inr ⟨i, h0, d0, hh1, hiK, eh0, ed0, hh0, hd0, hpp, ?_⟩, ?_⟩
                        · exact Or.inr ⟨Int32.not_le.mp c_99, Or.inl ⟨by rw [hl]; exact fun z => q1 ((canB_u (by omega)).mp z), by rw [hl]⟩⟩
                        · rw [hM109, hLr]; simp only [st2_va, va_up_up, va_up_k]; rw [pk_un (by omega), el4]
                      · refine ⟨rfl, upd (upd (backG bM eM (loseE eM Y0 d0) i h0) (223 + 13 * i + 5) (nI 2)) 4 (M 159 4 + nI 1), Or.inr ⟨i, h0, d0, hh1, hiK, eh0, ed0, hh0, hd0, hpp, ?_⟩, ?_⟩
                        · exact Or.inr ⟨Int32.not_le.mp c_99, Or.inr ⟨by rw [hl]; exact (canB_u (by omega)).mpr q1, by rw [hl, back_u (by omega)]⟩⟩
                        · rw [hM109, hLr]; simp only [st2_va, va_up_up, va_up_k]; rw [pk_un (by omega), backG_n (by omega) (by omega), el4])
    refine x_iload_n h 0 dX6_hears_33 rfl rfl ?_
    refine x_if_gt h 41 dX6_hears_34 (by decide) (fun c_34 => ?_) (fun c_34 => ?_)
    · -- 34 true
      refine x_iload_n h 0 dX6_hears_41 rfl rfl ?_
      refine x_aload_n h 3 dX6_hears_42 rfl rfl ?_
      refine x_iload_n h 1 dX6_hears_43 rfl rfl ?_
      refine x_iconst h (nI 4) dX6_hears_44 (by decide) ?_
      refine x_callV h (As := [.int (nI d0), .int (nI 4)]) 2 hx (c_X6_of (by omega) (by decide)) gX6_hears_X6_of rfl ⟨rfl, rfl⟩ (by decide +kernel) rfl (by decide) (by decide) E_158 rfl rfl (Nat.le_of_ble_eq_true rfl) dX6_hears_45 (fun rv M' P' hp => ?_)
      obtain ⟨⟨rfl, rfl⟩, rfl⟩ := hp
      refine x_icmp_ge h 55 dX6_hears_48 (by decide) (fun c_48 => ?_) (fun c_48 => ?_)
      · -- 48 true
        refine x_aload_n h 3 dX6_hears_55 rfl rfl ?_
        refine x_iload_n h 1 dX6_hears_56 rfl rfl ?_
        refine x_iconst h (nI 4) dX6_hears_57 (by decide) ?_
        refine x_callV h (As := [.int (nI d0), .int (nI 4)]) 2 hx (c_X6_of (by omega) (by decide)) gX6_hears_X6_of rfl ⟨rfl, rfl⟩ (by decide +kernel) rfl (by decide) (by decide) E_158 rfl rfl (Nat.le_of_ble_eq_true rfl) dX6_hears_58 (fun rv M' P' hp => ?_)
        obtain ⟨⟨rfl, rfl⟩, rfl⟩ := hp
        refine x_istore h [(4, .int (M 159 (169 + 9 * d0 + 4))), (3, .int (dueI (M 159) i)), (2, .int (nI d0)), (1, .int (nI i)), (0, .ref (g.1 158))] dX6_hears_61 (by decide) rfl ?_
        exact x_lv (J63 (M 159 (169 + 9 * d0 + 4)) (by unfold payI; first | exact (if_pos c_34).symm | exact (if_pos (Int32.not_lt.mp c_34)).symm | (rw [if_neg (by first | exact c_34 | exact Int32.not_le.mpr c_34)]; first | exact (if_pos c_48).symm | exact (if_neg c_48).symm | exact (if_pos (Int32.not_le.mp c_48)).symm | exact (if_neg (Int32.not_lt.mpr c_48)).symm))) [4, 3, 2, 1, 0] rfl
      · -- 48 false
        refine x_iload_n h 0 dX6_hears_51 rfl rfl ?_
        refine x_goto h 61 dX6_hears_52 (by decide) ?_
        refine x_istore h [(4, .int (dueI (M 159) i)), (3, .int (dueI (M 159) i)), (2, .int (nI d0)), (1, .int (nI i)), (0, .ref (g.1 158))] dX6_hears_61 (by decide) rfl ?_
        exact x_lv (J63 (dueI (M 159) i) (by unfold payI; first | exact (if_pos c_34).symm | exact (if_pos (Int32.not_lt.mp c_34)).symm | (rw [if_neg (by first | exact c_34 | exact Int32.not_le.mpr c_34)]; first | exact (if_pos c_48).symm | exact (if_neg c_48).symm | exact (if_pos (Int32.not_le.mp c_48)).symm | exact (if_neg (Int32.not_lt.mpr c_48)).symm))) [4, 3, 2, 1, 0] rfl
    · -- 34 false
      refine x_iconst h (nI 0) dX6_hears_37 (by decide) ?_
      refine x_goto h 61 dX6_hears_38 (by decide) ?_
      refine x_istore h [(4, .int (nI 0)), (3, .int (dueI (M 159) i)), (2, .int (nI d0)), (1, .int (nI i)), (0, .ref (g.1 158))] dX6_hears_61 (by decide) rfl ?_
      exact x_lv (J63 (nI 0) (by unfold payI; first | exact (if_pos c_34).symm | exact (if_pos (Int32.not_lt.mp c_34)).symm | (rw [if_neg (by first | exact c_34 | exact Int32.not_le.mpr c_34)]; first | exact (if_pos c_48).symm | exact (if_neg c_48).symm | exact (if_pos (Int32.not_le.mp c_48)).symm | exact (if_neg (Int32.not_lt.mpr c_48)).symm))) [4, 3, 2, 1, 0] rfl
