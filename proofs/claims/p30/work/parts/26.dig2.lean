theorem bC_cg {X Y : Nat → Int32} {i a : Nat} (h : X (400 + a) = Y (400 + a)) : bC X i a = bC Y i a := by unfold bC; rw [h]
def ZbX (X : Nat → Int32) (K : Nat) : Prop := ∀ i, K ≤ i → i < 12 → ∀ a, a < 162 → bC X i a = false
def Krow (X0 : Nat → Int32) (L : List Nat) (n K v : Nat) (Y : Nat → Int32) : Nat → Int32 := claimE mkC eC Y (K + cnt (vicE eC X0 L) v) v n (nI (dueE eC X0 L v))
theorem clm_lo {Y : Nat → Int32} {Kv v n j : Nat} {w : Int32} (h : j < 6 ∨ (7 ≤ j ∧ j < 223)) : claimE mkC eC Y Kv v n w j = Y j := by
  unfold claimE mkC clmRow
  rw [scan_ge _ _ (by omega)]
  repeat rw [pk_un (by omega)]
theorem clm_6 {Y : Nat → Int32} {Kv v n : Nat} {w : Int32} : claimE mkC eC Y Kv v n w 6 = nI (Kv + 1) := by
  unfold claimE mkC clmRow
  rw [scan_ge _ _ (by omega)]
  repeat rw [pk_un (by omega)]
  rw [pk_us]
theorem clm_o {Y : Nat → Int32} {Kv v n i t : Nat} {w : Int32} (hK : Kv < 12) (hi : i < Kv) (ht : t < 7) : claimE mkC eC Y Kv v n w (223 + 13 * i + t) = Y (223 + 13 * i + t) := by
  unfold claimE mkC clmRow
  rw [scan_ge _ _ (by omega)]
  repeat rw [pk_un (by omega)]
theorem clm_k {Y : Nat → Int32} {Kv v n : Nat} {w : Int32} (hK : Kv < 12) : claimE mkC eC Y Kv v n w (223 + 13 * Kv) = nI v ∧ claimE mkC eC Y Kv v n w (223 + 13 * Kv + 1) = nI n ∧ claimE mkC eC Y Kv v n w (223 + 13 * Kv + 2) = nI (wir Y (eC.2.1 v)) ∧ claimE mkC eC Y Kv v n w (223 + 13 * Kv + 3) = nI (via Y (eC.2.1 v)) ∧ claimE mkC eC Y Kv v n w (223 + 13 * Kv + 4) = w ∧ claimE mkC eC Y Kv v n w (223 + 13 * Kv + 5) = nI 0 ∧ claimE mkC eC Y Kv v n w (223 + 13 * Kv + 6) = Y 4 := by
  unfold claimE mkC clmRow
  refine ⟨?_, ?_, ?_, ?_, ?_, ?_, ?_⟩
  · rw [scan_ge _ _ (by omega)]
    repeat first | rw [pk_un (by omega)] | rw [pk_us]
  · rw [scan_ge _ _ (by omega)]
    repeat first | rw [pk_un (by omega)] | rw [pk_us]
  · rw [scan_ge _ _ (by omega)]
    repeat first | rw [pk_un (by omega)] | rw [pk_us]
  · rw [scan_ge _ _ (by omega)]
    repeat first | rw [pk_un (by omega)] | rw [pk_us]
  · rw [scan_ge _ _ (by omega)]
    repeat first | rw [pk_un (by omega)] | rw [pk_us]
  · rw [scan_ge _ _ (by omega)]
    repeat first | rw [pk_un (by omega)] | rw [pk_us]
  · rw [scan_ge _ _ (by omega), pk_us]
theorem clm_b {Y : Nat → Int32} {Kv v n a : Nat} {w : Int32} (hK : Kv < 12) (ha : a < 162) : claimE mkC eC Y Kv v n w (400 + a) = if Y (7 + a) = nI v then Y (400 + a) ||| (nI 1 <<< (nI Kv &&& 31)) else Y (400 + a) := by
  unfold claimE mkC
  rw [scan_in _ _ ha]
  have e : clmRow Y Kv (nI v) (nI n) (nI (wir Y (eC.2.1 v))) (nI (via Y (eC.2.1 v))) w (400 + a) = Y (400 + a) := by
    unfold clmRow
    repeat rw [pk_un (by omega)]
  rw [e]
  rfl
theorem rcv_o {X : Nat → Int32} {v j : Nat} {w : Int32} (h : j ≠ 169 + 9 * v + 4) (h2 : j ≠ 169 + 9 * v + 8) : recvX X v w j = X j := by
  unfold recvX; rw [pk_un h2, pk_un h]
theorem rcv_4 {X : Nat → Int32} {v : Nat} {w : Int32} : recvX X v w (169 + 9 * v + 4) = X (169 + 9 * v + 4) + w := by
  unfold recvX; rw [pk_un (by omega), pk_us]
theorem rcv_8 {X : Nat → Int32} {v : Nat} {w : Int32} : recvX X v w (169 + 9 * v + 8) = X (169 + 9 * v + 8) + w := by
  unfold recvX; rw [pk_us]
theorem dgS_1 {X0 Y : Nat → Int32} {L : List Nat} {N n K v : Nat} (hN : N ≤ 6) (hv : v < N) (hK : K + cnt (vicE eC X0 L) v < 12) (hz : ZbX Y (K + cnt (vicE eC X0 L) v)) : dgC1 bC eC N (K + cnt (vicE eC X0 L) v) n v (nI (dueE eC X0 L v)) 0 Y (dgS X0 L n K v Y) ∧ ZbX (dgS X0 L n K v Y) (K + cnt (vicE eC X0 L) v + 1) := by
  generalize hKv : K + cnt (vicE eC X0 L) v = Kv at hK hz ⊢
  generalize hdu : nI (dueE eC X0 L v) = du
  have hS : dgS X0 L n K v Y = loseE eC (upd (recvX (claimE mkC eC Y Kv v n du) v du) (169 + 9 * v + 6) (recvX (claimE mkC eC Y Kv v n du) v du (169 + 9 * v + 6) + nI 1)) v := by unfold dgS; rw [hKv, hdu]
  rw [hS]
  have hi0 : ∀ x : Int32, x + nI 0 = x := fun x => Int32.add_zero x
  have hi1 : ∀ x : Int32, x - nI 0 = x := fun x => Int32.sub_zero x
  have b400 : ∀ a, a < 162 → loseE eC (upd (recvX (claimE mkC eC Y Kv v n du) v du) (169 + 9 * v + 6) (recvX (claimE mkC eC Y Kv v n du) v du (169 + 9 * v + 6) + nI 1)) v (400 + a) = if Y (7 + a) = nI v then Y (400 + a) ||| (nI 1 <<< (nI Kv &&& 31)) else Y (400 + a) := fun a ha => by
    rw [loseE_n (by omega) (by omega), pk_un (by omega), rcv_o (by omega) (by omega), clm_b hK ha]
  have bbit : ∀ i, i < 12 → ∀ a, a < 162 → bC (loseE eC (upd (recvX (claimE mkC eC Y Kv v n du) v du) (169 + 9 * v + 6) (recvX (claimE mkC eC Y Kv v n du) v du (169 + 9 * v + 6) + nI 1)) v) i a = (bC Y i a || (decide (i = Kv) && decide (Y (7 + a) = nI v))) := fun i hi a ha => by
    unfold bC
    rw [b400 a ha]
    by_cases q : Y (7 + a) = nI v
    · rw [if_pos q, decide_eq_true q, Bool.and_true]
      have := bit1_or (v := Y (400 + a)) (i := i) (k := Kv) (by omega) (by omega)
      by_cases e2 : bit1 (Y (400 + a)) i
      · rw [decide_eq_true (this.mpr (Or.inr e2)), decide_eq_true e2]; rfl
      · by_cases e1 : i = Kv
        · rw [decide_eq_true (this.mpr (Or.inl e1)), decide_eq_false e2, decide_eq_true e1]; rfl
        · rw [decide_eq_false (fun z => (this.mp z).elim e1 e2), decide_eq_false e2, decide_eq_false e1]; rfl
    · rw [if_neg q, decide_eq_false q, Bool.and_false, Bool.or_false]
  refine ⟨⟨fun j hj => ?_, ?_, fun a ha => ?_, fun j hj => ⟨fun t ht => ?_, ?_, ?_, ?_, ?_, ?_⟩, fun i hi t ht => ?_, ?_, fun i hi a ha => ?_, fun a ha => ?_⟩, fun i h1 h2 a ha => ?_⟩
  · rw [loseE_n (by omega) (by omega), pk_un (by omega), rcv_o (by omega) (by omega), clm_lo (by omega)]
  · rw [loseE_n (by omega) (by omega), pk_un (by omega), rcv_o (by omega) (by omega), clm_6]
  · rw [loseE_o (by omega) ha, pk_un (by omega), rcv_o (by omega) (by omega), clm_lo (by omega)]
  · rw [loseE_n (by omega) (by omega), pk_un (by omega), rcv_o (by omega) (by omega), clm_lo (by omega)]
  · rw [loseE_n (by omega) (by omega), pk_un (by omega), hi1, ite_self]
    by_cases e : j = v
    · subst e; rw [if_pos rfl, rcv_4, clm_lo (by omega)]
    · rw [if_neg e, rcv_o (by omega) (by omega), clm_lo (by omega), hi0]
  · by_cases e : j = v
    · subst e; rw [if_pos rfl, loseE_5]
    · rw [if_neg e, loseE_n (by omega) (by omega), pk_un (by omega), rcv_o (by omega) (by omega), clm_lo (by omega)]
  · rw [loseE_n (by omega) (by omega)]
    by_cases e : j = v
    · subst e; rw [if_pos rfl, pk_us, rcv_o (by omega) (by omega), clm_lo (by omega)]
    · rw [if_neg e, pk_un (by omega), rcv_o (by omega) (by omega), clm_lo (by omega)]
  · rw [loseE_n (by omega) (by omega), pk_un (by omega), rcv_o (by omega) (by omega), clm_lo (by omega), hi0, ite_self]
  · rw [loseE_n (by omega) (by omega), pk_un (by omega)]
    by_cases e : j = v
    · subst e; rw [if_pos rfl, rcv_8, clm_lo (by omega)]
    · rw [if_neg e, rcv_o (by omega) (by omega), clm_lo (by omega), hi0]
  · rw [loseE_n (by omega) (by omega), pk_un (by omega), rcv_o (by omega) (by omega), clm_o hK hi ht]
  · obtain ⟨c0, c1, c2, c3, c4, c5, c6⟩ := clm_k (Y := Y) (v := v) (n := n) (w := du) hK
    refine ⟨?_, ?_, ?_, ?_, ?_, ?_, ?_⟩
    · rw [loseE_n (by omega) (by omega), pk_un (by omega), rcv_o (by omega) (by omega)]; exact c0
    · rw [loseE_n (by omega) (by omega), pk_un (by omega), rcv_o (by omega) (by omega)]; exact c1
    · rw [loseE_n (by omega) (by omega), pk_un (by omega), rcv_o (by omega) (by omega)]; exact c2
    · rw [loseE_n (by omega) (by omega), pk_un (by omega), rcv_o (by omega) (by omega)]; exact c3
    · rw [loseE_n (by omega) (by omega), pk_un (by omega), rcv_o (by omega) (by omega)]; exact c4
    · rw [loseE_n (by omega) (by omega), pk_un (by omega), rcv_o (by omega) (by omega)]; exact c5
    · rw [loseE_n (by omega) (by omega), pk_un (by omega), rcv_o (by omega) (by omega)]; exact c6
  · rw [bbit i (by omega) a ha, decide_eq_false (by omega : ¬ i = Kv), Bool.false_and, Bool.or_false]
  · rw [bbit Kv hK a ha, hz Kv (Nat.le_refl _) hK a ha, decide_eq_true rfl, Bool.true_and, Bool.false_or]
    rfl
  · rw [bbit i h2 a ha, hz i (by omega) h2 a ha, decide_eq_false (by omega : ¬ i = Kv), Bool.false_and, Bool.or_false]
theorem dgR_V {X : Nat → Int32} {L : List Nat} {N k K : Nat} (hN : N ≤ 6) (hk : k < N) (hK : X 6 = nI K) (hKb : K + cnt (vicE eC X L) N ≤ 12) (hz : ZbX X K) : ∀ v, v ≤ N → dgV bC eC X N K k L (priE eC X N L) v (dgR X L N k K (spendX (upd X 4 (X 4 + nI 1)) k (nI (priE eC X N L))) v) ∧ ZbX (dgR X L N k K (spendX (upd X 4 (X 4 + nI 1)) k (nI (priE eC X N L))) v) (K + cnt (vicE eC X L) v)
  | 0, _ => by
    have hi0 : ∀ x : Int32, x + nI 0 = x := fun x => Int32.add_zero x
    have hc : ∀ j, j ≠ 4 → j ≠ 169 + 9 * k + 4 → j ≠ 169 + 9 * k + 7 → spendX (upd X 4 (X 4 + nI 1)) k (nI (priE eC X N L)) j = X j := fun j h1 h2 h3 => by
      unfold spendX; rw [pk_un h3, pk_un h2, pk_un h1]
    show dgV bC eC X N K k L (priE eC X N L) 0 (spendX (upd X 4 (X 4 + nI 1)) k (nI (priE eC X N L))) ∧ ZbX (spendX (upd X 4 (X 4 + nI 1)) k (nI (priE eC X N L))) (K + cnt (vicE eC X L) 0)
    refine ⟨⟨fun j hj => hc j (by omega) (by omega) (by omega), ?_, (hc 6 (by omega) (by omega) (by omega)).trans hK, fun a ha => ?_, fun j hj => ⟨fun t ht => hc _ (by omega) (by omega) (by omega), ?_, ?_, ?_, ?_, ?_⟩, fun i hi t ht => hc _ (by omega) (by omega) (by omega), fun w hw => absurd hw (Nat.not_lt_zero w), fun i hi a ha => bC_cg (hc _ (by omega) (by omega) (by omega)), fun w hw => absurd hw (Nat.not_lt_zero w)⟩, fun i h1 h2 a ha => ?_⟩
    · unfold spendX; rw [pk_un (by omega), pk_un (by omega), pk_us]
    · rw [hc _ (by omega) (by omega) (by omega)]
      unfold lzE
      rw [if_neg (fun ⟨w, hw, _⟩ => absurd hw (Nat.not_lt_zero w))]
    · rw [if_neg (Nat.not_lt_zero j), hi0]
      by_cases e : j = k
      · subst e; rw [if_pos rfl]; unfold spendX; rw [pk_un (by omega), pk_us, pk_un (by omega)]
      · rw [if_neg e, hc _ (by omega) (by omega) (by omega)]
    · rw [if_neg (fun q => absurd q.1 (Nat.not_lt_zero j)), hc _ (by omega) (by omega) (by omega)]
    · rw [if_neg (fun q => absurd q.1 (Nat.not_lt_zero j)), hc _ (by omega) (by omega) (by omega)]
    · by_cases e : j = k
      · subst e; rw [if_pos rfl]; unfold spendX; rw [pk_us, pk_un (by omega)]
      · rw [if_neg e, hc _ (by omega) (by omega) (by omega)]
    · rw [if_neg (Nat.not_lt_zero j), hi0, hc _ (by omega) (by omega) (by omega)]
    · rw [bC_cg (hc _ (by omega) (by omega) (by omega))]; exact hz i h1 h2 a ha
  | v + 1, hv => by
    obtain ⟨h1, h2⟩ := dgR_V hN hk hK hKb hz v (by omega)
    have hs : ∀ Y0 : Nat → Int32, dgR X L N k K Y0 (v + 1) = if v < N ∧ vicE eC X L v = true then dgS X L k K v (dgR X L N k K Y0 v) else dgR X L N k K Y0 v := fun _ => rfl
    rw [hs]
    generalize dgR X L N k K (spendX (upd X 4 (X 4 + nI 1)) k (nI (priE eC X N L))) v = W at h1 h2 ⊢
    generalize priE eC X N L = pri at h1 ⊢
    by_cases e : vicE eC X L v = true
    · rw [if_pos ⟨hv, e⟩, cnt_s e]
      have hcl := cnt_le2 (p := vicE eC X L) (a := v + 1) (b := N) hv
      rw [cnt_s e] at hcl
      obtain ⟨h3, h4⟩ := dgS_1 (n := k) hN hv (by omega) h2
      have h5 := dgV_s eC_g hN hk h1 hv e h3
      rw [Nat.add_zero] at h5
      exact ⟨h5, h4⟩
    · rw [if_neg (fun q => e q.2), cnt_n (by simpa using e)]
      exact ⟨dgV_n h1 hv e, h2⟩
def dgF (bt : (Nat → Int32) → Nat → Nat → Bool) (e : Enc) (X : Nat → Int32) (N K k : Nat) (L : List Nat) (X' : Nat → Int32) : Prop := ∃ Y, dgV bt e X N K k L (priE e X N L) N Y ∧ X' = takeE e Y k L
theorem finC_F {X : Nat → Int32} {L : List Nat} {N k K : Nat} (hN : N ≤ 6) (hk : k < N) (hK : X 6 = nI K) (hKb : K + cnt (vicE eC X L) N ≤ 12) (hz : ZbX X K) : dgF bC eC X N K k L (finC X N K k L) ∧ ZbX (finC X N K k L) (K + cnt (vicE eC X L) N) := by
  obtain ⟨h1, h2⟩ := dgR_V hN hk hK hKb hz N (Nat.le_refl N)
  refine ⟨⟨_, h1, ?_⟩, fun i g1 g2 a ha => ?_⟩
  · unfold finC; rw [dgR_end 6 hN]
  · unfold finC
    rw [dgR_end 6 hN, bC_cg (takeE_n (by omega) (by omega))]
    exact h2 i g1 g2 a ha
theorem sumN_add (f g : Nat → Nat) : ∀ n, sumN (fun j => f j + g j) n = sumN f n + sumN g n
  | 0 => rfl
  | n + 1 => by
    show sumN (fun j => f j + g j) n + (f n + g n) = sumN f n + f n + (sumN g n + g n)
    rw [sumN_add f g n]; omega
theorem thr_le (e : Enc) (X : Nat → Int32) (L : List Nat) (k : Nat) : thrE e X L k ≤ 162 := cnt_le _ 162
theorem sumN_le {f : Nat → Nat} {c : Nat} : ∀ {n : Nat}, (∀ k, k < n → f k ≤ c) → sumN f n ≤ n * c
  | 0, _ => Nat.zero_le _
  | n + 1, h => by
    have := sumN_le (n := n) (fun k hk => h k (by omega))
    have := h n (by omega)
    show sumN f n + f n ≤ _
    rw [Nat.succ_mul]; omega
theorem due_le {e : Enc} {X : Nat → Int32} {N K : Nat} {L : List Nat} (h : GdX e X N K) {k : Nat} (hk : k < N) : dueE e X L k ≤ 9558 := by
  have h1 := thr_le e X L k
  have h2 := h.pr.2
  have h3 := (h.net hk).st.2
  have := Nat.mul_le_mul h1 (Nat.add_le_add h2 h3)
  unfold dueE
  omega
theorem pri_le {e : Enc} {X : Nat → Int32} {N K : Nat} {L : List Nat} (h : GdX e X N K) : priE e X N L ≤ 57348 := by
  have h1 := sumN_le (f := dueE e X L) (c := 9558) (n := N) (fun k hk => due_le h hk)
  have h2 := h.2.1
  have := Nat.mul_le_mul_right 9558 h2
  unfold priE
  omega
theorem Inv_dgF {bt : (Nat → Int32) → Nat → Nat → Bool} {e : Enc} {X X' : Nat → Int32} {N K k B : Nat} {L : List Nat} (hE : EncG e) (h : InvX e X N K B) (hk : k < N) (hp : ¬ X (169 + 9 * k + 4) < nI (priE e X N L)) (hKb : K + cnt (vicE e X L) N ≤ 12) (hq : dgF bt e X N K k L X') : InvX e X' N (K + cnt (vicE e X L) N) B := by
  obtain ⟨Y, ⟨h1, h2, h3, h4, h5, h6, h7, -, -⟩, rfl⟩ := hq
  have hN := h.1.2.1
  refine Inv_take hE ?_ hk L
  have hB := h.2.2.2.2.2
  obtain ⟨pu, g1, g2⟩ := h.2.2.2.2.1
  have hpb := pri_le (L := L) h.1
  have hpk : priE e X N L ≤ pu k := by
    rw [g1 k hk] at hp
    have := le_sumN (f := pu) hk
    by_cases q : pu k < priE e X N L
    · exact absurd ((nI_ltI (by omega) (by omega)).mpr q) hp
    · omega
  refine InvX_st hE h ?_ (h1 5 (by omega)) h3 hKb (fun j hj t ht => (h5 j hj).1 t ht) (fun j hj => ?_) ?_ (fun i hi => ?_) (fun a ha => ?_)
  · rw [h1 0 (by omega), h1 1 (by omega)]; exact h.s01
  · rw [(h5 j hj).2.2.1]
    split
    · exact Or.inl rfl
    · exact h.j5 hj
  · refine ⟨fun j => (if j = k then pu j - priE e X N L else pu j) + dueE e X L j, fun j hj => ?_, ?_⟩
    · rw [(h5 j hj).2.1, if_pos hj, g1 j hj]
      by_cases ek : j = k
      · subst ek
        rw [if_pos rfl, pk_sub hpk, nI_add]
        exact congrArg nI (congrArg (· + dueE e X L j) (if_pos rfl).symm)
      · rw [if_neg ek, nI_add]
        exact congrArg nI (congrArg (· + dueE e X L j) (if_neg ek).symm)
    · rw [sumN_add]
      have := sumN_upd (f := fun j => if j = k then pu j - priE e X N L else pu j) (g := pu) (k := k) (w := priE e X N L) hk (by rw [if_pos rfl]; omega) (fun j _ hj => (if_neg hj).symm)
      have e1 : sumN (dueE e X L) N = priE e X N L := rfl
      omega
  · by_cases hi2 : i < K
    · have q0 := h6 i hi2 0 (by decide)
      rw [Nat.add_zero] at q0
      rw [q0, h6 i hi2 1 (by decide)]; exact h.1.2.2.2.2.2.2.2 i hi2
    · have key : ∀ n, n ≤ N → i < K + cnt (vicE e X L) n → ∃ w, w < n ∧ w < N ∧ vicE e X L w = true ∧ i = K + cnt (vicE e X L) w := by
        intro n
        induction n with
        | zero => intro _ q; exact absurd q hi2
        | succ n ih =>
          intro hn q
          by_cases ev : vicE e X L n = true
          · rw [cnt_s ev] at q
            by_cases q2 : i < K + cnt (vicE e X L) n
            · obtain ⟨w, w1, w2⟩ := ih (by omega) q2
              exact ⟨w, by omega, w2⟩
            · exact ⟨n, by omega, hn, ev, by omega⟩
          · rw [cnt_n (by simpa using ev)] at q
            obtain ⟨w, w1, w2⟩ := ih (by omega) q
            exact ⟨w, by omega, w2⟩
      obtain ⟨w, w1, w2, w3, rfl⟩ := key N (Nat.le_refl N) hi
      have := h7 w w1 w2 w3
      exact ⟨⟨w, w2, this.1⟩, ⟨k, hk, this.2.1⟩⟩
  · rw [h4 a ha]
    unfold lzE
    by_cases q : ∃ w, w < N ∧ w < N ∧ X (7 + a) = e.2.1 w ∧ vicE e X L w = true
    · rw [if_pos q]
      obtain ⟨w, w1, -, w2, -⟩ := q
      exact Or.inr ⟨Or.inr ⟨w, w1, w2⟩, Or.inl rfl⟩
    · rw [if_neg q]; exact Or.inl rfl
theorem payI_p {due : Int32} {u : Nat} (hu : u < 2 ^ 31) : ∃ p, p ≤ u ∧ payI due (nI u) = nI p := by
  unfold payI
  by_cases h : due ≤ 0
  · rw [if_pos h]; exact ⟨0, Nat.zero_le _, rfl⟩
  · rw [if_neg h]
    by_cases h2 : due < nI u
    · rw [if_pos h2]
      obtain ⟨q, hq, rfl⟩ := nI_of (x := due) (fun z => h (Int32.le_of_lt z))
      exact ⟨q, by have := (nI_ltI hq hu).mp h2; omega, rfl⟩
    · rw [if_neg h2]; exact ⟨u, Nat.le_refl _, rfl⟩
theorem hearY_o {X : Nat → Int32} {i h d j : Nat} {p : Int32} (h1 : j ≠ 223 + 13 * i + 4) (h2 : j ≠ 223 + 13 * i + 5) (h3 : ∀ q, (q = h ∨ q = d) → j ≠ 169 + 9 * q + 4 ∧ j ≠ 169 + 9 * q + 7 ∧ j ≠ 169 + 9 * q + 8) : hearY X i h d p j = X j := by
  unfold hearY recvX spendX
  rw [pk_un h2, pk_un h1, pk_un (h3 h (Or.inl rfl)).2.2, pk_un (h3 h (Or.inl rfl)).1, pk_un (h3 d (Or.inr rfl)).2.1, pk_un (h3 d (Or.inr rfl)).1]
theorem hearY_p {X : Nat → Int32} {i h d j : Nat} {p : Int32} (hh : h < 6) (hd : d < 6) (hj : j < 6) : hearY X i h d p (169 + 9 * j + 4) = (if j = d then X (169 + 9 * j + 4) - p else X (169 + 9 * j + 4)) + (if j = h then p else nI 0) := by
  have hi0 : ∀ x : Int32, x + nI 0 = x := fun x => Int32.add_zero x
  unfold hearY recvX spendX
  rw [pk_un (by omega), pk_un (by omega), pk_un (by omega)]
  by_cases e1 : j = h
  · subst e1
    rw [pk_us, if_pos rfl]
    by_cases e2 : j = d
    · subst e2; rw [pk_un (by omega), pk_us, if_pos rfl]
    · rw [pk_un (by omega), pk_un (by omega), if_neg e2]
  · rw [pk_un (by omega), if_neg e1, hi0, pk_un (by omega)]
    by_cases e2 : j = d
    · subst e2; rw [pk_us, if_pos rfl]
    · rw [pk_un (by omega), if_neg e2]
theorem Inv_hearY {e : Enc} {X : Nat → Int32} {N K B i h d : Nat} {due : Int32} (hE : EncG e) (hI : InvX e X N K B) (hi : i < K) (hh : h < N) (hd : d < N) : InvX e (hearY X i h d (payI due (X (169 + 9 * d + 4)))) N K B := by
  have hN := hI.1.2.1
  have hK := hI.1.2.2.2.1
  have hB := hI.2.2.2.2.2
  obtain ⟨pu, g1, g2⟩ := hI.2.2.2.2.1
  obtain ⟨p, hp, hpe⟩ := payI_p (due := due) (u := pu d) (by have := le_sumN (f := pu) hd; omega)
  rw [g1 d hd, hpe]
  have ho : ∀ j, j < 169 → hearY X i h d (nI p) j = X j := fun j hj => hearY_o (by omega) (by omega) (fun q hq => by omega)
  refine InvX_st hE hI ?_ (ho 5 (by omega)) ((ho 6 (by omega)).trans hI.1.2.2.1) hK (fun k hk t ht => hearY_o (by omega) (by omega) (fun q hq => by omega)) (fun k hk => ?_) ?_ (fun q hq => ?_) (OwC_rf e N (fun a ha => ho _ (by omega)))
  · rw [ho 0 (by omega), ho 1 (by omega)]; exact hI.s01
  · rw [hearY_o (by omega) (by omega) (fun q hq => by omega)]; exact hI.j5 hk
  · refine ⟨fun j => (if j = d then pu j - p else pu j) + (if j = h then p else 0), fun j hj => ?_, ?_⟩
    · rw [hearY_p (by omega) (by omega) (by omega), g1 j hj]
      by_cases e1 : j = d
      · subst e1
        rw [if_pos rfl, pk_sub hp]
        by_cases e2 : j = h
        · rw [if_pos e2, nI_add]; exact congrArg nI (by show _ = (if j = j then pu j - p else pu j) + (if j = h then p else 0); rw [if_pos rfl, if_pos e2])
        · rw [if_neg e2, nI_add]; exact congrArg nI (by show _ = (if j = j then pu j - p else pu j) + (if j = h then p else 0); rw [if_pos rfl, if_neg e2])
      · rw [if_neg e1]
        by_cases e2 : j = h
        · rw [if_pos e2, nI_add]; exact congrArg nI (by show _ = (if j = d then pu j - p else pu j) + (if j = h then p else 0); rw [if_neg e1, if_pos e2])
        · rw [if_neg e2, nI_add]; exact congrArg nI (by show _ = (if j = d then pu j - p else pu j) + (if j = h then p else 0); rw [if_neg e1, if_neg e2])
    · rw [sumN_add]
      have e1 := sumN_upd (f := fun j => if j = d then pu j - p else pu j) (g := pu) (k := d) (w := p) hd (by rw [if_pos rfl]; omega) (fun j _ hj => (if_neg hj).symm)
      have e2 := sumN_upd (f := fun _ => 0) (g := fun j => if j = h then p else 0) (k := h) (w := p) hh (by rw [if_pos rfl]; omega) (fun j _ hj => if_neg hj)
      have e3 := sumN_0 (f := fun _ => 0) (n := N) (fun _ _ => rfl)
      omega
  · rw [hearY_o (by omega) (by omega) (fun q hq => by omega), hearY_o (by omega) (by omega) (fun q hq => by omega)]; exact hI.1.2.2.2.2.2.2.2 q hq
theorem Inv_hear {bt : (Nat → Int32) → Nat → Nat → Bool} {e : Enc} {X X' : Nat → Int32} {N K B : Nat} {r : Int32} (hE : EncG e) (hI : InvX e X N K B) (hq : hearQ bt e X N K r X') : InvX e X' N K B := by
  rcases hq with ⟨-, -, rfl⟩ | ⟨i, h, d, -, hi, -, -, hh, hd, hr, hq⟩
  · exact hI
  · subst hr
    have h1 := Inv_hearY (due := dueI X i) hE hI hi hh hd
    rcases hq with ⟨-, rfl⟩ | ⟨-, ⟨-, rfl⟩ | ⟨hc, rfl⟩⟩
    · exact Inv_act hE h1 _
    · exact Inv_act hE (Inv_lose hE h1 hd) _
    · exact Inv_act hE (Inv_back hE (Inv_lose hE h1 hd) hh hc) _
