/-! acts on both sides -/
def PairR (X S : Nat → Int32) (N K B : Nat) : Prop := InvC X N K B ∧ InvX eM S N K B ∧ Zn S N ∧ Rel X S N K
/-- what an act leaves: the relation, the number of claims, the model's unused places -/
def OutR (X' S' : Nat → Int32) (N : Nat) : Prop := ∃ K', Rel X' S' N K' ∧ X' 6 = nI K' ∧ K' ≤ 12 ∧ Zn S' N
theorem OutR_rf {X S : Nat → Int32} {N K B : Nat} (h : PairR X S N K B) : OutR X S N := ⟨K, h.2.2.2, h.1.1.1.2.2.1, h.1.1.1.2.2.2.1, h.2.2.1⟩
theorem OutR_p {X' S' : Nat → Int32} {N K1 K2 B : Nat} (h : OutR X' S' N) (h1 : InvC X' N K1 B) (h2 : InvX eM S' N K2 B) : PairR X' S' N K1 B := by
  obtain ⟨K', hR, h6, hK, hz⟩ := h
  have e1 : K1 = K' := (nI_eq (by have := h1.1.1.2.2.2.1; omega) (by omega)).mp (h1.1.1.2.2.1.symm.trans h6)
  have e2 : K2 = K' := (nI_eq (by have := h2.1.2.2.2.1; omega) (by omega)).mp ((h2.1.2.2.1.symm.trans (hR.1 6 (by omega))).trans h6)
  subst e1
  subst e2
  exact ⟨h1, h2, hz, hR⟩
theorem Zn_cg {S T : Nat → Int32} {N : Nat} (hz : Zn S N) (h : ∀ j, 169 + 9 * N ≤ j → j < 223 → T j = S j) : Zn T N := fun k h1 h2 t h3 h4 => (h _ (by omega) (by omega)).trans (hz k h1 h2 t h3 h4)
section ACTS
variable {X S X' S' : Nat → Int32} {N K B : Nat} {r r' : Int32}
theorem PR_pass {a : Int32} (h : PairR X S N K B) (q1 : passQ X a r X') (q2 : passQ S a r' S') : r = r' ∧ OutR X' S' N := by
  have hN := h.1.1.1.2.1
  have hK := h.1.1.1.2.2.2.1
  have e4 := h.2.2.2.1 4 (by omega)
  rcases q1 with ⟨a1, rfl, rfl⟩ | ⟨a1, a2, a3⟩ <;> rcases q2 with ⟨b1, rfl, rfl⟩ | ⟨b1, b2, b3⟩
  · exact ⟨rfl, OutR_rf h⟩
  · exact absurd ⟨b1, b2⟩ a1
  · exact absurd ⟨a1, a2⟩ b1
  · rw [e4] at b3
    rcases a3 with ⟨a3, rfl, rfl⟩ | ⟨a3, rfl, rfl⟩ <;> rcases b3 with ⟨b3, rfl, rfl⟩ | ⟨b3, rfl, rfl⟩
    · exact ⟨rfl, OutR_rf h⟩
    · exact absurd a3 (Int32.not_lt.mpr b3)
    · exact absurd b3 (Int32.not_lt.mpr a3)
    · exact ⟨rfl, K, Rel_upd h.2.2.2 hN hK (Or.inl (by omega)), (pk_un (by decide)).trans h.1.1.1.2.2.1, hK, Zn_cg h.2.2.1 (fun j h1 h2 => pk_un (by omega))⟩
theorem PR_rip {n : Int32} (h : PairR X S N K B) (q1 : ripQ eC X N n r X') (q2 : ripQ eM S N n r' S') : r = r' ∧ OutR X' S' N := by
  have hN := h.1.1.1.2.1
  have hK := h.1.1.1.2.2.2.1
  have hI := h.1.1
  have hR := h.2.2.2
  rcases q1 with ⟨a1, rfl, rfl⟩ | ⟨k, hk, rfl, a3⟩ <;> rcases q2 with ⟨b1, rfl, rfl⟩ | ⟨k2, hk2, e2, b3⟩
  · exact ⟨rfl, OutR_rf h⟩
  · exact absurd ⟨k2, hk2, e2⟩ a1
  · exact absurd ⟨k, hk, rfl⟩ b1
  · obtain rfl := (nI_eq (by omega) (by omega)).mp e2
    rw [hR.2.2.1 k hk 5 (by omega)] at b3
    rcases a3 with ⟨a3, rfl, rfl⟩ | ⟨a3, rfl, rfl⟩ <;> rcases b3 with ⟨b3, rfl, rfl⟩ | ⟨b3, rfl, rfl⟩
    · exact ⟨rfl, OutR_rf h⟩
    · exact absurd a3 b3
    · exact absurd b3 a3
    · refine ⟨congrArg nI (r_wir hI hR (by omega)).symm, K, ?_, ?_, hK, ?_⟩
      · rw [loseE_4, loseE_4, hR.1 4 (by omega)]
        exact Rel_upd (Rel_lose hI hR hk) hN hK (Or.inl (by omega))
      · rw [pk_un (by decide), loseE_n (by omega) (by omega)]; exact hI.1.2.2.1
      · exact Zn_cg h.2.2.1 (fun j h1 h2 => by rw [pk_un (by omega), loseE_n (by omega) (by omega)])
theorem PR_appl {n : Int32} (h : PairR X S N K B) (q1 : applQ X K n r X') (q2 : applQ S K n r' S') : r = r' ∧ OutR X' S' N := by
  have hN := h.1.1.1.2.1
  have hK := h.1.1.1.2.2.2.1
  have hR := h.2.2.2
  rcases q1 with ⟨a1, rfl, rfl⟩ | ⟨i, hi, rfl, a3⟩ <;> rcases q2 with ⟨b1, rfl, rfl⟩ | ⟨i2, hi2, e2, b3⟩
  · exact ⟨rfl, OutR_rf h⟩
  · exact absurd ⟨i2, hi2, e2⟩ a1
  · exact absurd ⟨i, hi, rfl⟩ b1
  · obtain rfl := (nI_eq (by omega) (by omega)).mp e2
    rw [hR.2.2.2.1 i hi 5 (by omega), hR.2.2.2.1 i hi 6 (by omega), hR.1 4 (by omega), hR.1 3 (by omega)] at b3
    rcases a3 with ⟨a3, rfl, rfl⟩ | ⟨a3, a4, rfl, rfl⟩ <;> rcases b3 with ⟨b3, rfl, rfl⟩ | ⟨b3, b4, rfl, rfl⟩
    · exact ⟨rfl, OutR_rf h⟩
    · exact absurd ⟨b3, b4⟩ a3
    · exact absurd ⟨a3, a4⟩ b3
    · have hR2 : Rel (upd (upd X (223 + 13 * i + 5) (nI 1)) 4 (X 4 + nI 1)) (upd (upd S (223 + 13 * i + 5) (nI 1)) 4 (X 4 + nI 1)) N K := Rel_upd (Rel_upd hR hN hK (Or.inr (Or.inr ⟨i, 5, by omega, by omega, rfl⟩))) hN hK (Or.inl (by omega))
      refine ⟨congrArg nI (r_appl hR2).symm, K, hR2, ?_, hK, ?_⟩
      · rw [pk_un (by decide), pk_un (by omega)]; exact h.1.1.1.2.2.1
      · exact Zn_cg h.2.2.1 (fun j h1 h2 => by rw [pk_un (by omega), pk_un (by omega)])
theorem PR_lay {n : Int32} (h : PairR X S N K B) (q1 : layQ eC X N n r X') (q2 : layQ eM S N n r' S') : r = r' ∧ OutR X' S' N := by
  have hN := h.1.1.1.2.1
  have hK := h.1.1.1.2.2.2.1
  have hI := h.1.1
  have hR := h.2.2.2
  rcases q1 with ⟨a1, rfl, rfl⟩ | ⟨k, hk, rfl, a3⟩ <;> rcases q2 with ⟨b1, rfl, rfl⟩ | ⟨k2, hk2, e2, b3⟩
  · exact ⟨rfl, OutR_rf h⟩
  · exact absurd ⟨k2, hk2, e2⟩ a1
  · exact absurd ⟨k, hk, rfl⟩ b1
  · obtain rfl := (nI_eq (by omega) (by omega)).mp e2
    rw [hR.2.2.1 k hk 5 (by omega), r_rt hI hR hk, hR.1 4 (by omega)] at b3
    rcases a3 with ⟨a3, rfl, rfl⟩ | ⟨a3, z, l1, l2, a4, rfl, rfl⟩ <;> rcases b3 with ⟨b3, rfl, rfl⟩ | ⟨b3, z', m1, m2, b4, rfl, rfl⟩
    · exact ⟨rfl, OutR_rf h⟩
    · rcases a3 with a3 | a3
      · exact absurd b3 a3
      · rw [a3] at b4; cases b4
    · rcases b3 with b3 | b3
      · exact absurd a3 b3
      · rw [b3] at a4; cases a4
    · rw [a4] at b4
      cases b4
      refine ⟨rfl, K, Rel_upd (Rel_take hI hR hk _) hN hK (Or.inl (by omega)), ?_, hK, ?_⟩
      · rw [pk_un (by decide), takeE_n (by omega) (by omega)]; exact hI.1.2.2.1
      · exact Zn_cg h.2.2.1 (fun j h1 h2 => by rw [pk_un (by omega), takeE_n (by omega) (by omega)])
theorem dgRM_z {L : List Nat} {n v0 : Nat} {j : Nat} (hn : n < N) (hj : 169 + 9 * N ≤ j) (hj2 : j < 223) : ∀ v, v ≤ N → dgRM S L N n v0 v j = S j
  | 0, _ => pk_un (by omega)
  | v + 1, hv => by
    have ih := dgRM_z (L := L) (v0 := v0) hn hj hj2 v (by omega)
    show (if vicE eM S L v = true then dgSM (v0 + cnt (vicE eM S L) v) n v (nI (dueE eM S L v)) (dgRM S L N n v0 v) else dgRM S L N n v0 v) j = S j
    split
    · unfold dgSM
      rw [loseE_n (by omega) (by omega), pk_un (by omega), clM_lo (by omega), rcv_o (by omega) (by omega), spd_o (by omega) (by omega)]
      exact ih
    · exact ih
theorem PR_dig {n : Int32} (h : PairR X S N K B) (q1 : digQ finC eC X N K n r X') (q2 : digQ finM eM S N K n r' S') : r = r' ∧ OutR X' S' N := by
  have hN := h.1.1.1.2.1
  have hK := h.1.1.1.2.2.2.1
  have hI := h.1.1
  have hR := h.2.2.2
  rcases q1 with ⟨a1, rfl, rfl⟩ | ⟨k, hk, rfl, a3⟩ <;> rcases q2 with ⟨b1, rfl, rfl⟩ | ⟨k2, hk2, e2, b3⟩
  · exact ⟨rfl, OutR_rf h⟩
  · exact absurd ⟨k2, hk2, e2⟩ a1
  · exact absurd ⟨k, hk, rfl⟩ b1
  · obtain rfl := (nI_eq (by omega) (by omega)).mp e2
    rw [hR.2.2.1 k hk 5 (by omega), r_rt hI hR hk, hR.2.2.1 k hk 4 (by omega)] at b3
    rcases a3 with ⟨a3, rfl, rfl⟩ | ⟨a3, z, l1, l2, a4, a5⟩ <;> rcases b3 with ⟨b3, rfl, rfl⟩ | ⟨b3, z', m1, m2, b4, b5⟩
    · exact ⟨rfl, OutR_rf h⟩
    · rcases a3 with a3 | a3
      · exact absurd b3 a3
      · rw [a3] at b4; cases b4
    · rcases b3 with b3 | b3
      · exact absurd a3 b3
      · rw [b3] at a4; cases a4
    · rw [a4] at b4
      cases b4
      have hL : ∀ a, a ∈ l1 ++ l2 → a < 162 := fun a ha => ((rtX_ok hI.1 hk a4).2.2.2.2 a ha).1
      have hcv := r_cntv hI hR hL (Nat.le_refl N)
      rw [r_pri hI hR, hcv] at b5
      rcases a5 with ⟨a5, rfl, rfl⟩ | ⟨a5, a6⟩ <;> rcases b5 with ⟨b5, rfl, rfl⟩ | ⟨b5, b6⟩
      · exact ⟨rfl, OutR_rf h⟩
      · exact absurd a5 b5
      · exact absurd b5 a5
      · rcases a6 with ⟨a6, rfl, rfl⟩ | ⟨a6, rfl, rfl⟩ <;> rcases b6 with ⟨b6, rfl, rfl⟩ | ⟨b6, rfl, rfl⟩
        · exact ⟨rfl, OutR_rf h⟩
        · omega
        · omega
        · obtain ⟨f1, f2⟩ := finC_F hN hk hI.1.2.2.1 a6 h.1.2
          have g1 := finM_F (X := S) (L := l1 ++ l2) hN hk h.2.1.1.2.2.1
          refine ⟨rfl, K + cnt (vicE eC X (l1 ++ l2)) N, Rel_dig hI hR hk hL a5 a6 f1 g1, (Inv_dgF eC_g hI hk a5 a6 f1).1.2.2.1, a6, Zn_cg h.2.2.1 (fun j h1 h2 => ?_)⟩
          unfold finM
          rw [takeE_n (by omega) (by omega)]
          exact dgRM_z hk h1 h2 N (Nat.le_refl N)
theorem Rel_spend {d : Nat} {p : Int32} (hR : Rel X S N K) (hN : N ≤ 6) (hK : K ≤ 12) (hd : d < N) : Rel (spendX X d p) (spendX S d p) N K := by
  unfold spendX
  rw [hR.2.2.1 d hd 4 (by omega), hR.2.2.1 d hd 7 (by omega)]
  exact Rel_upd (Rel_upd hR hN hK (Or.inr (Or.inl (by omega)))) hN hK (Or.inr (Or.inl (by omega)))
theorem Rel_recv {d : Nat} {p : Int32} (hR : Rel X S N K) (hN : N ≤ 6) (hK : K ≤ 12) (hd : d < N) : Rel (recvX X d p) (recvX S d p) N K := by
  unfold recvX
  rw [hR.2.2.1 d hd 4 (by omega), hR.2.2.1 d hd 8 (by omega)]
  exact Rel_upd (Rel_upd hR hN hK (Or.inr (Or.inl (by omega)))) hN hK (Or.inr (Or.inl (by omega)))
theorem Rel_hearY {i h0 d : Nat} {p : Int32} (hR : Rel X S N K) (hN : N ≤ 6) (hK : K ≤ 12) (hi : i < K) (hh : h0 < N) (hd : d < N) : Rel (hearY X i h0 d p) (hearY S i h0 d p) N K := by
  unfold hearY
  rw [hR.2.2.2.1 i hi 4 (by omega)]
  exact Rel_upd (Rel_upd (Rel_recv (Rel_spend hR hN hK hd) hN hK hh) hN hK (Or.inr (Or.inr ⟨i, 4, by omega, by omega, rfl⟩))) hN hK (Or.inr (Or.inr ⟨i, 5, by omega, by omega, rfl⟩))
theorem hearY_z {i h0 d j : Nat} {p : Int32} (hN : N ≤ 6) (hh : h0 < N) (hd : d < N) (h1 : 169 + 9 * N ≤ j) (h2 : j < 223) : hearY S i h0 d p j = S j := hearY_o (by omega) (by omega) (fun q hq => by omega)
theorem PR_hear (h : PairR X S N K B) (q1 : hearQ bC eC X N K r X') (q2 : hearQ bM eM S N K r' S') : r = r' ∧ OutR X' S' N := by
  have hN := h.1.1.1.2.1
  have hK := h.1.1.1.2.2.2.1
  have hI := h.1.1
  have hR := h.2.2.2
  unfold hearQ at q2
  rw [r_hd1 hR] at q2
  rcases q1 with ⟨a1, rfl, rfl⟩ | ⟨i, h0, d, a1, hi, a2, a3, hh, hd, rfl, a4⟩ <;> rcases q2 with ⟨b1, rfl, rfl⟩ | ⟨i2, h2, d2, b1, hi2, b2, b3, hh2, hd2, rfl, b4⟩
  · exact ⟨rfl, OutR_rf h⟩
  · rw [a1] at b1; cases b1
  · rw [a1] at b1; cases b1
  · rw [a1] at b1
    cases b1
    have c0 := hR.2.2.2.1 i hi 0 (by omega)
    rw [Nat.add_zero] at c0
    obtain rfl := (nI_eq (by omega) (by omega)).mp ((b2.symm.trans c0).trans a2)
    obtain rfl := (nI_eq (by omega) (by omega)).mp ((b3.symm.trans (hR.2.2.2.1 i hi 1 (by omega))).trans a3)
    have hdu : dueI S i = dueI X i := by
      unfold dueI
      rw [r_loss hR hi, hR.2.2.2.1 i hi 4 (by omega)]
    rw [hdu, hR.2.2.1 d2 hd 4 (by omega), hR.1 4 (by omega)] at b4
    rw [hdu, hR.2.2.1 d2 hd 4 (by omega)]
    refine ⟨rfl, ?_⟩
    generalize hpp : payI (dueI X i) (X (169 + 9 * d2 + 4)) = p at a4 b4
    have hRY := Rel_hearY (p := p) hR hN hK hi hh hd
    have hIY := Inv_hearY (due := dueI X i) eC_g hI hi hh hd
    rw [hpp] at hIY
    have h6 : hearY X i h2 d2 p 6 = nI K := (hearY_o (by omega) (by omega) (fun q hq => by omega)).trans hI.1.2.2.1
    rcases a4 with ⟨a4, rfl⟩ | ⟨a4, a5⟩ <;> rcases b4 with ⟨b4, rfl⟩ | ⟨b4, b5⟩
    · refine ⟨K, Rel_upd hRY hN hK (Or.inl (by omega)), (pk_un (by decide)).trans h6, hK, Zn_cg h.2.2.1 (fun j h1 h2 => ?_)⟩
      rw [pk_un (by omega), hearY_z hN hh hd h1 h2]
    · exact absurd b4 a4
    · exact absurd a4 b4
    · have hRL := Rel_lose hIY hRY hd
      have hIL := Inv_lose eC_g hIY hd
      have hcan := canB_R hIL hRL hh hi
      rcases a5 with ⟨a5, rfl⟩ | ⟨a5, rfl⟩ <;> rcases b5 with ⟨b5, rfl⟩ | ⟨b5, rfl⟩
      · refine ⟨K, Rel_upd hRL hN hK (Or.inl (by omega)), ?_, hK, Zn_cg h.2.2.1 (fun j h1 h2 => ?_)⟩
        · rw [pk_un (by decide), loseE_n (by omega) (by omega)]; exact h6
        · rw [pk_un (by omega), loseE_n (by omega) (by omega), hearY_z hN hh hd h1 h2]
      · exact absurd (hcan.mp b5) a5
      · exact absurd (hcan.mpr a5) b5
      · refine ⟨K, Rel_upd (Rel_back hIL hRL hh hi) hN hK (Or.inl (by omega)), ?_, hK, Zn_cg h.2.2.1 (fun j h1 h2 => ?_)⟩
        · rw [pk_un (by decide), backG_n (by omega) (by omega), loseE_n (by omega) (by omega)]; exact h6
        · rw [pk_un (by omega), backG_n (by omega) (by omega), loseE_n (by omega) (by omega), hearY_z hN hh hd h1 h2]
theorem PR_set {w v : Int32} (h : PairR X S N K B) (q1 : setQ X w v r X') (q2 : setQ S w v r' S') : r = r' ∧ OutR X' S' N := by
  have hN := h.1.1.1.2.1
  have hK := h.1.1.1.2.2.2.1
  have hR := h.2.2.2
  rcases q1 with ⟨a1, rfl, rfl⟩ | ⟨j, hj, rfl, a2, a3, rfl, rfl⟩ <;> rcases q2 with ⟨b1, rfl, rfl⟩ | ⟨j2, hj2, e2, b2, b3, rfl, rfl⟩
  · exact ⟨rfl, OutR_rf h⟩
  · exact absurd ⟨j2, hj2, e2, b2, b3⟩ a1
  · exact absurd ⟨j, hj, rfl, a2, a3⟩ b1
  · obtain rfl := (nI_eq (by omega) (by omega)).mp e2
    exact ⟨(hR.1 j (by omega)).symm, K, Rel_upd hR hN hK (Or.inl (by omega)), (pk_un (by omega)).trans h.1.1.1.2.2.1, hK, Zn_cg h.2.2.1 (fun q h1 h2 => pk_un (by omega))⟩
theorem PR_give {n a : Int32} (h : PairR X S N K B) (q1 : giveQ X N n a r X') (q2 : giveQ S N n a r' S') : r = r' ∧ OutR X' S' N := by
  have hN := h.1.1.1.2.1
  have hK := h.1.1.1.2.2.2.1
  have hR := h.2.2.2
  rcases q1 with ⟨a1, rfl, rfl⟩ | ⟨k, hk, rfl, a2, a3, a4⟩ <;> rcases q2 with ⟨b1, rfl, rfl⟩ | ⟨k2, hk2, e2, b2, b3, b4⟩
  · exact ⟨rfl, OutR_rf h⟩
  · exact absurd ⟨⟨k2, hk2, e2⟩, b2, b3⟩ a1
  · exact absurd ⟨⟨k, hk, rfl⟩, a2, a3⟩ b1
  · obtain rfl := (nI_eq (by omega) (by omega)).mp e2
    rw [hR.2.2.1 k hk 4 (by omega)] at b4
    rcases a4 with ⟨a4, rfl, rfl⟩ | ⟨a4, rfl, rfl⟩ <;> rcases b4 with ⟨b4, rfl, rfl⟩ | ⟨b4, rfl, rfl⟩
    · exact ⟨rfl, OutR_rf h⟩
    · exact absurd a4 (Int32.not_lt.mpr b4)
    · exact absurd b4 (Int32.not_lt.mpr a4)
    · exact ⟨rfl, K, Rel_upd hR hN hK (Or.inr (Or.inl (by omega))), (pk_un (by omega)).trans h.1.1.1.2.2.1, hK, Zn_cg h.2.2.1 (fun q h1 h2 => pk_un (by omega))⟩
/-- owners anew, place by place -/
theorem Rel_own {j : Nat} {v w : Int32} (hR : Rel X S N K) (hj : j < 162) (hv : w = mapO v) : Rel (upd X (7 + j) v) (upd S (7 + j) w) N K := by
  refine ⟨fun q hq => by rw [pk_un (by omega), pk_un (by omega)]; exact hR.1 q hq, fun a ha => ?_, fun k hk t ht => by rw [pk_un (by omega), pk_un (by omega)]; exact hR.2.2.1 k hk t ht, fun i hi t ht => by rw [pk_un (by omega), pk_un (by omega)]; exact hR.2.2.2.1 i hi t ht, fun i hi a ha => ?_⟩
  · by_cases e : a = j
    · subst e; rw [pk_us, pk_us]; exact hv
    · rw [pk_un (by omega), pk_un (by omega)]; exact hR.2.1 a ha
  · rw [bM_cg (pk_un (by omega)), bC_cg (pk_un (by omega))]; exact hR.2.2.2.2 i hi a ha
theorem PR_blk {p t : Int32} (h : PairR X S N K B) (q1 : blkQ eC X p t r X') (q2 : blkQ eM S p t r' S') : (r = r' ∧ OutR X' S' N) ∧ InvX eC X' N K B ∧ ZbX X' K ∧ InvX eM S' N K B := by
  have hN := h.1.1.1.2.1
  have hK := h.1.1.1.2.2.2.1
  have hI := h.1.1
  have hR := h.2.2.2
  rcases q1 with ⟨a1, rfl, rfl⟩ | ⟨j, b, hj, hb, rfl, rfl, a3⟩ <;> rcases q2 with ⟨b1, rfl, rfl⟩ | ⟨j2, b2, hj2, hb2, e2, e3, b3⟩
  · exact ⟨⟨rfl, OutR_rf h⟩, h.1.1, h.1.2, h.2.1⟩
  · exact absurd ⟨⟨j2, hj2, e2⟩, ⟨b2, hb2, e3⟩⟩ a1
  · exact absurd ⟨⟨j, hj, rfl⟩, ⟨b, hb, rfl⟩⟩ b1
  · obtain rfl := (nI_eq (by omega) (by omega)).mp e2
    obtain rfl := (nI_eq (by omega) (by omega)).mp e3
    have hc : ∀ a, a < 162 → (S (7 + a) = (if b = 1 then eM.1 else nI 20) ↔ X (7 + a) = (if b = 1 then eC.1 else nI 20)) := fun a ha => by
      by_cases e : b = 1
      · rw [if_pos e, if_pos e]; exact o_f hI hR ha
      · rw [if_neg e, if_neg e]; exact o_20 hI hR ha
    have hm : (if b = 1 then nI 20 else eM.1) = mapO (if b = 1 then nI 20 else eC.1) := by
      by_cases e : b = 1
      · rw [if_pos e, if_pos e, mapO_20]
      · rw [if_neg e, if_neg e, mapO_f]
    rw [hc j (by omega), hc (j + 81) (by omega)] at b3
    rcases a3 with ⟨a3, rfl, rfl⟩ | ⟨a3, a4, rfl, rfl⟩ <;> rcases b3 with ⟨b3, rfl, rfl⟩ | ⟨b3, b4, rfl, rfl⟩
    · exact ⟨⟨rfl, OutR_rf h⟩, h.1.1, h.1.2, h.2.1⟩
    · exact absurd ⟨b3, b4⟩ a3
    · exact absurd ⟨a3, a4⟩ b3
    · have hR2 := Rel_own (Rel_own hR (j := j) (by omega) hm) (j := j + 81) (by omega) hm
      have hI2 := Inv_blk eC_g hI hj a3 a4
      have hIM := Inv_blk eM_g h.2.1 hj ((hc j (by omega)).mpr a3) ((hc (j + 81) (by omega)).mpr a4)
      refine ⟨⟨congrArg (fun z => nI (z / 2)) (r_wir20 hI2 hR2).symm, K, hR2, hI2.1.2.2.1, hK, Zn_cg h.2.2.1 (fun q h1 h2 => by rw [pk_un (by omega), pk_un (by omega)])⟩, hI2, ZbX_cg (fun a ha => by rw [pk_un (by omega), pk_un (by omega)]) h.1.2, hIM⟩
end ACTS
