/-! one call on both sides: the answers are one, the world goes on -/
section STEP
variable {M M1 M2 : Nat → Nat → Int32} {P P1 P2 : Nat → Nat} {B N K s at_ ln : Nat} {tx : Nat → Nat} {r r' : Int32}
theorem S_set {w v : Int32} (h : WI M P B N K s at_ tx ln) (hB : B + 9999 < 2 ^ 30) (c : FrK P M M1 ∧ M1 147 = M 147 ∧ KpQ s M P r M1 P1 ∧ ∃ Y, LvX (M (P 0)) Y N K ∧ setQ Y w v r (M1 (P 1))) (m : P1 = P2 ∧ FrM M1 M2 ∧ KpM s at_ (M1 159) M1 r' M2 ∧ setQ (M1 159) w v r' (M2 159)) : r = r' ∧ Wst M2 P2 (B + 9999) := by
  obtain ⟨rfl, m1, m2, m3⟩ := m
  obtain ⟨k1, k2, k3, Y, hl, q⟩ := c
  have hp1 := h.1.1 1 (by decide)
  have e159 : M1 159 = M 159 := k1 159 (by omega) (by omega) (by omega) (by omega)
  rw [e159] at m3
  obtain ⟨hp, hx⟩ := h.2.2.1
  have hI := hp.2.1
  have hp2 := PairR_lv hp hl
  obtain ⟨he, N', K', hp3⟩ := P_set hp2 q m3
  exact W_rec h (by omega) hB k1 (by rw [k2]) k3 m1 m2 he (fun hr j hj => by rw [e159, e_set hI hx m3 (he ▸ hr)]) (fun _ => ⟨N', K', hp3.mono (by omega) (by omega), (E_set hx m3).mono (by omega)⟩)

theorem S_block {p t : Int32} (h : WI M P B N K s at_ tx ln) (hB : B + 9999 < 2 ^ 30) (c : FrK P M M1 ∧ M1 147 = M 147 ∧ KpQ s M P r M1 P1 ∧ ∃ Y, LvX (M (P 0)) Y N K ∧ blkQ eC Y p t r (M1 (P 1))) (m : P1 = P2 ∧ FrM M1 M2 ∧ KpM s at_ (M1 159) M1 r' M2 ∧ blkQ eM (M1 159) p t r' (M2 159)) : r = r' ∧ Wst M2 P2 (B + 9999) := by
  obtain ⟨rfl, m1, m2, m3⟩ := m
  obtain ⟨k1, k2, k3, Y, hl, q⟩ := c
  have hp1 := h.1.1 1 (by decide)
  have e159 : M1 159 = M 159 := k1 159 (by omega) (by omega) (by omega) (by omega)
  rw [e159] at m3
  obtain ⟨hp, hx⟩ := h.2.2.1
  have hI := hp.2.1
  have hp2 := PairR_lv hp hl
  obtain ⟨he, N', K', hp3⟩ := P_blk hp2 q m3
  exact W_rec h (by omega) hB k1 (by rw [k2]) k3 m1 m2 he (fun hr j hj => by rw [e159, e_blk m3 (he ▸ hr)]) (fun _ => ⟨N', K', hp3.mono (by omega) (by omega), (E_blk hx m3).mono (by omega)⟩)

theorem S_net {p0 p1 p2 t u : Int32} (h : WI M P B N K s at_ tx ln) (hB : B + 9999 < 2 ^ 30) (c : FrK P M M1 ∧ M1 147 = M 147 ∧ KpQ s M P r M1 P1 ∧ ∃ Y, LvX (M (P 0)) Y N K ∧ netQ eC Y N p0 p1 p2 t u r (M1 (P 1))) (m : P1 = P2 ∧ FrM M1 M2 ∧ KpM s at_ (M1 159) M1 r' M2 ∧ netQ eM (M1 159) N p0 p1 p2 t u r' (M2 159)) : r = r' ∧ Wst M2 P2 (B + 9999) := by
  obtain ⟨rfl, m1, m2, m3⟩ := m
  obtain ⟨k1, k2, k3, Y, hl, q⟩ := c
  have hp1 := h.1.1 1 (by decide)
  have e159 : M1 159 = M 159 := k1 159 (by omega) (by omega) (by omega) (by omega)
  rw [e159] at m3
  obtain ⟨hp, hx⟩ := h.2.2.1
  have hI := hp.2.1
  have hp2 := PairR_lv hp hl
  obtain ⟨he, N', K', hp3⟩ := P_net hp2 (by omega) q m3
  exact W_rec h (by omega) hB k1 (by rw [k2]) k3 m1 m2 he (fun hr j hj => by rw [e159, e_net m3 (he ▸ hr)]) (fun _ => ⟨N', K', hp3, (Ex_net hx m3).mono (by omega)⟩)

theorem S_give {n a : Int32} (h : WI M P B N K s at_ tx ln) (hB : B + 9999 < 2 ^ 30) (c : FrK P M M1 ∧ M1 147 = M 147 ∧ KpQ s M P r M1 P1 ∧ ∃ Y, LvX (M (P 0)) Y N K ∧ giveQ Y N n a r (M1 (P 1))) (m : P1 = P2 ∧ FrM M1 M2 ∧ KpM s at_ (M1 159) M1 r' M2 ∧ giveQ (M1 159) N n a r' (M2 159)) : r = r' ∧ Wst M2 P2 (B + 9999) := by
  obtain ⟨rfl, m1, m2, m3⟩ := m
  obtain ⟨k1, k2, k3, Y, hl, q⟩ := c
  have hp1 := h.1.1 1 (by decide)
  have e159 : M1 159 = M 159 := k1 159 (by omega) (by omega) (by omega) (by omega)
  rw [e159] at m3
  obtain ⟨hp, hx⟩ := h.2.2.1
  have hI := hp.2.1
  have hp2 := PairR_lv hp hl
  obtain ⟨he, N', K', hp3⟩ := P_give hp2 (by omega) q m3
  exact W_rec h (by omega) hB k1 (by rw [k2]) k3 m1 m2 he (fun hr j hj => by rw [e159, e_give hI (by omega) m3 (he ▸ hr)]) (fun _ => ⟨N', K', hp3, (E_give hI.1.2.1 hx m3).mono (by omega)⟩)

theorem S_lay {n : Int32} (h : WI M P B N K s at_ tx ln) (hB : B + 9999 < 2 ^ 30) (c : FrK P M M1 ∧ M1 147 = M 147 ∧ KpQ s M P r M1 P1 ∧ ∃ Y, LvX (M (P 0)) Y N K ∧ layQ eC Y N n r (M1 (P 1))) (m : P1 = P2 ∧ FrM M1 M2 ∧ KpM s at_ (M1 159) M1 r' M2 ∧ layQ eM (M1 159) N n r' (M2 159)) : r = r' ∧ Wst M2 P2 (B + 9999) := by
  obtain ⟨rfl, m1, m2, m3⟩ := m
  obtain ⟨k1, k2, k3, Y, hl, q⟩ := c
  have hp1 := h.1.1 1 (by decide)
  have e159 : M1 159 = M 159 := k1 159 (by omega) (by omega) (by omega) (by omega)
  rw [e159] at m3
  obtain ⟨hp, hx⟩ := h.2.2.1
  have hI := hp.2.1
  have hp2 := PairR_lv hp hl
  obtain ⟨he, hp3⟩ := P_lay hp2 q m3
  exact W_rec h (by omega) hB k1 (by rw [k2]) k3 m1 m2 he (fun hr j hj => by rw [e159, e_lay m3 (he ▸ hr)]) (fun _ => ⟨N, K, hp3.mono (by omega) (by omega), (E_lay hI.1.2.1 hx m3).mono (by omega)⟩)

theorem S_dig {n : Int32} (h : WI M P B N K s at_ tx ln) (hB : B + 9999 < 2 ^ 30) (c : FrK P M M1 ∧ M1 147 = M 147 ∧ KpQ s M P r M1 P1 ∧ ∃ Y, LvX (M (P 0)) Y N K ∧ digQ finC eC Y N K n r (M1 (P 1))) (m : P1 = P2 ∧ FrM M1 M2 ∧ KpM s at_ (M1 159) M1 r' M2 ∧ digQ finM eM (M1 159) N K n r' (M2 159)) : r = r' ∧ Wst M2 P2 (B + 9999) := by
  obtain ⟨rfl, m1, m2, m3⟩ := m
  obtain ⟨k1, k2, k3, Y, hl, q⟩ := c
  have hp1 := h.1.1 1 (by decide)
  have e159 : M1 159 = M 159 := k1 159 (by omega) (by omega) (by omega) (by omega)
  rw [e159] at m3
  obtain ⟨hp, hx⟩ := h.2.2.1
  have hI := hp.2.1
  have hp2 := PairR_lv hp hl
  obtain ⟨he, N', K', hp3⟩ := P_dig hp2 q m3
  exact W_rec h (by omega) hB k1 (by rw [k2]) k3 m1 m2 he (fun hr j hj => by rw [e159, e_dig hI m3 (he ▸ hr)]) (fun _ => ⟨N', K', hp3.mono (by omega) (by omega), (E_dig hI hx m3).mono (by omega)⟩)

theorem S_rip {n : Int32} (h : WI M P B N K s at_ tx ln) (hB : B + 9999 < 2 ^ 30) (c : FrK P M M1 ∧ M1 147 = M 147 ∧ KpQ s M P r M1 P1 ∧ ∃ Y, LvX (M (P 0)) Y N K ∧ ripQ eC Y N n r (M1 (P 1))) (m : P1 = P2 ∧ FrM M1 M2 ∧ KpM s at_ (M1 159) M1 r' M2 ∧ ripQ eM (M1 159) N n r' (M2 159)) : r = r' ∧ Wst M2 P2 (B + 9999) := by
  obtain ⟨rfl, m1, m2, m3⟩ := m
  obtain ⟨k1, k2, k3, Y, hl, q⟩ := c
  have hp1 := h.1.1 1 (by decide)
  have e159 : M1 159 = M 159 := k1 159 (by omega) (by omega) (by omega) (by omega)
  rw [e159] at m3
  obtain ⟨hp, hx⟩ := h.2.2.1
  have hI := hp.2.1
  have hp2 := PairR_lv hp hl
  obtain ⟨he, N', K', hp3⟩ := P_rip hp2 q m3
  exact W_rec h (by omega) hB k1 (by rw [k2]) k3 m1 m2 he (fun hr j hj => by rw [e159, e_rip m3 (he ▸ hr)]) (fun _ => ⟨N', K', hp3.mono (by omega) (by omega), (E_rip hI.1.2.1 hx m3).mono (by omega)⟩)

theorem S_appeal {n : Int32} (h : WI M P B N K s at_ tx ln) (hB : B + 9999 < 2 ^ 30) (c : FrK P M M1 ∧ M1 147 = M 147 ∧ KpQ s M P r M1 P1 ∧ ∃ Y, LvX (M (P 0)) Y N K ∧ applQ Y K n r (M1 (P 1))) (m : P1 = P2 ∧ FrM M1 M2 ∧ KpM s at_ (M1 159) M1 r' M2 ∧ applQ (M1 159) K n r' (M2 159)) : r = r' ∧ Wst M2 P2 (B + 9999) := by
  obtain ⟨rfl, m1, m2, m3⟩ := m
  obtain ⟨k1, k2, k3, Y, hl, q⟩ := c
  have hp1 := h.1.1 1 (by decide)
  have e159 : M1 159 = M 159 := k1 159 (by omega) (by omega) (by omega) (by omega)
  rw [e159] at m3
  obtain ⟨hp, hx⟩ := h.2.2.1
  have hI := hp.2.1
  have hp2 := PairR_lv hp hl
  obtain ⟨he, N', K', hp3⟩ := P_appl hp2 q m3
  exact W_rec h (by omega) hB k1 (by rw [k2]) k3 m1 m2 he (fun hr j hj => by rw [e159, e_appl hI.1.2.2.2.1 m3 (he ▸ hr)]) (fun _ => ⟨N', K', hp3.mono (by omega) (by omega), (E_appl hx m3).mono (by omega)⟩)

theorem S_hear  (h : WI M P B N K s at_ tx ln) (hB : B + 9999 < 2 ^ 30) (c : FrK P M M1 ∧ M1 147 = M 147 ∧ KpQ s M P r M1 P1 ∧ ∃ Y, LvX (M (P 0)) Y N K ∧ hearQ bC eC Y N K r (M1 (P 1))) (m : P1 = P2 ∧ FrM M1 M2 ∧ KpM s at_ (M1 159) M1 r' M2 ∧ hearQ bM eM (M1 159) N K r' (M2 159)) : r = r' ∧ Wst M2 P2 (B + 9999) := by
  obtain ⟨rfl, m1, m2, m3⟩ := m
  obtain ⟨k1, k2, k3, Y, hl, q⟩ := c
  have hp1 := h.1.1 1 (by decide)
  have e159 : M1 159 = M 159 := k1 159 (by omega) (by omega) (by omega) (by omega)
  rw [e159] at m3
  obtain ⟨hp, hx⟩ := h.2.2.1
  have hI := hp.2.1
  have hp2 := PairR_lv hp hl
  obtain ⟨he, N', K', hp3⟩ := P_hear hp2 q m3
  exact W_rec h (by omega) hB k1 (by rw [k2]) k3 m1 m2 he (fun hr j hj => by rw [e159, e_hear hI m3 (he ▸ hr)]) (fun _ => ⟨N', K', hp3.mono (by omega) (by omega), (E_hear hI hx m3).mono (by omega)⟩)

theorem S_pass {a : Int32} (h : WI M P B N K s at_ tx ln) (hB : B + 9999 < 2 ^ 30) (c : FrK P M M1 ∧ M1 147 = M 147 ∧ KpQ s M P r M1 P1 ∧ ∃ Y, LvX (M (P 0)) Y N K ∧ passQ Y a r (M1 (P 1))) (m : P1 = P2 ∧ FrM M1 M2 ∧ KpM s at_ (M1 159) M1 r' M2 ∧ passQ (M1 159) a r' (M2 159)) : r = r' ∧ Wst M2 P2 (B + 9999) := by
  obtain ⟨rfl, m1, m2, m3⟩ := m
  obtain ⟨k1, k2, k3, Y, hl, q⟩ := c
  have hp1 := h.1.1 1 (by decide)
  have e159 : M1 159 = M 159 := k1 159 (by omega) (by omega) (by omega) (by omega)
  rw [e159] at m3
  obtain ⟨hp, hx⟩ := h.2.2.1
  have hI := hp.2.1
  have hp2 := PairR_lv hp hl
  obtain ⟨he, N', K', hp3⟩ := P_pass hp2 q m3
  exact W_rec h (by omega) hB k1 (by rw [k2]) k3 m1 m2 he (fun hr j hj => by rw [e159, e_pass (by omega) hx m3 (he ▸ hr)]) (fun _ => ⟨N', K', hp3.mono (by omega) (by omega), (E_pass hx m3).mono (by omega)⟩)

theorem S_netOf {n w : Int32} (h : WI M P B N K s at_ tx ln) (hB : B + 9999 < 2 ^ 30) (c : (P = P1 ∧ M = M1) ∧ ((¬ (InR N n ∧ InR 11 w) ∧ r = -1000001) ∨ ∃ k j, k < N ∧ n = nI k ∧ j < 11 ∧ w = nI j ∧ r = fNet eC (M (P 0)) k j)) (m : (P1 = P2 ∧ M1 = M2) ∧ ((¬ (InR N n ∧ InR 11 w) ∧ r' = -1000001) ∨ ∃ k j, k < N ∧ n = nI k ∧ j < 11 ∧ w = nI j ∧ r' = fNet eM (M1 159) k j)) : r = r' ∧ Wst M2 P2 (B + 9999) := by
  obtain ⟨⟨rfl, rfl⟩, c⟩ := c
  obtain ⟨⟨rfl, rfl⟩, m⟩ := m
  refine ⟨?_, W_keep h (by omega) hB (fun _ _ _ _ _ => rfl) rfl (fun _ _ => rfl) (fun _ _ => rfl) (fun _ _ => rfl)⟩
  obtain ⟨hp, hx⟩ := h.2.2.1
  have hN := hp.1.1.1.2.1
  have hK := hp.1.1.1.2.2.2.1
  have hR := hp.2.2.2
  rcases c with ⟨a1, rfl⟩ | ⟨k, j, hk, rfl, hj, rfl, rfl⟩ <;> rcases m with ⟨b1, rfl⟩ | ⟨k', j', hk', ek, hj', ej, rfl⟩
  · rfl
  · exact absurd ⟨⟨k', hk', ek⟩, ⟨j', hj', ej⟩⟩ a1
  · exact absurd ⟨⟨k, hk, rfl⟩, ⟨j, hj, rfl⟩⟩ b1
  · obtain rfl := (nI_eq (by omega) (by omega)).mp ek
    obtain rfl := (nI_eq (by omega) (by omega)).mp ej
    exact (r_fnet hp.1.1 hR hk hj).symm

theorem S_claimOf {n w : Int32} (h : WI M P B N K s at_ tx ln) (hB : B + 9999 < 2 ^ 30) (c : (P = P1 ∧ M = M1) ∧ ((¬ (InR K n ∧ InR 8 w) ∧ r = -1000001) ∨ ∃ i j, i < K ∧ n = nI i ∧ j < 8 ∧ w = nI j ∧ r = fClm (M (P 0)) i j)) (m : (P1 = P2 ∧ M1 = M2) ∧ ((¬ (InR K n ∧ InR 8 w) ∧ r' = -1000001) ∨ ∃ i j, i < K ∧ n = nI i ∧ j < 8 ∧ w = nI j ∧ r' = fClm (M1 159) i j)) : r = r' ∧ Wst M2 P2 (B + 9999) := by
  obtain ⟨⟨rfl, rfl⟩, c⟩ := c
  obtain ⟨⟨rfl, rfl⟩, m⟩ := m
  refine ⟨?_, W_keep h (by omega) hB (fun _ _ _ _ _ => rfl) rfl (fun _ _ => rfl) (fun _ _ => rfl) (fun _ _ => rfl)⟩
  obtain ⟨hp, hx⟩ := h.2.2.1
  have hN := hp.1.1.1.2.1
  have hK := hp.1.1.1.2.2.2.1
  have hR := hp.2.2.2
  rcases c with ⟨a1, rfl⟩ | ⟨k, j, hk, rfl, hj, rfl, rfl⟩ <;> rcases m with ⟨b1, rfl⟩ | ⟨k', j', hk', ek, hj', ej, rfl⟩
  · rfl
  · exact absurd ⟨⟨k', hk', ek⟩, ⟨j', hj', ej⟩⟩ a1
  · exact absurd ⟨⟨k, hk, rfl⟩, ⟨j, hj, rfl⟩⟩ b1
  · obtain rfl := (nI_eq (by omega) (by omega)).mp ek
    obtain rfl := (nI_eq (by omega) (by omega)).mp ej
    exact (r_fclm hR hk hj).symm

theorem S_wronged  (h : WI M P B N K s at_ tx ln) (hB : B + 9999 < 2 ^ 30) (c : (P = P1 ∧ M = M1) ∧ r = wrg (M (P 0)) K) (m : (P1 = P2 ∧ M1 = M2) ∧ r' = wrg (M1 159) K) : r = r' ∧ Wst M2 P2 (B + 9999) := by
  obtain ⟨⟨rfl, rfl⟩, c⟩ := c
  obtain ⟨⟨rfl, rfl⟩, m⟩ := m
  refine ⟨?_, W_keep h (by omega) hB (fun _ _ _ _ _ => rfl) rfl (fun _ _ => rfl) (fun _ _ => rfl) (fun _ _ => rfl)⟩
  obtain ⟨hp, hx⟩ := h.2.2.1
  have hN := hp.1.1.1.2.1
  have hK := hp.1.1.1.2.2.2.1
  have hR := hp.2.2.2
  rw [c, m]; exact (r_wrg hp.1.1 hR K (Nat.le_refl K)).symm

theorem S_cellOf {a : Int32} (h : WI M P B N K s at_ tx ln) (hB : B + 9999 < 2 ^ 30) (c : (P = P1 ∧ M = M1) ∧ ((¬ InR 162 a ∧ r = -1000001) ∨ ∃ j, j < 162 ∧ a = nI j ∧ r = if M (P 0) (7 + j) = -1 then -1000004 else M (P 0) (7 + j))) (m : (P1 = P2 ∧ M1 = M2) ∧ clQ (M1 159) a r') : r = r' ∧ Wst M2 P2 (B + 9999) := by
  obtain ⟨⟨rfl, rfl⟩, c⟩ := c
  obtain ⟨⟨rfl, rfl⟩, m⟩ := m
  refine ⟨?_, W_keep h (by omega) hB (fun _ _ _ _ _ => rfl) rfl (fun _ _ => rfl) (fun _ _ => rfl) (fun _ _ => rfl)⟩
  obtain ⟨hp, hx⟩ := h.2.2.1
  have hN := hp.1.1.1.2.1
  have hK := hp.1.1.1.2.2.2.1
  have hR := hp.2.2.2
  rcases c with ⟨a1, rfl⟩ | ⟨j, hj, rfl, rfl⟩ <;> rcases m with ⟨b1, rfl⟩ | ⟨j', hj', ej, rfl⟩
  · rfl
  · exact absurd ⟨j', hj', ej⟩ a1
  · exact absurd ⟨j, hj, rfl⟩ b1
  · obtain rfl := (nI_eq (by omega) (by omega)).mp ej
    exact cl_rel hp hj

theorem S_wireAt {n a : Int32} (h : WI M P B N K s at_ tx ln) (hB : B + 9999 < 2 ^ 30) (c : (P = P1 ∧ M = M1) ∧ ((¬ (InR N n ∧ ¬ a < 0) ∧ r = -1000001) ∨ ∃ k j, k < N ∧ n = nI k ∧ j < 2 ^ 31 ∧ a = nI j ∧ r = (match fnd (fun a => decide (M (P 0) (7 + a) = nI k ∧ cnt (fun b => decide (M (P 0) (7 + b) = nI k)) a = j)) 162 with | some a => nI a | none => -1000004))) (m : (P1 = P2 ∧ M1 = M2) ∧ ((¬ (InR N n ∧ ¬ a < 0) ∧ r' = -1000001) ∨ ∃ k j, k < N ∧ n = nI k ∧ j < 2 ^ 31 ∧ a = nI j ∧ r' = (match fnd (waP (M1 159) (nI (1 + k)) j) 162 with | some a => nI a | none => -1000004))) : r = r' ∧ Wst M2 P2 (B + 9999) := by
  obtain ⟨⟨rfl, rfl⟩, c⟩ := c
  obtain ⟨⟨rfl, rfl⟩, m⟩ := m
  refine ⟨?_, W_keep h (by omega) hB (fun _ _ _ _ _ => rfl) rfl (fun _ _ => rfl) (fun _ _ => rfl) (fun _ _ => rfl)⟩
  obtain ⟨hp, hx⟩ := h.2.2.1
  have hN := hp.1.1.1.2.1
  have hK := hp.1.1.1.2.2.2.1
  have hR := hp.2.2.2
  rcases c with ⟨a1, rfl⟩ | ⟨k, j, hk, rfl, hj, rfl, rfl⟩ <;> rcases m with ⟨b1, rfl⟩ | ⟨k', j', hk', ek, hj', ej, rfl⟩
  · rfl
  · exact absurd ⟨⟨k', hk', ek⟩, by rw [ej]; exact nI_pos hj'⟩ a1
  · exact absurd ⟨⟨k, hk, rfl⟩, nI_pos hj⟩ b1
  · obtain rfl := (nI_eq (by omega) (by omega)).mp ek
    obtain rfl := (nI_eq (by omega) (by omega)).mp ej
    rw [wa_rel hp hk]

theorem S_docketAt {a : Int32} (h : WI M P B N K s at_ tx ln) (hB : B + 9999 < 2 ^ 30) (c : (P = P1 ∧ M = M1) ∧ ((a < 0 ∧ r = -1000001) ∨ (¬ a < 0 ∧ r = (match hd1 (M (P 0)) K a with | some i => nI i | none => -1000004)))) (m : (P1 = P2 ∧ M1 = M2) ∧ ((a < 0 ∧ r' = -1000001) ∨ (¬ a < 0 ∧ r' = (match hd1 (M1 159) K a with | some i => nI i | none => -1000004)))) : r = r' ∧ Wst M2 P2 (B + 9999) := by
  obtain ⟨⟨rfl, rfl⟩, c⟩ := c
  obtain ⟨⟨rfl, rfl⟩, m⟩ := m
  refine ⟨?_, W_keep h (by omega) hB (fun _ _ _ _ _ => rfl) rfl (fun _ _ => rfl) (fun _ _ => rfl) (fun _ _ => rfl)⟩
  obtain ⟨hp, hx⟩ := h.2.2.1
  have hN := hp.1.1.1.2.1
  have hK := hp.1.1.1.2.2.2.1
  have hR := hp.2.2.2
  rw [r_hd1 hR] at m
  rcases c with ⟨a1, rfl⟩ | ⟨a1, rfl⟩ <;> rcases m with ⟨b1, rfl⟩ | ⟨b1, rfl⟩
  · rfl
  · exact absurd a1 b1
  · exact absurd b1 a1
  · rfl

theorem S_count {w : Int32} (h : WI M P B N K s at_ tx ln) (hB : B + 9999 < 2 ^ 30) (c : (P = P1 ∧ M = M1) ∧ ((w = nI 10 ∧ r = nI s) ∨ (w = nI 11 ∧ r = nI ln) ∨ (¬ w = nI 10 ∧ ¬ w = nI 11 ∧ ((∃ j, j < 24 ∧ w = nI j ∧ r = fCnt eC (M (P 0)) N K j) ∨ (¬ InR 24 w ∧ r = -1000001))))) (m : (P1 = P2 ∧ M1 = M2) ∧ ((w = nI 10 ∧ r' = nI s) ∨ (w = nI 11 ∧ r' = nI ln) ∨ (¬ w = nI 10 ∧ ¬ w = nI 11 ∧ ((∃ j, j < 24 ∧ w = nI j ∧ r' = fCnt eM (M1 159) N K j) ∨ (¬ InR 24 w ∧ r' = -1000001))))) : r = r' ∧ Wst M2 P2 (B + 9999) := by
  obtain ⟨⟨rfl, rfl⟩, c⟩ := c
  obtain ⟨⟨rfl, rfl⟩, m⟩ := m
  refine ⟨?_, W_keep h (by omega) hB (fun _ _ _ _ _ => rfl) rfl (fun _ _ => rfl) (fun _ _ => rfl) (fun _ _ => rfl)⟩
  obtain ⟨hp, hx⟩ := h.2.2.1
  have hN := hp.1.1.1.2.1
  have hK := hp.1.1.1.2.2.2.1
  have hR := hp.2.2.2
  have hne : ¬ nI 10 = nI 11 := by decide
  rcases c with ⟨a1, rfl⟩ | ⟨a1, rfl⟩ | ⟨a1, a2, a3⟩ <;> rcases m with ⟨b1, rfl⟩ | ⟨b1, rfl⟩ | ⟨b1, b2, b3⟩
  · rfl
  · exact absurd (a1.symm.trans b1) hne
  · exact absurd a1 b1
  · exact absurd (b1.symm.trans a1) hne
  · rfl
  · exact absurd a1 b2
  · exact absurd b1 a1
  · exact absurd b1 a2
  · rcases a3 with ⟨j, hj, rfl, rfl⟩ | ⟨a3, rfl⟩ <;> rcases b3 with ⟨j', hj', ej, rfl⟩ | ⟨b3, rfl⟩
    · obtain rfl := (nI_eq (by omega) (by omega)).mp ej
      exact (r_fcnt hp.1.1 hR hj).symm
    · exact absurd ⟨j, hj, rfl⟩ b3
    · exact absurd ⟨j', hj', ej⟩ a3
    · rfl

theorem S_cost {n d : Int32} (h : WI M P B N K s at_ tx ln) (hB : B + 9999 < 2 ^ 30) (c : P = P1 ∧ FrF M M1 ∧ rtQ eC (M (P 0)) N n d (fun z _ => nI z) r) (m : P1 = P2 ∧ FrO M1 M2 ∧ rtQ eM (M1 159) N n d (fun z _ => nI z) r') : r = r' ∧ Wst M2 P2 (B + 9999) := by
  obtain ⟨rfl, c0, c⟩ := c
  obtain ⟨rfl, m0, m⟩ := m
  have hp1 := h.1.1 1 (by decide)
  have e159 : M1 159 = M 159 := c0 159 (by omega)
  rw [e159] at m
  refine ⟨?_, W_keep h (by omega) hB (fun k _ _ _ hk => c0 k hk) (by rw [c0 147 (by omega)]) (fun k hk => m0.1 k (by omega)) (fun j hj => m0.2 j (by omega) (by omega) (by omega)) (fun j _ => by rw [m0.1 159 (by omega)])⟩
  obtain ⟨hp, hx⟩ := h.2.2.1
  exact rtQ_rel hp (fun _ _ _ => rfl) c m

theorem S_price {n : Int32} (h : WI M P B N K s at_ tx ln) (hB : B + 9999 < 2 ^ 30) (c : P = P1 ∧ FrF M M1 ∧ rtQ eC (M (P 0)) N n (nI 1) (fun _ L => nI (priE eC (M (P 0)) N L)) r) (m : P1 = P2 ∧ FrO M1 M2 ∧ rtQ eM (M1 159) N n (nI 1) (fun _ L => nI (priE eM (M1 159) N L)) r') : r = r' ∧ Wst M2 P2 (B + 9999) := by
  obtain ⟨rfl, c0, c⟩ := c
  obtain ⟨rfl, m0, m⟩ := m
  have hp1 := h.1.1 1 (by decide)
  have e159 : M1 159 = M 159 := c0 159 (by omega)
  rw [e159] at m
  refine ⟨?_, W_keep h (by omega) hB (fun k _ _ _ hk => c0 k hk) (by rw [c0 147 (by omega)]) (fun k hk => m0.1 k (by omega)) (fun j hj => m0.2 j (by omega) (by omega) (by omega)) (fun j _ => by rw [m0.1 159 (by omega)])⟩
  obtain ⟨hp, hx⟩ := h.2.2.1
  exact rtQ_rel hp (fun _ L _ => congrArg nI (r_pri hp.1.1 hp.2.2.2 L).symm) c m

theorem S_victims {n : Int32} (h : WI M P B N K s at_ tx ln) (hB : B + 9999 < 2 ^ 30) (c : P = P1 ∧ FrF M M1 ∧ rtQ eC (M (P 0)) N n (nI 1) (fun _ L => nI (bset (vicE eC (M (P 0)) L) N)) r) (m : P1 = P2 ∧ FrO M1 M2 ∧ rtQ eM (M1 159) N n (nI 1) (fun _ L => nI (bset (vicE eM (M1 159) L) N)) r') : r = r' ∧ Wst M2 P2 (B + 9999) := by
  obtain ⟨rfl, c0, c⟩ := c
  obtain ⟨rfl, m0, m⟩ := m
  have hp1 := h.1.1 1 (by decide)
  have e159 : M1 159 = M 159 := c0 159 (by omega)
  rw [e159] at m
  refine ⟨?_, W_keep h (by omega) hB (fun k _ _ _ hk => c0 k hk) (by rw [c0 147 (by omega)]) (fun k hk => m0.1 k (by omega)) (fun j hj => m0.2 j (by omega) (by omega) (by omega)) (fun j _ => by rw [m0.1 159 (by omega)])⟩
  obtain ⟨hp, hx⟩ := h.2.2.1
  have hN := hp.1.1.1.2.1
  exact rtQ_rel hp (fun _ L hL => congrArg nI (bset_cg (fun k hk => (r_vic hp.1.1 hp.2.2.2 (by omega) hL).symm))) c m

theorem S_routeAt {n d a : Int32} (h : WI M P B N K s at_ tx ln) (hB : B + 9999 < 2 ^ 30) (c : P = P1 ∧ FrF M M1 ∧ ((a < 0 ∧ r = -1000001) ∨ ∃ j, j < 2 ^ 31 ∧ a = nI j ∧ rtQ eC (M (P 0)) N n d (fun _ L => atL L j) r)) (m : P1 = P2 ∧ FrO M1 M2 ∧ ((a < 0 ∧ r' = -1000001) ∨ ∃ j, j < 2 ^ 31 ∧ a = nI j ∧ rtQ eM (M1 159) N n d (fun _ L => atL L j) r')) : r = r' ∧ Wst M2 P2 (B + 9999) := by
  obtain ⟨rfl, c0, c⟩ := c
  obtain ⟨rfl, m0, m⟩ := m
  have hp1 := h.1.1 1 (by decide)
  have e159 : M1 159 = M 159 := c0 159 (by omega)
  rw [e159] at m
  refine ⟨?_, W_keep h (by omega) hB (fun k _ _ _ hk => c0 k hk) (by rw [c0 147 (by omega)]) (fun k hk => m0.1 k (by omega)) (fun j hj => m0.2 j (by omega) (by omega) (by omega)) (fun j _ => by rw [m0.1 159 (by omega)])⟩
  obtain ⟨hp, hx⟩ := h.2.2.1
  rcases c with ⟨a1, rfl⟩ | ⟨j, hj, rfl, c⟩ <;> rcases m with ⟨b1, rfl⟩ | ⟨j', hj', ej, m⟩
  · rfl
  · rw [ej] at a1; exact absurd a1 (nI_pos hj')
  · exact absurd b1 (nI_pos hj)
  · obtain rfl := (nI_eq (by omega) (by omega)).mp ej
    exact rtQ_rel hp (fun _ _ _ => rfl) c m

theorem S_bestOrder {a : Int32} (h : WI M P B N K s at_ tx ln) (hB : B + 9999 < 2 ^ 30) (c : P = P1 ∧ FrB P M M1 ∧ BOQ (M (P 0)) N K a r) (m : P1 = P2 ∧ FrZ M1 M2 ∧ (∀ j, j < 379 → M2 159 j = M1 159 j) ∧ BOM (M1 159) N (wlN (M1 159) N) a r') : r = r' ∧ Wst M2 P2 (B + 9999) := by
  obtain ⟨rfl, c0, c⟩ := c
  obtain ⟨rfl, m0, m1, m⟩ := m
  have hp1 := h.1.1 1 (by decide)
  have e159 : M1 159 = M 159 := c0 159 (by omega) (by omega) (by omega)
  rw [e159] at m
  refine ⟨BO_rel h.2.2.1.1 c m, W_keep h (by omega) hB (fun k a b _ hk => c0 k a b hk) (by rw [c0 147 (by omega) (by omega) (by omega)]) (fun k hk => m0.1 k (by omega)) (fun j hj => m0.2 j (by omega) (by omega) (by omega)) m1⟩
theorem S_undo (h : WI M P B N K s at_ tx ln) (hB : B + 9999 < 2 ^ 30) (c : (s = 0 ∧ r = -1000002 ∧ P1 = P ∧ M1 = M) ∨ (s ≠ 0 ∧ r = nI (s - 1) ∧ P1 = unP P ∧ M1 = st2 M 144 6 (nI (s - 1)))) (m : P1 = P2 ∧ ((s = 0 ∧ r' = -1000002 ∧ M1 = M2) ∨ (s ≠ 0 ∧ r' = nI (s - 1) ∧ M2 159 = cpI (fun j => M1 162 (379 * ((at_ + 3) % 4) + j)) (M1 159) 379 ∧ M2 158 5 = nI (s - 1) ∧ M2 158 6 = nI ((at_ + 3) % 4) ∧ (∀ k, k ≠ 159 → k ≠ 158 → M2 k = M1 k) ∧ M2 158 7 = M1 158 7))) : r = r' ∧ Wst M2 P2 (B + 9999) := by
  obtain ⟨rfl, m⟩ := m
  exact W_undo h (by omega) hB c m
theorem S_type {a : Int32} (h : WI M P B N K s at_ tx ln) (hB : B + 9999 < 2 ^ 30) (c : P = P1 ∧ ((¬ (nI 32 ≤ a ∧ a ≤ nI 126) ∧ r = -1000001 ∧ M = M1) ∨ ((nI 32 ≤ a ∧ a ≤ nI 126) ∧ ((60 ≤ ln ∧ r = -1000003 ∧ M = M1) ∨ (ln < 60 ∧ r = nI (ln + 1) ∧ M1 = st2 (st2 M 148 ln a) 147 1 (nI (ln + 1))))))) (m : P1 = P2 ∧ ((¬ (nI 32 ≤ a ∧ a ≤ nI 126) ∧ r' = -1000001 ∧ M1 = M2) ∨ ((nI 32 ≤ a ∧ a ≤ nI 126) ∧ ((60 ≤ ln ∧ r' = -1000003 ∧ M1 = M2) ∨ (ln < 60 ∧ r' = nI (ln + 1) ∧ M2 = st2 (st2 M1 163 ln a) 158 7 (nI (ln + 1))))))) : r = r' ∧ Wst M2 P2 (B + 9999) := by
  obtain ⟨rfl, c⟩ := c
  obtain ⟨rfl, m⟩ := m
  exact W_type h (by omega) hB c m
theorem S_clearText (h : WI M P B N K s at_ tx ln) (hB : B + 9999 < 2 ^ 30) (c : P = P1 ∧ r = nI ln ∧ M1 = st2 M 147 1 (nI 0)) (m : P1 = P2 ∧ r' = nI ln ∧ M2 = st2 M1 158 7 (nI 0)) : r = r' ∧ Wst M2 P2 (B + 9999) := by
  obtain ⟨rfl, c1, c⟩ := c
  obtain ⟨rfl, m1, m⟩ := m
  exact ⟨c1.trans m1.symm, W_clear h (by omega) hB c m⟩
theorem S_fault {w : Int32} (h : WI M P B N K s at_ tx ln) (hB : B + 9999 < 2 ^ 30) (c : P = P1 ∧ (∀ k, k ≠ P 1 → k ≠ 147 → (k < 149 ∨ k = 150 ∨ 157 < k) → M1 k = M k) ∧ M1 147 1 = M 147 1 ∧ ∃ Y, LvX (M (P 0)) Y N K ∧ FltQ bC finC eC tx ln Y N K w r) (m : P1 = P2 ∧ Ch9 M1 M2 ∧ (∀ j, j < 379 → M2 159 j = M1 159 j) ∧ FltQ bM finM eM tx ln (M1 159) N K w r') : r = r' ∧ Wst M2 P2 (B + 9999) := by
  obtain ⟨rfl, c0, c1, Y, hl, c⟩ := c
  obtain ⟨rfl, m0, m1, m⟩ := m
  have hp1 := h.1.1 1 (by decide)
  have e159 : M1 159 = M 159 := c0 159 (by omega) (by omega) (by omega)
  rw [e159] at m
  exact ⟨Flt_rel (PairR_lv h.2.2.1.1 hl) c m, W_keep h (by omega) hB (fun k a _ b hk => c0 k a b hk) c1 m0.1 m0.2 m1⟩
theorem S_play (h : WI M P B N K s at_ tx ln) (hB : B + 9999 < 2 ^ 30) (c : FrK P M M1 ∧ M1 147 1 = M 147 1 ∧ KpQ s M P r M1 P1 ∧ ∃ Y, LvX (M (P 0)) Y N K ∧ PlyQ bC finC eC tx ln Y N K r (M1 (P 1))) (m : P1 = P2 ∧ FrM M1 M2 ∧ KpM s at_ (M1 159) M1 r' M2 ∧ ∃ X', PlyQ bM finM eM tx ln (M1 159) N K r' X' ∧ (¬ r' < 0 → M2 159 = X') ∧ (r' < 0 → ∀ j, j < 379 → M2 159 j = M1 159 j)) : r = r' ∧ Wst M2 P2 (B + 9999) := by
  obtain ⟨rfl, m1, m2, X', m3, m4, m5⟩ := m
  obtain ⟨k1, k2, k3, Y, hl, q⟩ := c
  have hp1 := h.1.1 1 (by decide)
  have e159 : M1 159 = M 159 := k1 159 (by omega) (by omega) (by omega) (by omega)
  rw [e159] at m3
  obtain ⟨hp, hx⟩ := h.2.2.1
  obtain ⟨he, N', K', hp3⟩ := Ply_rel (PairR_lv hp hl) q m3
  refine W_rec h (by omega) hB k1 k2 k3 m1 m2 he (fun hr => m5 (he ▸ hr)) (fun hr => ⟨N', K', ?_, ?_⟩)
  · rw [m4 (he ▸ hr)]; exact hp3.mono (by omega) (by omega)
  · rw [m4 (he ▸ hr)]; exact (E_ply h.2.2.2.2.2.2 hp.2.1 hx (he ▸ hr) m3).mono (by omega)
end STEP
