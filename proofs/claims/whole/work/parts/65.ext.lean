/-! settings and acts in their ranges: an act that is possible answers no error -/
def Ext (S : Nat → Int32) (A : Nat) : Prop := (∃ q, S 2 = nI q ∧ q ≤ 50) ∧ (∃ q, S 3 = nI q ∧ q ≤ 50) ∧ ∃ q, S 4 = nI q ∧ q ≤ A
section EXT
variable {S S' : Nat → Int32} {N K B A : Nat} {r : Int32}
theorem Ext.mono (h : Ext S A) {A' : Nat} (hA : A ≤ A') : Ext S A' := by
  obtain ⟨h1, h2, q, h3, h4⟩ := h
  exact ⟨h1, h2, q, h3, by omega⟩
theorem Ext_cg (h : Ext S A) (h2 : S' 2 = S 2) (h3 : S' 3 = S 3) (h4 : S' 4 = S 4) : Ext S' A := by
  unfold Ext
  rw [h2, h3, h4]
  exact h
theorem Ext_1 (h : Ext S A) (h2 : S' 2 = S 2) (h3 : S' 3 = S 3) (h4 : S' 4 = S 4 + nI 1) : Ext S' (A + 50) := by
  obtain ⟨a, b, q, c, d⟩ := h
  refine ⟨by rw [h2]; exact a, by rw [h3]; exact b, q + 1, ?_, by omega⟩
  rw [h4, c, nI_add]
theorem v_of {lo hi : Nat} {v : Int32} (hh : hi < 2 ^ 31) (hl : lo ≤ hi) (g1 : nI lo ≤ v) (g2 : v ≤ nI hi) : ∃ q : Nat, v = nI q ∧ lo ≤ q ∧ q ≤ hi := by
  obtain ⟨q, hq, rfl⟩ := nI_of (x := v) (fun z => by
    have := Int32.le_iff_toInt_le.mp g1
    rw [nI_toInt (by omega)] at this
    have h0 := Int32.lt_iff_toInt_lt.mp z
    have : (0 : Int32).toInt = 0 := rfl
    omega)
  exact ⟨q, rfl, (nI_leI (by omega) hq).mp g1, (nI_leI hq hh).mp g2⟩
theorem E_set {w v : Int32} (h : Ext S A) (q : setQ S w v r S') : Ext S' A := by
  rcases q with ⟨-, -, rfl⟩ | ⟨j, hj, -, g1, g2, -, rfl⟩
  · exact h
  · obtain ⟨a, b, c⟩ := h
    unfold f_LEASTi at g1
    unfold f_MOSTi at g2
    rcases (show j = 0 ∨ j = 1 ∨ j = 2 ∨ j = 3 by omega) with rfl | rfl | rfl | rfl
    · exact ⟨by rw [pk_un (by decide)]; exact a, by rw [pk_un (by decide)]; exact b, by rw [pk_un (by decide)]; exact c⟩
    · exact ⟨by rw [pk_un (by decide)]; exact a, by rw [pk_un (by decide)]; exact b, by rw [pk_un (by decide)]; exact c⟩
    · rw [if_neg (by decide), if_neg (by decide)] at g1 g2
      obtain ⟨q, e, -, e2⟩ := v_of (lo := 0) (hi := 50) (by decide) (by decide) g1 g2
      exact ⟨⟨q, by rw [pk_us]; exact e, e2⟩, by rw [pk_un (by decide)]; exact b, by rw [pk_un (by decide)]; exact c⟩
    · rw [if_neg (by decide), if_pos rfl] at g1 g2
      obtain ⟨q, e, -, e2⟩ := v_of (lo := 1) (hi := 20) (by decide) (by decide) g1 g2
      exact ⟨by rw [pk_un (by decide)]; exact a, ⟨q, by rw [pk_us]; exact e, by omega⟩, by rw [pk_un (by decide)]; exact c⟩
theorem E_pass {a : Int32} (h : Ext S A) (q : passQ S a r S') : Ext S' (A + 50) := by
  rcases q with ⟨-, -, rfl⟩ | ⟨g1, g2, ⟨-, -, rfl⟩ | ⟨-, -, rfl⟩⟩
  · exact h.mono (by omega)
  · exact h.mono (by omega)
  · obtain ⟨x, b, q, c, d⟩ := h
    obtain ⟨z, rfl, -, e2⟩ := v_of (lo := 1) (hi := 50) (by decide) (by decide) g1 g2
    exact ⟨by rw [pk_un (by decide)]; exact x, by rw [pk_un (by decide)]; exact b, q + z, by rw [pk_us, c, nI_add], by omega⟩
theorem E_appl {n : Int32} (h : Ext S A) (q : applQ S K n r S') : Ext S' (A + 50) := by
  rcases q with ⟨-, -, rfl⟩ | ⟨i, hi, -, ⟨-, -, rfl⟩ | ⟨-, -, rfl, -⟩⟩
  · exact h.mono (by omega)
  · exact h.mono (by omega)
  · exact Ext_1 h (by rw [pk_un (by omega), pk_un (by omega)]) (by rw [pk_un (by omega), pk_un (by omega)]) pk_us
theorem E_rip {n : Int32} (hN : N ≤ 6) (h : Ext S A) (q : ripQ eM S N n r S') : Ext S' (A + 50) := by
  rcases q with ⟨-, -, rfl⟩ | ⟨k, hk, -, ⟨-, -, rfl⟩ | ⟨-, -, rfl⟩⟩
  · exact h.mono (by omega)
  · exact h.mono (by omega)
  · exact Ext_1 h (by rw [pk_un (by omega), loseE_n (by omega) (by omega)]) (by rw [pk_un (by omega), loseE_n (by omega) (by omega)]) (by rw [pk_us, loseE_4])
theorem E_lay {n : Int32} (hN : N ≤ 6) (h : Ext S A) (q : layQ eM S N n r S') : Ext S' (A + 50) := by
  rcases q with ⟨-, -, rfl⟩ | ⟨k, hk, -, ⟨-, -, rfl⟩ | ⟨-, z, l1, l2, -, -, rfl⟩⟩
  · exact h.mono (by omega)
  · exact h.mono (by omega)
  · exact Ext_1 h (by rw [pk_un (by omega), takeE_n (by omega) (by omega)]) (by rw [pk_un (by omega), takeE_n (by omega) (by omega)]) pk_us
theorem E_dig {n : Int32} (hI : InvX eM S N K B) (h : Ext S A) (q : digQ finM eM S N K n r S') : Ext S' (A + 50) := by
  have hN := hI.1.2.1
  rcases q with ⟨-, -, rfl⟩ | ⟨k, hk, -, ⟨-, -, rfl⟩ | ⟨-, z, l1, l2, -, ⟨-, -, rfl⟩ | ⟨-, ⟨-, -, rfl⟩ | ⟨-, -, rfl⟩⟩⟩⟩
  · exact h.mono (by omega)
  · exact h.mono (by omega)
  · exact h.mono (by omega)
  · exact h.mono (by omega)
  · obtain ⟨Y, hY, e⟩ := finM_F (X := S) (L := l1 ++ l2) hN hk hI.1.2.2.1
    rw [e]
    exact Ext_1 h (by rw [takeE_n (by omega) (by omega)]; exact hY.1 2 (by omega)) (by rw [takeE_n (by omega) (by omega)]; exact hY.1 3 (by omega)) (by rw [takeE_n (by omega) (by omega)]; exact hY.2.1)
theorem E_hear (hI : InvX eM S N K B) (h : Ext S A) (q : hearQ bM eM S N K r S') : Ext S' (A + 50) := by
  have hN := hI.1.2.1
  rcases q with ⟨-, -, rfl⟩ | ⟨i, h0, d, -, hi, -, -, hh, hd, -, q⟩
  · exact h.mono (by omega)
  · have hy : ∀ p j, j < 5 → hearY S i h0 d p j = S j := fun p j hj => hearY_o (by omega) (by omega) (fun q hq => by omega)
    rcases q with ⟨-, rfl⟩ | ⟨-, ⟨-, rfl⟩ | ⟨-, rfl⟩⟩
    · exact Ext_1 h (by rw [pk_un (by omega), hy _ 2 (by omega)]) (by rw [pk_un (by omega), hy _ 3 (by omega)]) pk_us
    · exact Ext_1 h (by rw [pk_un (by omega), loseE_n (by omega) (by omega), hy _ 2 (by omega)]) (by rw [pk_un (by omega), loseE_n (by omega) (by omega), hy _ 3 (by omega)]) pk_us
    · exact Ext_1 h (by rw [pk_un (by omega), backG_n (by omega) (by omega), loseE_n (by omega) (by omega), hy _ 2 (by omega)]) (by rw [pk_un (by omega), backG_n (by omega) (by omega), loseE_n (by omega) (by omega), hy _ 3 (by omega)]) pk_us
theorem E_ord {L v : Nat} (hI : InvX eM S N K B) (h : Ext S A) (q : ordQ bM finM eM S N K L v r S') : Ext S' (A + 50) := by
  have hN := hI.1.2.1
  obtain ⟨a, ⟨-, q, -⟩ | ⟨-, q, -⟩ | ⟨-, q, -⟩ | ⟨-, q, -⟩ | ⟨-, q, -⟩ | ⟨-, q, -⟩⟩ := q
  · exact E_hear hI h q
  · exact E_pass h q
  · exact E_appl h q
  · exact E_lay hN h q
  · exact E_dig hI h q
  · exact E_rip hN h q
theorem E_RunS {tx : Nat → Nat} {ln K0 : Nat} (hI : InvX eM S N K0 B) (h : Ext S A) : ∀ {i p K : Nat} {Z : Nat → Int32}, RunS bM finM eM tx ln S N K0 i p Z K → InvX eM Z N K B ∧ Ext Z (A + 50 * i)
  | 0, p, K, Z, q => by
    obtain ⟨-, rfl, rfl⟩ := q
    exact ⟨hI, h⟩
  | i + 1, p, K, Z, q => by
    obtain ⟨p1, Y1, K1, m1, a1, a2, a3, a4, a5, a6, a7⟩ := q
    obtain ⟨i1, e1⟩ := E_RunS hI h a1
    obtain ⟨K2, i2⟩ := Inv_ordM i1 a5
    have : K = K2 := (nI_eq (by omega) (by have := i2.1.2.2.2.1; omega)).mp (a6.symm.trans i2.1.2.2.1)
    subst this
    exact ⟨i2, (E_ord i1 e1 a5).mono (by omega)⟩
theorem E_ply {M : Nat → Nat → Int32} {tx : Nat → Nat} {ln : Nat} (hT : TxN M tx ln) (hI : InvX eM S N K B) (h : Ext S A) (hr : ¬ r < 0) (q : PlyQ bM finM eM tx ln S N K r S') : Ext S' (A + 3000) := by
  obtain ⟨i, p, rr, hE, q⟩ := q
  have hi := RunE_i hT hE
  obtain ⟨Z, K1, hS, x⟩ := hE
  obtain ⟨-, e1⟩ := E_RunS hI h hS
  rcases q with ⟨q, -⟩ | ⟨-, rfl⟩
  · rcases x with ⟨-, -, rfl⟩ | ⟨-, -, e, -⟩ | ⟨-, m, -, -, e⟩
    · exact e1.mono (by omega)
    · rw [e] at q; exact absurd q (by decide)
    · exact absurd q e
  · exact absurd (by decide) hr
theorem n_pos {k : Nat} (hk : k < 2 ^ 31) {P : Prop} (h : nI k < 0) : P := absurd h (nI_pos hk)
theorem Ex_net {p0 p1 p2 t u : Int32} (h : Ext S A) (q : netQ eM S N p0 p1 p2 t u r S') : Ext S' A := by
  rcases netQ_P q with ⟨-, -, rfl⟩ | ⟨-, -, -, rfl⟩ | ⟨-, -, -, -, rfl⟩ | ⟨-, -, hN, -, j0, j1, o2, -, -, -, -, -, -, hP⟩
  · exact h
  · exact h
  · exact h
  · exact Ext_cg h (hP.2.1 2 (by omega)) (hP.2.1 3 (by omega)) (hP.2.1 4 (by omega))
theorem E_give {n a : Int32} (hN : N ≤ 6) (h : Ext S A) (q : giveQ S N n a r S') : Ext S' A := by
  rcases q with ⟨-, -, rfl⟩ | ⟨k, hk, -, -, -, ⟨-, -, rfl⟩ | ⟨-, -, rfl⟩⟩
  · exact h
  · exact h
  · exact Ext_cg h (pk_un (by omega)) (pk_un (by omega)) (pk_un (by omega))
theorem E_blk {p t : Int32} (h : Ext S A) (q : blkQ eM S p t r S') : Ext S' A := by
  rcases q with ⟨-, -, rfl⟩ | ⟨j, b, hj, -, -, -, ⟨-, -, rfl⟩ | ⟨-, -, rfl, -⟩⟩
  · exact h
  · exact h
  · exact Ext_cg h (by rw [pk_un (by omega), pk_un (by omega)]) (by rw [pk_un (by omega), pk_un (by omega)]) (by rw [pk_un (by omega), pk_un (by omega)])
/-- what is refused changes nothing -/
theorem e_set {w v : Int32} (hI : InvX eM S N K B) (h : Ext S A) (q : setQ S w v r S') (hr : r < 0) : S' = S := by
  rcases q with ⟨-, -, rfl⟩ | ⟨j, hj, -, -, -, rfl, -⟩
  · rfl
  · obtain ⟨⟨q2, a2, b2⟩, ⟨q3, a3, b3⟩, -⟩ := h
    rcases (show j = 0 ∨ j = 1 ∨ j = 2 ∨ j = 3 by omega) with rfl | rfl | rfl | rfl
    · rw [hI.1.vc.1] at hr; exact n_pos (by have := hI.1.vc.2; omega) hr
    · rw [hI.1.pr.1] at hr; exact n_pos (by have := hI.1.pr.2; omega) hr
    · rw [a2] at hr; exact n_pos (by omega) hr
    · rw [a3] at hr; exact n_pos (by omega) hr
theorem e_pass {a : Int32} (hA : A + 50 < 2 ^ 31) (h : Ext S A) (q : passQ S a r S') (hr : r < 0) : S' = S := by
  rcases q with ⟨-, -, rfl⟩ | ⟨g1, g2, ⟨-, -, rfl⟩ | ⟨-, rfl, -⟩⟩
  · rfl
  · rfl
  · obtain ⟨-, -, q, c, d⟩ := h
    obtain ⟨z, rfl, -, e2⟩ := v_of (lo := 1) (hi := 50) (by decide) (by decide) g1 g2
    rw [c, nI_add] at hr
    exact n_pos (by omega) hr
theorem e_give {n a : Int32} (hI : InvX eM S N K B) (hB : B + 9999 < 2 ^ 31) (q : giveQ S N n a r S') (hr : r < 0) : S' = S := by
  rcases q with ⟨-, -, rfl⟩ | ⟨k, hk, -, g1, g2, ⟨-, -, rfl⟩ | ⟨-, rfl, -⟩⟩
  · rfl
  · rfl
  · obtain ⟨pu, h1, h2⟩ := hI.2.2.2.2.1
    obtain ⟨z, rfl, -, e2⟩ := v_of (lo := 1) (hi := 9999) (by decide) (by decide) g1 g2
    rw [h1 k hk, nI_add] at hr
    have := le_sumN (f := pu) hk
    exact n_pos (by omega) hr
theorem e_blk {p t : Int32} (q : blkQ eM S p t r S') (hr : r < 0) : S' = S := by
  rcases q with ⟨-, -, rfl⟩ | ⟨j, b, hj, -, -, -, ⟨-, -, rfl⟩ | ⟨-, -, -, rfl⟩⟩
  · rfl
  · rfl
  · have := cnt_le (fun a => decide (S' (7 + a) = nI 20)) 162
    exact n_pos (by unfold wir; omega) hr
theorem e_net {p0 p1 p2 t u : Int32} (q : netQ eM S N p0 p1 p2 t u r S') (hr : r < 0) : S' = S := by
  rcases netQ_P q with ⟨-, -, rfl⟩ | ⟨-, -, -, rfl⟩ | ⟨-, -, -, -, rfl⟩ | ⟨-, -, hN, rfl, -⟩
  · rfl
  · rfl
  · rfl
  · exact n_pos (by omega) hr
theorem e_rip {n : Int32} (q : ripQ eM S N n r S') (hr : r < 0) : S' = S := by
  rcases q with ⟨-, -, rfl⟩ | ⟨k, hk, -, ⟨-, -, rfl⟩ | ⟨-, rfl, -⟩⟩
  · rfl
  · rfl
  · have := cnt_le (fun a => decide (S (7 + a) = eM.2.1 k)) 162
    exact n_pos (by unfold wir; omega) hr
theorem e_appl {n : Int32} (hK : K ≤ 12) (q : applQ S K n r S') (hr : r < 0) : S' = S := by
  rcases q with ⟨-, -, rfl⟩ | ⟨i, hi, -, ⟨-, -, rfl⟩ | ⟨-, -, -, rfl⟩⟩
  · rfl
  · rfl
  · have := cnt_le (fun i => decide (S' (223 + 13 * i + 5) = nI 1)) K
    exact n_pos (by unfold appl; omega) hr
theorem rt_z {e : Enc} {X : Nat → Int32} {n : Nat} {dg : Bool} {z : Nat} {l1 l2 : List Nat} (h : rtX e X N n dg = some (z, l1, l2)) : z < 2000000 := by
  unfold rtX at h
  generalize htw : twE e X N n dg (prX X) (stX X) = tw at h
  cases h1 : startO (dcl tw (dS (vcX X) tw (jn0 (p0X X n)))) (p1X X n) with
  | none => rw [rtP_none1 htw.symm h1] at h; cases h
  | some s1 =>
    have d1 := (startO_some h1).2
    cases h2 : p2X X n with
    | none =>
      rw [h2, rtP_one htw.symm h1] at h
      cases h
      omega
    | some p2 =>
      rw [h2] at h
      cases h3 : startO (dcl (tw0 tw (pthL (vcX X) tw (jn0 (p0X X n)) (dcl tw (dS (vcX X) tw (jn0 (p0X X n)))) 161 s1)) (dS (vcX X) (tw0 tw (pthL (vcX X) tw (jn0 (p0X X n)) (dcl tw (dS (vcX X) tw (jn0 (p0X X n)))) 161 s1)) (joinL X (e.2.2 n) (jn0 (p0X X n)) (pthL (vcX X) tw (jn0 (p0X X n)) (dcl tw (dS (vcX X) tw (jn0 (p0X X n)))) 161 s1)))) p2 with
      | none => rw [rtP_none2 htw.symm h1 rfl rfl rfl h3] at h; cases h
      | some s2 =>
        have d2 := (startO_some h3).2
        rw [rtP_two htw.symm h1 rfl rfl rfl h3] at h
        cases h
        omega
theorem e_lay {n : Int32} (q : layQ eM S N n r S') (hr : r < 0) : S' = S := by
  rcases q with ⟨-, -, rfl⟩ | ⟨k, hk, -, ⟨-, -, rfl⟩ | ⟨-, z, l1, l2, h, rfl, -⟩⟩
  · rfl
  · rfl
  · exact n_pos (by have := rt_z h; omega) hr
theorem e_dig {n : Int32} (hI : InvX eM S N K B) (q : digQ finM eM S N K n r S') (hr : r < 0) : S' = S := by
  rcases q with ⟨-, -, rfl⟩ | ⟨k, hk, -, ⟨-, -, rfl⟩ | ⟨-, z, l1, l2, -, ⟨-, -, rfl⟩ | ⟨-, ⟨-, -, rfl⟩ | ⟨-, rfl, -⟩⟩⟩⟩
  · rfl
  · rfl
  · rfl
  · rfl
  · exact n_pos (by have := pri_le (L := l1 ++ l2) hI.1; omega) hr
theorem e_hear (hI : InvX eM S N K B) (q : hearQ bM eM S N K r S') (hr : r < 0) : S' = S := by
  rcases q with ⟨-, -, rfl⟩ | ⟨i, h0, d, -, hi, -, -, hh, hd, rfl, -⟩
  · rfl
  · obtain ⟨pu, h1, h2⟩ := hI.2.2.2.2.1
    have := le_sumN (f := pu) hd
    have hB := hI.2.2.2.2.2
    obtain ⟨p, hp, e⟩ := payI_p (due := dueI S i) (u := pu d) (by omega)
    rw [h1 d hd, e] at hr
    exact n_pos (by omega) hr
end EXT
