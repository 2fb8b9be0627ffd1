/-! A ROUTE WITHOUT DIGGING IS ONE WITH DIGGING TOO; the ends of isRoute -/
def rch (tw : Nat → Option Nat) (J : Nat → Bool) : Nat → Nat → Prop
  | 0, c => J c = true
  | f + 1, c => J c = true ∨ ∃ k, k < 3 ∧ ∃ t, nb k c = some t ∧ tw t ≠ none ∧ rch tw J f t
section RCH
variable {vc : Nat} {tw tw' : Nat → Option Nat} {J J' : Nat → Bool}
theorem rch_0 {c : Nat} (h : J c = true) : ∀ f, rch tw J f c
  | 0 => h
  | _ + 1 => Or.inl h
theorem rch_of (hv : 1 ≤ vc) : ∀ (n c : Nat), c < 162 → tw c ≠ none → dcl tw (dS vc tw J) c < 1000000 → dcl tw (dS vc tw J) c < n → ∃ f, rch tw J f c
  | 0, _, _, _, _, h => absurd h (Nat.not_lt_zero _)
  | n + 1, c, hc, ho, hi, hn => by
    have hs := dS_sol hv tw J
    by_cases hJ : J c = true
    · exact ⟨0, hJ⟩
    · obtain ⟨k, hk, t, w, h1, h2, h3⟩ := hs.2.2.2 c hc ho hJ (by rw [dcl_eq ho] at hi; exact hi)
      have hto : tw t ≠ none := by rw [h2]; exact Option.some_ne_none _
      have p1 := mv_pos (k := k) (c := c) hv
      rw [dcl_eq ho] at hi hn
      obtain ⟨f, hf⟩ := rch_of hv n t (nb_lt hc h1) hto (by rw [dcl_eq hto]; omega) (by rw [dcl_eq hto]; omega)
      exact ⟨f + 1, Or.inr ⟨k, hk, t, h1, hto, hf⟩⟩
theorem of_rch (hv : 1 ≤ vc ∧ vc ≤ 20) (hw : ∀ c w, tw c = some w → w ≤ 59) : ∀ (f c : Nat), c < 162 → tw c ≠ none → rch tw J f c → dcl tw (dS vc tw J) c < 1000000
  | f, c, hc, ho, h => by
    have hs := dS_sol hv.1 tw J
    by_cases hJ : J c = true
    · rw [dcl_eq ho, hs.2.1 c hc hJ]
      decide
    · cases f with
      | zero => exact absurd h hJ
      | succ f =>
        rcases h with h | ⟨k, hk, t, h1, h2, h3⟩
        · exact absurd h hJ
        · have ht := nb_lt hc h1
          have ih := of_rch hv hw f t ht h2 h3
          rw [dcl_eq h2] at ih
          have hb := hs.bound hv hw _ t ht h2 (Nat.lt_succ_self _) ih
          have hr := rank_le (d := dS vc tw J) ht
          cases hwt : tw t with
          | none => exact absurd hwt h2
          | some w =>
            have p2 := mv_le (k := k) (c := c) hv.2
            have p3 := hw t w hwt
            have := hs.2.2.1 c hc ho hJ k hk t h1 w hwt
            rw [dcl_eq ho]
            omega
theorem rch_up {f c : Nat} (h : rch tw J f c) : rch tw J (f + 1) c := by
  induction f generalizing c with
  | zero => exact Or.inl h
  | succ f ih =>
    rcases h with h | ⟨k, hk, t, h1, h2, h3⟩
    · exact Or.inl h
    · exact Or.inr ⟨k, hk, t, h1, h2, ih h3⟩
theorem rch_mono (ht : ∀ t, t < 162 → tw t ≠ none → tw' t ≠ none) (hJ : ∀ x, x < 162 → J x = true → ∃ f, rch tw' J' f x) : ∀ (f c : Nat), c < 162 → rch tw J f c → ∃ f', rch tw' J' f' c
  | 0, c, hc, h => hJ c hc h
  | f + 1, c, hc, h => by
    rcases h with h | ⟨k, hk, t, h1, h2, h3⟩
    · exact hJ c hc h
    · obtain ⟨f', hf⟩ := rch_mono ht hJ f t (nb_lt hc h1) h3
      exact ⟨f' + 1, Or.inr ⟨k, hk, t, h1, ht t (nb_lt hc h1) h2, hf⟩⟩
theorem PL_rch {D : Nat → Nat} : ∀ {l : List Nat}, PL vc tw J D l → ∀ x, x ∈ l → ∃ f, rch tw J f x
  | [], h, _, _ => absurd h id
  | [c], h, x, hx => ⟨0, by rw [List.mem_singleton.mp hx]; exact h.2.1⟩
  | c :: t :: r, h, x, hx => by
    obtain ⟨hc, hJ, ⟨k, hk, hnb, w, hw, -⟩, hP⟩ := h
    rcases List.mem_cons.mp hx with rfl | hx
    · obtain ⟨f, hf⟩ := PL_rch hP t List.mem_cons_self
      exact ⟨f + 1, Or.inr ⟨k, hk, t, hnb, by rw [hw]; exact Option.some_ne_none _, hf⟩⟩
    · exact PL_rch hP x hx
theorem startO_ne {D : Nat → Nat} {p s : Nat} (hs : s = p ∨ s = p + 81) (h : D s < 1000000) : ∃ s', startO D p = some s' := by
  unfold startO
  split
  · rw [if_pos (by rcases hs with rfl | rfl <;> omega)]
    exact ⟨_, rfl⟩
  · rw [if_pos (by rcases hs with rfl | rfl <;> omega)]
    exact ⟨_, rfl⟩
end RCH
section RDIG
variable {X : Nat → Int32} {N K n : Nat}
theorem tw_dig {t : Nat} (h : twX eC X N n false t ≠ none) : twX eC X N n true t ≠ none := by
  intro e
  refine h ?_
  unfold twX twE at e ⊢
  split
  · rfl
  · rename_i h1
    rw [if_neg h1] at e
    split
    · rename_i h2
      rw [if_pos h2] at e
      cases e
    · rfl
theorem tw_59 (hG : GdX eC X N K) {dg : Bool} : ∀ c w, twX eC X N n dg c = some w → w ≤ 59 := twE_le hG.pr.2 (fun k hk => (hG.net hk).st.2)
theorem rt_dig (hG : GdX eC X N K) (hn : n < N) (hnw : ∀ a, a < 162 → X (7 + a) ≠ nI n) {z : Nat} {l1 l2 : List Nat} (h : rtX eC X N n false = some (z, l1, l2)) : ∃ z' a b, rtX eC X N n true = some (z', a, b) := by
  have hv := hG.vc.2
  have hokF := rtX_ok hG hn h
  have hp1 := (hG.net hn).p1
  have hp0 := (hG.net hn).p0
  have hpair := (hG.net hn).2.2.2.2.2.2
  have hN := hG.2.1
  have hpinop : ∀ (dg : Bool) t, t < 162 → X (7 + t) = nI (10 + n) → twX eC X N n dg t ≠ none := fun dg t ht e => twE_own ht e
  unfold rtX at h ⊢
  cases hs : startO (dcl (twX eC X N n false) (dS (vcX X) (twX eC X N n false) (jn0 (p0X X n)))) (p1X X n) with
  | none => rw [rtP_none1 (tw := twX eC X N n false) rfl hs] at h; cases h
  | some s1 =>
    obtain ⟨a1, a2, a3, a4, a5⟩ := PL_start hv.1 hp1.2.1 hs
    have ho1 : twX eC X N n true s1 ≠ none := tw_dig a4
    obtain ⟨f, hf⟩ := rch_of hv.1 _ s1 a1 a4 a3 (Nat.lt_succ_self _)
    obtain ⟨f', hf'⟩ := rch_mono (tw' := twX eC X N n true) (J' := jn0 (p0X X n)) (fun t _ => tw_dig) (fun x _ hx => ⟨0, hx⟩) f s1 a1 hf
    obtain ⟨s1', hs1'⟩ := startO_ne (D := dcl (twX eC X N n true) (dS (vcX X) (twX eC X N n true) (jn0 (p0X X n)))) (p := p1X X n) (s := s1) (by omega) (of_rch hv (tw_59 hG) f' s1 a1 ho1 hf')
    cases hp2 : p2X X n with
    | none => exact ⟨_, _, _, rtP_one (tw := twX eC X N n true) rfl hs1'⟩
    | some p2 =>
      rw [hp2] at h
      have hpp := (hG.net hn).p2.2 p2 hp2
      cases hs2 : startO (dcl (tw0 (twX eC X N n false) (pthL (vcX X) (twX eC X N n false) (jn0 (p0X X n)) (dcl (twX eC X N n false) (dS (vcX X) (twX eC X N n false) (jn0 (p0X X n)))) 161 s1)) (dS (vcX X) (tw0 (twX eC X N n false) (pthL (vcX X) (twX eC X N n false) (jn0 (p0X X n)) (dcl (twX eC X N n false) (dS (vcX X) (twX eC X N n false) (jn0 (p0X X n)))) 161 s1)) (joinL X (eC.2.2 n) (jn0 (p0X X n)) (pthL (vcX X) (twX eC X N n false) (jn0 (p0X X n)) (dcl (twX eC X N n false) (dS (vcX X) (twX eC X N n false) (jn0 (p0X X n)))) 161 s1)))) p2 with
      | none => rw [rtP_none2 (tw := twX eC X N n false) rfl hs rfl rfl rfl hs2] at h; cases h
      | some s2 =>
        obtain ⟨lF, hlF⟩ : ∃ l, l = pthL (vcX X) (twX eC X N n false) (jn0 (p0X X n)) (dcl (twX eC X N n false) (dS (vcX X) (twX eC X N n false) (jn0 (p0X X n)))) 161 s1 := ⟨_, rfl⟩
        obtain ⟨lT, hlT⟩ : ∃ l, l = pthL (vcX X) (twX eC X N n true) (jn0 (p0X X n)) (dcl (twX eC X N n true) (dS (vcX X) (twX eC X N n true) (jn0 (p0X X n)))) 161 s1' := ⟨_, rfl⟩
        rw [← hlF] at hs2 a5
        obtain ⟨b1, b2, b3, b4, -⟩ := PL_start hv.1 hpp.1 hs2
        have hlFo : ∀ b, b ∈ lF → twX eC X N n false b ≠ none := fun b hb => by rw [hlF] at hb; exact pth_opn 161 s1 b a4 hb
        have hlFl : ∀ b, b ∈ lF → b < 162 := fun b hb => by rw [hlF] at hb; exact pth_lt 161 s1 a1 b hb
        obtain ⟨ns, twT, hns, htwT⟩ : ∃ (ns : Nat → Bool) (twT : Nat → Option Nat), ns = joinL X (eC.2.2 n) (jn0 (p0X X n)) lT ∧ twT = tw0 (twX eC X N n true) lT := ⟨_, _, rfl, rfl⟩
        have hopT : ∀ t, twX eC X N n true t ≠ none → twT t ≠ none := fun t ht => by
          rw [htwT]
          unfold tw0
          split
          · exact Option.some_ne_none _
          · exact ht
        have hJ0 : ∀ x, jn0 (p0X X n) x = true → ns x = true := fun x hx => by rw [hns]; exact joinL_iff.mpr (Or.inl hx)
        have hpath : ∀ x, x ∈ lF → ∃ f, rch twT ns f x := fun x hx => by
          obtain ⟨f, hf⟩ := PL_rch a5 x hx
          exact rch_mono (fun t _ q => hopT t (tw_dig q)) (fun y _ hy => ⟨0, hJ0 y hy⟩) f x (hlFl x hx) hf
        obtain ⟨f2, hf2⟩ := rch_of hv.1 _ s2 b1 b4 b3 (Nat.lt_succ_self _)
        have hop2 : ∀ t, t < 162 → tw0 (twX eC X N n false) lF t ≠ none → twT t ≠ none := fun t _ q => hopT t (tw_dig (tw0_opn hlFo q))
        obtain ⟨f3, hf3⟩ := rch_mono hop2 (fun x hx hj => by
          rcases joinL_iff.mp hj with e | e | ⟨a, e1, e2, e3⟩
          · exact ⟨0, hJ0 x e⟩
          · exact hpath x e
          · obtain ⟨f, hf⟩ := hpath a e1
            have ha := hlFl a e1
            by_cases hxa : x = a
            · rw [hxa]; exact ⟨f, hf⟩
            · have hao : twT a ≠ none := hopT a (hpinop true a ha e2)
              by_cases h81 : x < 81
              · refine ⟨f + 1, Or.inr ⟨2, by decide, a, ?_, hao, hf⟩⟩
                unfold nb
                rw [if_pos h81, if_neg (by decide), if_neg (by decide)]
                congr 1
                omega
              · refine ⟨f + 1, Or.inr ⟨0, by decide, a, ?_, hao, hf⟩⟩
                unfold nb
                rw [if_neg h81, if_pos rfl]
                congr 1
                omega) f2 s2 b1 hf2
        have hw59 : ∀ c w, twT c = some w → w ≤ 59 := by rw [htwT]; exact tw0_le (tw_59 hG)
        obtain ⟨s2', hs2'⟩ := startO_ne (D := dcl twT (dS (vcX X) twT ns)) (p := p2) (s := s2) (by omega) (of_rch hv hw59 f3 s2 b1 (hop2 s2 b1 b4) hf3)
        exact ⟨_, _, _, rtP_two (tw := twX eC X N n true) rfl hs1' hlT htwT hns hs2'⟩
theorem rt_z (hG : GdX eC X N K) (hn : n < N) (hnw : ∀ a, a < 162 → X (7 + a) ≠ nI n) {dg : Bool} {z : Nat} {l1 l2 : List Nat} (h : rtX eC X N n dg = some (z, l1, l2)) : z < 2 ^ 30 := by
  obtain ⟨D1, c1, ⟨-, -, ⟨c, r, e, -, -, e2⟩, -⟩, hh, h3⟩ := rt_stages hG hn hnw h
  rw [e] at hh
  obtain rfl : c = c1 := Option.some.inj hh
  rcases h3 with ⟨-, -, e3⟩ | ⟨p2, D2, c2, -, -, ⟨-, -, ⟨c', r', e', -, -, e4⟩, -⟩, hh2, e5⟩
  · omega
  · rw [e'] at hh2
    obtain rfl : c' = c2 := Option.some.inj hh2
    omega
/-- a route's question where there is none -/
theorem ra_err {b j : Nat} {r c : Int32} (hN : N ≤ 6) (hn : n < N) (hb : b < 2) (hj : j < 2 ^ 31) (hc : (¬ X (169 + 9 * n + 5) = 0 ∧ c = -1000002) ∨ (X (169 + 9 * n + 5) = 0 ∧ rtX eC X N n (decide (b = 1)) = none ∧ c = -1000004)) (h : (nI j < 0 ∧ r = -1000001) ∨ ∃ i, i < 2 ^ 31 ∧ nI j = nI i ∧ rtQ eC X N (nI n) (nI b) (fun _ L => atL L i) r) : r = c := by
  rcases h with ⟨e, -⟩ | ⟨i, h1, h2, h3⟩
  · exact absurd e (nI_pos hj)
  · rcases rt_at hN hn hb h3 with ⟨e, e2⟩ | ⟨e, ⟨e1, e2⟩ | ⟨z', a, d, e1, e2⟩⟩
    · rcases hc with ⟨-, q⟩ | ⟨q, -⟩
      · rw [e2, q]
      · exact absurd q e
    · rcases hc with ⟨q, -⟩ | ⟨-, -, q⟩
      · exact absurd e q
      · rw [e2, q]
    · rcases hc with ⟨q, -⟩ | ⟨-, q, -⟩
      · exact absurd e q
      · rw [q] at e1; cases e1
theorem MkI_init {p : Nat} (hp : p < 81) : MkI (updN (updN (fun _ => 0) p 1) (81 + p) 1) (jn0 p) [] := by
  refine ⟨updN_le (updN_le (fun _ => Nat.zero_le _) (by decide)) (by decide), fun x hx => ?_⟩
  rw [jn0_iff]
  unfold updN
  by_cases e : x = 81 + p
  · rw [if_pos e]
    exact ⟨⟨fun _ => Or.inr (by omega), fun _ => rfl⟩, ⟨fun q => (by cases q), fun q => (by cases q)⟩⟩
  · rw [if_neg e]
    by_cases e2 : x = p
    · rw [if_pos e2]
      exact ⟨⟨fun _ => Or.inl e2, fun _ => rfl⟩, ⟨fun q => (by cases q), fun q => (by cases q)⟩⟩
    · rw [if_neg e2]
      exact ⟨⟨fun q => (by cases q), fun q => by omega⟩, ⟨fun q => (by cases q), fun q => (by cases q)⟩⟩
theorem MkI_2 (hG : GdX eC X N K) (hPin : PinV eC X N) (hn : n < N) {l : List Nat} {m : Nat → Nat} (hl : ∀ a, a ∈ l → a < 162) (h1 : ∀ x, m x ≤ 2) (h2 : ∀ x, x < 162 → (m x = 1 ↔ JN X n (jn0 (p0X X n)) l x) ∧ m x ≠ 2) : MkI m (joinL X (nI (10 + n)) (jn0 (p0X X n)) l) [] := ⟨h1, fun x hx => ⟨(h2 x hx).1.trans (JN_joinL hG hPin hn hl hx), ⟨fun q => absurd q (h2 x hx).2, fun q => (by cases q)⟩⟩⟩
theorem fNet2_no (hG : GdX eC X N K) (hn : n < N) (h : p2X X n = none) : fNet eC X n 2 = -1000004 := by
  have := (hG.net hn).p2.1
  rw [h] at this
  exact if_pos this
theorem fNet2_yes (hG : GdX eC X N K) (hn : n < N) {p : Nat} (h : p2X X n = some p) : fNet eC X n 2 = nI p := by
  have h1 := (hG.net hn).p2.1
  have h2 := ((hG.net hn).p2.2 p h).1
  rw [h] at h1
  have h1 : X (169 + 9 * n + 2) = nI p := h1
  show (if X (169 + 9 * n + 2) = -1 then (-1000004 : Int32) else X (169 + 9 * n + 2)) = nI p
  rw [if_neg (by rw [h1]; exact fun q => m1_ne (by omega) q.symm), h1]
theorem pri_0 (hG : GdX eC X N K) (hn : n < N) {z : Nat} {l1 l2 : List Nat} (h : rtX eC X N n false = some (z, l1, l2)) : priE eC X N (l1 ++ l2) = 0 := by
  have hok := rtX_ok hG hn h
  have hN := hG.2.1
  refine sumN_0 (fun k hk => ?_)
  unfold dueE thrE
  rw [cnt_zero (fun a ha => ?_), Nat.zero_mul]
  simp only [decide_eq_false_iff_not]
  rintro ⟨h1, h2⟩
  have h3 := (hok.2.2.2.2 a h1).2
  refine h3 ?_
  show twE eC X N n false (prX X) (stX X) a = none
  unfold twE
  have h2 : X (7 + a) = nI k := h2
  rw [if_neg (by omega), if_neg, if_neg (by decide)]
  rintro (e | e)
  · have e : X (7 + a) = -1 := e
    rw [h2] at e
    exact m1_ne (by omega) e.symm
  · have e : X (7 + a) = nI (10 + n) := e
    rw [h2] at e
    have := (nI_eq (by omega) (by omega)).mp e
    omega
end RDIG
theorem pri_lt {X : Nat → Int32} {N K : Nat} {L : List Nat} (hG : GdX eC X N K) : priE eC X N L < 2 ^ 31 := by
  have := pri_le (L := L) hG
  omega
