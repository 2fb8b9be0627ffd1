/-! PURE: the queue's way to the distances -/
def updN (f : Nat → Nat) (k v : Nat) : Nat → Nat := fun j => if j = k then v else f j
theorem cnt_upd1 {p q : Nat → Bool} {a : Nat} : ∀ {n : Nat}, a < n → p a = false → q a = true → (∀ k, k < n → k ≠ a → p k = q k) → cnt q n = cnt p n + 1
  | 0, h, _, _, _ => absurd h (Nat.not_lt_zero a)
  | n + 1, ha, hp, hq, h => by
    unfold cnt
    by_cases e : a = n
    · subst e
      rw [cnt_congr (p := q) (q := p) (fun k hk => (h k (by omega) (by omega)).symm), hp, hq]; rfl
    · rw [cnt_upd1 (n := n) (by omega) hp hq (fun k hk => h k (by omega)), h n (by omega) (fun e2 => e e2.symm)]; omega
theorem cnt_mem {n : Nat} : ∀ {q : List Nat}, q.Nodup → (∀ a, a ∈ q → a < n) → cnt (fun a => decide (a ∈ q)) n = q.length
  | [], _, _ => cnt_zero (fun k _ => by simp)
  | x :: q, hd, hl => by
    have hd := List.nodup_cons.mp hd
    have ih := cnt_mem (n := n) (q := q) hd.2 (fun a ha => hl a (List.mem_cons_of_mem _ ha))
    rw [cnt_upd1 (p := fun a => decide (a ∈ q)) (a := x) (hl x List.mem_cons_self) (by simp [hd.1]) (by simp) (fun k _ hk => by simp [hk]), ih]
    rfl
theorem nodup_len {n : Nat} {q : List Nat} (h : q.Nodup) (hl : ∀ a, a ∈ q → a < n) : q.length ≤ n := by
  rw [← cnt_mem h hl]; exact cnt_le _ _
def offr (tw : Nat → Option Nat) (D : Nat → Nat) (q : List Nat) (t : Option Nat) (x : Nat) : (Nat → Nat) × List Nat :=
  match t with
  | none => (D, q)
  | some t => if tw t = none ∨ D t ≤ x then (D, q) else (updN D t x, if t ∈ q then q else q ++ [t])
def stp (vc : Nat) (tw : Nat → Option Nat) (D : Nat → Nat) (u : Nat) (q : List Nat) : (Nat → Nat) × List Nat :=
  let x := D u + (tw u).getD 0
  let s1 := offr tw D q (nb 0 u) (x + mv vc 0 u)
  let s2 := offr tw s1.1 s1.2 (nb 1 u) (x + mv vc 1 u)
  offr tw s2.1 s2.2 (nb 2 u) (x + mv vc 2 u)
/-- what holds of distances and queue; a cell u alone may not have told its neighbours -/
def SI (vc : Nat) (tw : Nat → Option Nat) (J : Nat → Prop) (ds D : Nat → Nat) (q : List Nat) (ex : Nat → Prop) : Prop :=
  (∀ c, c < 162 → D c ≤ 1000000) ∧ (∀ c, c < 162 → J c → D c = 0) ∧ (∀ c, c < 162 → tw c = none → D c = 1000000) ∧ (∀ c, c < 162 → tw c ≠ none → ds c ≤ D c) ∧ (∀ a, a ∈ q → a < 162 ∧ tw a ≠ none ∧ D a < 1000000) ∧ q.Nodup ∧
  (∀ u, u < 162 → u ∉ q → ¬ ex u → ∀ w, tw u = some w → D u < 1000000 → ∀ k, k < 3 → ∀ t, nb k u = some t → tw t ≠ none → D t ≤ mv vc k u + w + D u)
theorem nb_ne {k c : Nat} (hc : c < 162) (h : nb k c = some c) : False := by
  unfold nb at h
  split at h
  · split at h
    · split at h <;> simp at h; omega
    · split at h
      · split at h <;> simp at h
      · simp at h
  · split at h
    · simp at h; omega
    · split at h
      · split at h <;> simp at h; omega
      · split at h <;> simp at h
theorem SI_offr {vc : Nat} {tw : Nat → Option Nat} {J : Nat → Prop} {ds D : Nat → Nat} {q : List Nat} {u k w : Nat} (hS : Sol 1000000 vc tw J ds) (hu : u < 162) (hk : k < 3) (hw : tw u = some w) (hq : u ∉ q) (hJ : ∀ c, J c → tw c ≠ none) (h : SI vc tw J ds D q (fun v => v = u)) (hD : D u < 1000000) {x : Nat} (hx : x = D u + w + mv vc k u) :
    SI vc tw J ds (offr tw D q (nb k u) x).1 (offr tw D q (nb k u) x).2 (fun v => v = u) ∧ (offr tw D q (nb k u) x).1 u = D u ∧ u ∉ (offr tw D q (nb k u) x).2 ∧ (∀ c, (offr tw D q (nb k u) x).1 c ≤ D c) ∧ (∀ t, nb k u = some t → tw t ≠ none → (offr tw D q (nb k u) x).1 t ≤ x) := by
  unfold offr
  cases ht : nb k u with
  | none => exact ⟨h, rfl, hq, fun _ => Nat.le_refl _, fun t e => by cases e⟩
  | some t =>
    have htl := nb_lt hu ht
    have htu : t ≠ u := fun e => by subst e; exact nb_ne hu ht
    dsimp only
    by_cases hcd : tw t = none ∨ D t ≤ x
    · rw [if_pos hcd]
      refine ⟨h, rfl, hq, fun _ => Nat.le_refl _, fun t' e ho => ?_⟩
      cases e
      rcases hcd with hc | hc
      · exact absurd hc ho
      · exact hc
    · rw [if_neg hcd]
      have ho : tw t ≠ none := fun e => hcd (Or.inl e)
      have hlt : x < D t := Nat.lt_of_not_le (fun e => hcd (Or.inr e))
      obtain ⟨h1, h2, h3, h4, h5, h6, h7⟩ := h
      have hle : ∀ c, updN D t x c ≤ D c := fun c => by unfold updN; split <;> rename_i e; (try subst e); all_goals omega
      have hne : ∀ c, c ≠ t → updN D t x c = D c := fun c hc => if_neg hc
      have hself : updN D t x t = x := if_pos rfl
      have htq : t ∈ (if t ∈ q then q else q ++ [t]) := by
        split
        · assumption
        · exact List.mem_append_right _ (List.mem_singleton.mpr rfl)
      have hqq : ∀ a, a ∈ (if t ∈ q then q else q ++ [t]) → a ∈ q ∨ a = t := by
        intro a ha
        split at ha
        · exact Or.inl ha
        · rcases List.mem_append.mp ha with h | h
          · exact Or.inl h
          · exact Or.inr (List.mem_singleton.mp h)
      have hqi : ∀ a, a ∈ q → a ∈ (if t ∈ q then q else q ++ [t]) := by
        intro a ha
        split
        · exact ha
        · exact List.mem_append_left _ ha
      show SI vc tw J ds (updN D t x) (if t ∈ q then q else q ++ [t]) (fun v => v = u) ∧ updN D t x u = D u ∧ u ∉ (if t ∈ q then q else q ++ [t]) ∧ (∀ c, updN D t x c ≤ D c) ∧ (∀ t', some t = some t' → tw t' ≠ none → updN D t x t' ≤ x)
      refine ⟨⟨fun c hc => Nat.le_trans (hle c) (h1 c hc), fun c hc hj => ?_, fun c hc hn => ?_, fun c hc hn => ?_, fun a ha => ?_, ?_, fun v hv hvq hvu w' hw' hDv k' hk' t' ht' ho' => ?_⟩, hne u htu.symm, fun ha => ?_, hle, fun t' e _ => ?_⟩
      · have := hle c; have := h2 c hc hj; omega
      · by_cases e : c = t
        · subst e; exact absurd hn ho
        · rw [hne c e]; exact h3 c hc hn
      · by_cases e : c = t
        · subst e
          rw [hself]
          by_cases hj : J c
          · rw [hS.2.1 c hc hj]; exact Nat.zero_le _
          · obtain ⟨k', hk', e1, e2⟩ := nb_sym hu hk ht
            have g1 := hS.2.2.1 c hc hn hj k' hk' u e1 w hw
            have g2 := h4 u hu (by rw [hw]; exact Option.some_ne_none _)
            rw [e2 vc] at g1
            omega
        · rw [hne c e]; exact h4 c hc hn
      · rcases hqq a ha with h | h
        · obtain ⟨g1, g2, g3⟩ := h5 a h
          exact ⟨g1, g2, Nat.lt_of_le_of_lt (hle a) g3⟩
        · subst h
          exact ⟨htl, ho, by rw [hself]; have := h1 a htl; omega⟩
      · split
        · exact h6
        · rename_i hnt
          exact List.nodup_append.mpr ⟨h6, List.nodup_cons.mpr ⟨List.not_mem_nil, List.nodup_nil⟩, fun a ha b hb e => by rw [List.mem_singleton.mp hb] at e; subst e; exact hnt ha⟩
      · have hvt : v ≠ t := fun e => hvq (by rw [e]; exact htq)
        rw [hne v hvt] at hDv ⊢
        have := h7 v hv (fun e => hvq (hqi v e)) hvu w' hw' hDv k' hk' t' ht' ho'
        have := hle t'
        omega
      · rcases hqq u ha with h | h
        · exact hq h
        · exact htu h.symm
      · cases e; rw [hself]; exact Nat.le_refl _
theorem SI_stp {vc : Nat} {tw : Nat → Option Nat} {J : Nat → Prop} {ds D : Nat → Nat} {q : List Nat} {u : Nat} (hS : Sol 1000000 vc tw J ds) (hJ : ∀ c, J c → tw c ≠ none) (h : SI vc tw J ds D (u :: q) (fun _ => False)) :
    SI vc tw J ds (stp vc tw D u q).1 (stp vc tw D u q).2 (fun _ => False) ∧ (∀ c, (stp vc tw D u q).1 c ≤ D c) ∧ (stp vc tw D u q).1 u = D u ∧ (∀ k, k < 3 → ∀ t w, nb k u = some t → tw t ≠ none → tw u = some w → (stp vc tw D u q).1 t ≤ D u + w + mv vc k u) := by
  obtain ⟨h1, h2, h3, h4, h5, h6, h7⟩ := h
  have hd := List.nodup_cons.mp h6
  obtain ⟨hu, ho, hDu⟩ := h5 u List.mem_cons_self
  obtain ⟨w, hw⟩ := Option.ne_none_iff_exists'.mp ho
  have i0 : SI vc tw J ds D q (fun v => v = u) := ⟨h1, h2, h3, h4, fun a ha => h5 a (List.mem_cons_of_mem _ ha), hd.2, fun v hv hvq hvu => h7 v hv (fun e => by rcases List.mem_cons.mp e with e | e; exact hvu e; exact hvq e) (fun e => e)⟩
  unfold stp
  rw [hw]
  dsimp only [Option.getD]
  obtain ⟨j1, u1, n1, l1, t1⟩ := SI_offr (k := 0) hS hu (by decide) hw hd.1 hJ i0 hDu (x := D u + w + mv vc 0 u) rfl
  generalize offr tw D q (nb 0 u) (D u + w + mv vc 0 u) = s1 at j1 u1 n1 l1 t1 ⊢
  obtain ⟨j2, u2, n2, l2, t2⟩ := SI_offr (k := 1) hS hu (by decide) hw n1 hJ j1 (by rw [u1]; exact hDu) (x := D u + w + mv vc 1 u) (by rw [u1])
  generalize offr tw s1.1 s1.2 (nb 1 u) (D u + w + mv vc 1 u) = s2 at j2 u2 n2 l2 t2 ⊢
  obtain ⟨j3, u3, n3, l3, t3⟩ := SI_offr (k := 2) hS hu (by decide) hw n2 hJ j2 (by rw [u2, u1]; exact hDu) (x := D u + w + mv vc 2 u) (by rw [u2, u1])
  generalize offr tw s2.1 s2.2 (nb 2 u) (D u + w + mv vc 2 u) = s3 at j3 u3 n3 l3 t3 ⊢
  have e3 : s3.1 u = D u := by rw [u3, u2, u1]
  have told : ∀ k, k < 3 → ∀ t, nb k u = some t → tw t ≠ none → s3.1 t ≤ D u + w + mv vc k u := by
    intro k hk t ht ho'
    rcases (show k = 0 ∨ k = 1 ∨ k = 2 by omega) with rfl | rfl | rfl
    · have := t1 t ht ho'; have := l2 t; have := l3 t; omega
    · have := t2 t ht ho'; have := l3 t; omega
    · exact t3 t ht ho'
  refine ⟨⟨j3.1, j3.2.1, j3.2.2.1, j3.2.2.2.1, j3.2.2.2.2.1, j3.2.2.2.2.2.1, fun v hv hvq _ w' hw' hDv k hk t ht ho' => ?_⟩, fun c => Nat.le_trans (l3 c) (Nat.le_trans (l2 c) (l1 c)), e3, fun k hk t w' ht ho' hw' => ?_⟩
  · by_cases e : v = u
    · subst e
      rw [hw] at hw'
      cases hw'
      rw [e3]
      have := told k hk t ht ho'
      omega
    · exact j3.2.2.2.2.2.2 v hv hvq e w' hw' hDv k hk t ht ho'
  · cases hw'; exact told k hk t ht ho'
/-- how many cells aren't final -/
def nf (tw : Nat → Option Nat) (ds D : Nat → Nat) : Nat := cnt (fun c => decide (tw c ≠ none ∧ D c ≠ ds c)) 162
def Tgt (vc : Nat) (tw : Nat → Option Nat) (J : Nat → Prop) (ds D : Nat → Nat) (q : List Nat) : Prop := ∃ v u k w, v < 162 ∧ k < 3 ∧ u ∈ q ∧ nb k v = some u ∧ tw v ≠ none ∧ ¬ J v ∧ D v ≠ ds v ∧ D u = ds u ∧ tw u = some w ∧ ds v = mv vc k v + w + ds u
def Bd (vc : Nat) (tw : Nat → Option Nat) (J : Nat → Prop) (ds D : Nat → Nat) (q : List Nat) (n : Nat) : Prop := ∃ q1 q2, q = q1 ++ q2 ∧ ((nf tw ds D = 0 ∧ q2 = [] ∧ q1.length ≤ n) ∨ ∃ m, q1.length + 162 * (m + 1) ≤ n ∧ (nf tw ds D ≤ m ∨ (nf tw ds D ≤ m + 1 ∧ Tgt vc tw J ds D q1)))
theorem Tgt_ex {vc : Nat} {tw : Nat → Option Nat} {J : Nat → Prop} {ds D : Nat → Nat} {q : List Nat} (hS : Sol 1000000 vc tw J ds) (hv : 1 ≤ vc) (h : SI vc tw J ds D q (fun _ => False)) (hn : 0 < nf tw ds D) : Tgt vc tw J ds D q := by
  have hx : ∃ m c, c < 162 ∧ tw c ≠ none ∧ D c ≠ ds c ∧ ds c = m := by
    by_cases e : ∃ c, c < 162 ∧ tw c ≠ none ∧ D c ≠ ds c
    · obtain ⟨c, e1, e2, e3⟩ := e; exact ⟨_, c, e1, e2, e3, rfl⟩
    · exact absurd hn (by
        rw [show nf tw ds D = 0 from cnt_zero (fun k hk => by simp only [decide_eq_false_iff_not]; exact fun q => e ⟨k, hk, q.1, q.2⟩)]; exact Nat.lt_irrefl 0)
  obtain ⟨m, ⟨v, v1, v2, v3, rfl⟩, hmin⟩ := pk_least _ hx
  obtain ⟨h1, h2, h3, h4, h5, h6, h7⟩ := h
  have g1 := h4 v v1 v2
  have g2 := h1 v v1
  have hJ : ¬ J v := fun hj => v3 (by rw [h2 v v1 hj, hS.2.1 v v1 hj])
  obtain ⟨k, hk, u, w, e1, e2, e3⟩ := hS.2.2.2 v v1 v2 hJ (by omega)
  have p1 := mv_pos (k := k) (c := v) hv
  have hu := nb_lt v1 e1
  have huf : D u = ds u := by
    refine Classical.byContradiction (fun q => hmin (ds u) (by omega) ⟨u, hu, by rw [e2]; exact Option.some_ne_none _, q, rfl⟩)
  refine ⟨v, u, k, w, v1, hk, ?_, e1, v2, hJ, v3, huf, e2, e3⟩
  refine Classical.byContradiction (fun q => ?_)
  obtain ⟨k', hk', s1, s2⟩ := nb_sym v1 hk e1
  have := h7 u hu q (fun z => z) w e2 (by omega) k' hk' v s1 v2
  rw [s2 vc] at this
  omega
theorem nf_le {tw : Nat → Option Nat} {ds D D' : Nat → Nat} (h4 : ∀ c, c < 162 → tw c ≠ none → ds c ≤ D' c) (hle : ∀ c, D' c ≤ D c) : nf tw ds D' ≤ nf tw ds D := by
  refine cnt_mono (fun k hk hp => ?_)
  simp only [decide_eq_true_eq] at hp ⊢
  exact ⟨hp.1, fun e => hp.2 (by have := h4 k hk hp.1; have := hle k; omega)⟩
theorem nf_lt {tw : Nat → Option Nat} {ds D D' : Nat → Nat} (h4 : ∀ c, c < 162 → tw c ≠ none → ds c ≤ D' c) (hle : ∀ c, D' c ≤ D c) {v : Nat} (hv : v < 162) (ho : tw v ≠ none) (h1 : D v ≠ ds v) (h2 : D' v = ds v) : nf tw ds D' < nf tw ds D := by
  refine cnt_lt (a := v) (fun k hk hp => ?_) hv (by simp [h2]) (by simp [ho, h1])
  simp only [decide_eq_true_eq] at hp ⊢
  exact ⟨hp.1, fun e => hp.2 (by have := h4 k hk hp.1; have := hle k; omega)⟩
theorem Bd_new {vc : Nat} {tw : Nat → Option Nat} {J : Nat → Prop} {ds D : Nat → Nat} {q : List Nat} {n : Nat} (hS : Sol 1000000 vc tw J ds) (hv : 1 ≤ vc) (h : SI vc tw J ds D q (fun _ => False)) (hn : 162 * (nf tw ds D + 1) ≤ n) : Bd vc tw J ds D q n := by
  have hl := nodup_len h.2.2.2.2.2.1 (fun a ha => (h.2.2.2.2.1 a ha).1)
  refine ⟨q, [], (List.append_nil q).symm, ?_⟩
  by_cases e : nf tw ds D = 0
  · exact Or.inl ⟨e, rfl, by omega⟩
  · refine Or.inr ⟨nf tw ds D - 1, ?_, Or.inr ⟨by omega, Tgt_ex hS hv h (by omega)⟩⟩
    rw [show nf tw ds D - 1 + 1 = nf tw ds D by omega]
    omega
/-- nothing told, nothing pushed, where all is final -/
theorem stp_final {vc : Nat} {tw : Nat → Option Nat} {J : Nat → Prop} {ds D : Nat → Nat} {q : List Nat} {u : Nat} (hS : Sol 1000000 vc tw J ds) (hJ : ∀ c, J c → tw c ≠ none) (h : SI vc tw J ds D (u :: q) (fun _ => False)) (hf : nf tw ds D = 0) : (stp vc tw D u q).2 = q := by
  have hall : ∀ c, c < 162 → tw c ≠ none → D c = ds c := fun c hc ho => Classical.byContradiction (fun e => by
    have := cnt_pos (p := fun c => decide (tw c ≠ none ∧ D c ≠ ds c)) hc (by simp [ho, e])
    unfold nf at hf
    omega)
  obtain ⟨h1, h2, h3, h4, h5, h6, h7⟩ := h
  obtain ⟨hu, ho, hDu⟩ := h5 u List.mem_cons_self
  obtain ⟨w, hw⟩ := Option.ne_none_iff_exists'.mp ho
  have key : ∀ k, k < 3 → ∀ q', offr tw D q' (nb k u) (D u + w + mv vc k u) = (D, q') := by
    intro k hk q'
    unfold offr
    cases ht : nb k u with
    | none => rfl
    | some t =>
      dsimp only
      refine if_pos ?_
      by_cases e : tw t = none
      · exact Or.inl e
      · refine Or.inr ?_
        have htl := nb_lt hu ht
        by_cases hj : J t
        · rw [h2 t htl hj]; exact Nat.zero_le _
        · obtain ⟨k', hk', e1, e2⟩ := nb_sym hu hk ht
          have := hS.2.2.1 t htl e hj k' hk' u e1 w hw
          rw [e2 vc, ← hall u hu ho, ← hall t htl e] at this
          omega
  unfold stp
  rw [hw]
  dsimp only [Option.getD]
  rw [key 0 (by decide), key 1 (by decide), key 2 (by decide)]
theorem Bd_step {vc : Nat} {tw : Nat → Option Nat} {J : Nat → Prop} {ds D : Nat → Nat} {q : List Nat} {u n : Nat} (hS : Sol 1000000 vc tw J ds) (hv : 1 ≤ vc) (hJ : ∀ c, J c → tw c ≠ none) (h : SI vc tw J ds D (u :: q) (fun _ => False)) (hb : Bd vc tw J ds D (u :: q) n) : 1 ≤ n ∧ Bd vc tw J ds (stp vc tw D u q).1 (stp vc tw D u q).2 (n - 1) := by
  obtain ⟨i1, l1, u1, t1⟩ := SI_stp hS hJ h
  have h4 := i1.2.2.2.1
  have hle := nf_le (ds := ds) (tw := tw) h4 l1
  obtain ⟨q1, q2, e, hb⟩ := hb
  -- the queue behind is the old tail, and what was pushed
  have tail : ∀ (D0 : Nat → Nat) (q0 : List Nat) (t : Option Nat) (x : Nat), ∃ z, (offr tw D0 q0 t x).2 = q0 ++ z := by
    intro D0 q0 t x
    unfold offr
    cases t with
    | none => exact ⟨[], (List.append_nil _).symm⟩
    | some t =>
      dsimp only
      split
      · exact ⟨[], (List.append_nil _).symm⟩
      · dsimp only
        split
        · exact ⟨[], (List.append_nil _).symm⟩
        · exact ⟨[t], rfl⟩
  have tl : ∃ z, (stp vc tw D u q).2 = q ++ z := by
    unfold stp
    dsimp only
    obtain ⟨z1, e1⟩ := tail D q (nb 0 u) (D u + (tw u).getD 0 + mv vc 0 u)
    generalize offr tw D q (nb 0 u) (D u + (tw u).getD 0 + mv vc 0 u) = s1 at e1 ⊢
    obtain ⟨z2, e2⟩ := tail s1.1 s1.2 (nb 1 u) (D u + (tw u).getD 0 + mv vc 1 u)
    generalize offr tw s1.1 s1.2 (nb 1 u) (D u + (tw u).getD 0 + mv vc 1 u) = s2 at e2 ⊢
    obtain ⟨z3, e3⟩ := tail s2.1 s2.2 (nb 2 u) (D u + (tw u).getD 0 + mv vc 2 u)
    exact ⟨z1 ++ (z2 ++ z3), by rw [e3, e2, e1, List.append_assoc, List.append_assoc]⟩
  obtain ⟨z, hz⟩ := tl
  cases q1 with
  | cons a q1 =>
    obtain ⟨rfl, rfl⟩ : u = a ∧ q = q1 ++ q2 := by
      have := List.cons.inj e; exact ⟨this.1, this.2⟩
    rcases hb with ⟨b1, rfl, b3⟩ | ⟨m, b1, b2⟩
    · rw [List.length_cons] at b3
      refine ⟨by omega, q1, [], ?_, Or.inl ⟨by omega, rfl, by omega⟩⟩
      rw [stp_final hS hJ h b1]
    · rw [List.length_cons] at b1
      refine ⟨by omega, q1, q2 ++ z, by rw [hz, List.append_assoc], Or.inr ⟨m, by omega, ?_⟩⟩
      rcases b2 with b2 | ⟨b2, v, u', k, w, v1, hk, hu', e1, v2, hJ', v3, huf, e2, e3⟩
      · exact Or.inl (by omega)
      · by_cases hvf : (stp vc tw D u (q1 ++ q2)).1 v = ds v
        · exact Or.inl (by have := nf_lt (ds := ds) (tw := tw) h4 l1 v1 v2 v3 hvf; omega)
        · refine Or.inr ⟨by omega, v, u', k, w, v1, hk, ?_, e1, v2, hJ', hvf, ?_, e2, e3⟩
          · rcases List.mem_cons.mp hu' with e | e
            · exfalso
              subst e
              obtain ⟨k', hk', s1, s2⟩ := nb_sym v1 hk e1
              have g1 := t1 k' hk' v w s1 v2 e2
              have g2 := h4 v v1 v2
              rw [s2 vc] at g1
              omega
            · exact e
          · have g1 := l1 u'
            have g2 := h4 u' (nb_lt v1 e1) (by rw [e2]; exact Option.some_ne_none _)
            omega
  | nil =>
    have e : u :: q = q2 := e
    rcases hb with ⟨b1, rfl, b3⟩ | ⟨m, b1, b2⟩
    · cases e
    · -- a new phase
      have b2 : nf tw ds D ≤ m := by
        rcases b2 with b2 | ⟨-, v, u', k, w, v1, hk, hu', -⟩
        · exact b2
        · cases hu'
      have hl := nodup_len h.2.2.2.2.2.1 (fun a ha => (h.2.2.2.2.1 a ha).1)
      rw [List.length_cons] at hl
      simp only [List.length_nil, Nat.zero_add] at b1
      by_cases hz0 : nf tw ds D = 0
      · refine ⟨by omega, q, [], ?_, Or.inl ⟨by omega, rfl, by omega⟩⟩
        rw [stp_final hS hJ h hz0, List.append_nil]
      · refine ⟨by omega, q, z, hz, Or.inr ⟨nf tw ds D - 1, ?_, ?_⟩⟩
        · have : 162 * (nf tw ds D - 1 + 1) = 162 * nf tw ds D := by rw [show nf tw ds D - 1 + 1 = nf tw ds D by omega]
          omega
        · obtain ⟨v, u', k, w, v1, hk, hu', e1, v2, hJ', v3, huf, e2, e3⟩ := Tgt_ex hS hv h (by omega)
          by_cases hvf : (stp vc tw D u q).1 v = ds v
          · exact Or.inl (by have := nf_lt (ds := ds) (tw := tw) h4 l1 v1 v2 v3 hvf; omega)
          · refine Or.inr ⟨by omega, v, u', k, w, v1, hk, ?_, e1, v2, hJ', hvf, ?_, e2, e3⟩
            · rcases List.mem_cons.mp hu' with e | e
              · exfalso
                subst e
                obtain ⟨k', hk', s1, s2⟩ := nb_sym v1 hk e1
                have g1 := t1 k' hk' v w s1 v2 e2
                have g2 := h4 v v1 v2
                rw [s2 vc] at g1
                omega
              · exact e
            · have g1 := l1 u'
              have g2 := h4 u' (nb_lt v1 e1) (by rw [e2]; exact Option.some_ne_none _)
              omega
/-- at the end: the distances -/
theorem SI_done {vc : Nat} {tw : Nat → Option Nat} {J : Nat → Prop} {ds D : Nat → Nat} (hS : Sol 1000000 vc tw J ds) (hv : 1 ≤ vc) (h : SI vc tw J ds D [] (fun _ => False)) : ∀ c, c < 162 → tw c ≠ none → D c = ds c := by
  intro c hc ho
  refine Classical.byContradiction (fun e => ?_)
  have hn : 0 < nf tw ds D := cnt_pos (p := fun c => decide (tw c ≠ none ∧ D c ≠ ds c)) hc (by simp [ho, e])
  obtain ⟨v, u, k, w, -, -, hu, -⟩ := Tgt_ex hS hv h hn
  cases hu
