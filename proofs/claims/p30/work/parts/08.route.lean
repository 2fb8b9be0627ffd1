/-! PURE: counting, the grid, distances, paths -/
def cnt (p : Nat → Bool) : Nat → Nat
  | 0 => 0
  | n + 1 => cnt p n + (if p n then 1 else 0)
theorem cnt_le (p : Nat → Bool) : ∀ n, cnt p n ≤ n
  | 0 => Nat.le_refl 0
  | n + 1 => by have := cnt_le p n; unfold cnt; split <;> omega
theorem cnt_congr {p q : Nat → Bool} : ∀ {n : Nat}, (∀ k, k < n → p k = q k) → cnt p n = cnt q n
  | 0, _ => rfl
  | n + 1, h => by unfold cnt; rw [cnt_congr (fun k hk => h k (by omega)), h n (by omega)]
theorem cnt_mono {p q : Nat → Bool} : ∀ {n : Nat}, (∀ k, k < n → p k = true → q k = true) → cnt p n ≤ cnt q n
  | 0, _ => Nat.le_refl 0
  | n + 1, h => by
    have h1 := cnt_mono (p := p) (q := q) (n := n) (fun k hk => h k (by omega))
    have h2 := h n (by omega)
    unfold cnt
    by_cases hp : p n = true
    · rw [if_pos hp, if_pos (h2 hp)]; omega
    · rw [if_neg hp]; split <;> omega
theorem cnt_lt {p q : Nat → Bool} {a : Nat} : ∀ {n : Nat}, (∀ k, k < n → p k = true → q k = true) → a < n → p a = false → q a = true → cnt p n < cnt q n
  | 0, _, h, _, _ => absurd h (Nat.not_lt_zero a)
  | n + 1, h, ha, hp, hq => by
    unfold cnt
    by_cases e : a = n
    · subst e
      have h1 := cnt_mono (p := p) (q := q) (n := a) (fun k hk => h k (by omega))
      rw [hp, hq]; simp; omega
    · have h1 := cnt_lt (n := n) (fun k hk => h k (by omega)) (by omega) hp hq
      have h2 := h n (by omega)
      by_cases hp : p n = true
      · rw [if_pos hp, if_pos (h2 hp)]; omega
      · rw [if_neg hp]; split <;> omega
theorem cnt_zero {p : Nat → Bool} : ∀ {n : Nat}, (∀ k, k < n → p k = false) → cnt p n = 0
  | 0, _ => rfl
  | n + 1, h => by unfold cnt; rw [cnt_zero (fun k hk => h k (by omega)), h n (by omega)]; rfl
theorem cnt_pos {p : Nat → Bool} {n k : Nat} (hk : k < n) (h : p k = true) : 0 < cnt p n := by
  have := cnt_lt (p := fun _ => false) (q := p) (a := k) (n := n) (fun _ _ h => by cases h) hk rfl h
  omega
/-- the k-th neighbour of a cell -/
def nb (k c : Nat) : Option Nat :=
  if c < 81 then (if k = 0 then (if 0 < c % 9 then some (c - 1) else none) else if k = 1 then (if c % 9 < 8 then some (c + 1) else none) else some (c + 81))
  else (if k = 0 then some (c - 81) else if k = 1 then (if 90 ≤ c then some (c - 9) else none) else (if c < 153 then some (c + 9) else none))
theorem nb_lt {k c t : Nat} (hc : c < 162) (h : nb k c = some t) : t < 162 := by
  unfold nb at h
  split at h
  · split at h
    · split at h <;> simp at h; omega
    · split at h
      · split at h <;> simp at h; omega
      · simp at h; omega
  · split at h
    · simp at h; omega
    · split at h
      · split at h <;> simp at h; omega
      · split at h <;> simp at h; omega
def mv (vc k c : Nat) : Nat := if (c < 81 ∧ k = 2) ∨ (81 ≤ c ∧ k = 0) then vc else 1
theorem nb_sym {k c t : Nat} (hc : c < 162) (hk : k < 3) (h : nb k c = some t) : ∃ k', k' < 3 ∧ nb k' t = some c ∧ ∀ vc, mv vc k' t = mv vc k c := by
  unfold nb at h
  unfold nb mv
  by_cases h1 : c < 81
  · rw [if_pos h1] at h
    by_cases k0 : k = 0
    · rw [if_pos k0] at h
      split at h
      · have := Option.some.inj h
        refine ⟨1, by omega, ?_, fun vc => ?_⟩
        · rw [if_pos (by omega), if_neg (by omega), if_pos rfl, if_pos (by omega)]; congr 1; omega
        · rw [if_neg (by omega), if_neg (by omega)]
      · cases h
    · rw [if_neg k0] at h
      by_cases k1 : k = 1
      · rw [if_pos k1] at h
        split at h
        · have := Option.some.inj h
          refine ⟨0, by omega, ?_, fun vc => ?_⟩
          · rw [if_pos (by omega), if_pos rfl, if_pos (by omega)]; congr 1; omega
          · rw [if_neg (by omega), if_neg (by omega)]
        · cases h
      · rw [if_neg k1] at h
        have := Option.some.inj h
        refine ⟨0, by omega, ?_, fun vc => ?_⟩
        · rw [if_neg (by omega), if_pos rfl]; congr 1; omega
        · rw [if_pos (by omega), if_pos (by omega)]
  · rw [if_neg h1] at h
    by_cases k0 : k = 0
    · rw [if_pos k0] at h
      have := Option.some.inj h
      refine ⟨2, by omega, ?_, fun vc => ?_⟩
      · rw [if_pos (by omega), if_neg (by omega), if_neg (by omega)]; congr 1; omega
      · rw [if_pos (by omega), if_pos (by omega)]
    · rw [if_neg k0] at h
      by_cases k1 : k = 1
      · rw [if_pos k1] at h
        split at h
        · have := Option.some.inj h
          refine ⟨2, by omega, ?_, fun vc => ?_⟩
          · rw [if_neg (by omega), if_neg (by omega), if_neg (by omega), if_pos (by omega)]; congr 1; omega
          · rw [if_neg (by omega), if_neg (by omega)]
        · cases h
      · rw [if_neg k1] at h
        split at h
        · have := Option.some.inj h
          refine ⟨1, by omega, ?_, fun vc => ?_⟩
          · rw [if_neg (by omega), if_neg (by omega), if_pos rfl, if_pos (by omega)]; congr 1; omega
          · rw [if_neg (by omega), if_neg (by omega)]
        · cases h
/-- d tells for each open cell how dear the way to J is; INF: there is none -/
def Sol (INF vc : Nat) (tw : Nat → Option Nat) (J : Nat → Prop) (d : Nat → Nat) : Prop :=
  (∀ c, c < 162 → d c ≤ INF) ∧ (∀ c, c < 162 → J c → d c = 0) ∧
  (∀ c, c < 162 → tw c ≠ none → ¬ J c → ∀ k, k < 3 → ∀ t, nb k c = some t → ∀ w, tw t = some w → d c ≤ mv vc k c + w + d t) ∧
  (∀ c, c < 162 → tw c ≠ none → ¬ J c → d c < INF → ∃ k, k < 3 ∧ ∃ t w, nb k c = some t ∧ tw t = some w ∧ d c = mv vc k c + w + d t)
theorem mv_pos {vc k c : Nat} (h : 1 ≤ vc) : 1 ≤ mv vc k c := by unfold mv; split <;> omega
theorem mv_le {vc k c : Nat} (h : vc ≤ 20) : mv vc k c ≤ 20 := by unfold mv; split <;> omega
def rank (d : Nat → Nat) (c : Nat) : Nat := cnt (fun a => decide (d a < d c)) 162
theorem rank_lt {d : Nat → Nat} {c t : Nat} (ht : t < 162) (h : d t < d c) : rank d t < rank d c := by
  refine cnt_lt (a := t) (fun k _ hk => ?_) ht ?_ ?_
  · simp only [decide_eq_true_eq] at hk ⊢; omega
  · simp
  · simp [h]
theorem rank_le {d : Nat → Nat} {c : Nat} (hc : c < 162) : rank d c < 162 := by
  have h1 := cnt_lt (p := fun a => decide (d a < d c)) (q := fun _ => true) (a := c) (n := 162) (fun _ _ _ => rfl) hc (by simp) rfl
  have h2 := cnt_le (fun _ => true) 162
  unfold rank
  omega
theorem Sol.bound {INF vc : Nat} {tw : Nat → Option Nat} {J : Nat → Prop} {d : Nat → Nat} (h : Sol INF vc tw J d) (hv : 1 ≤ vc ∧ vc ≤ 20) (ht : ∀ c w, tw c = some w → w ≤ 59) : ∀ n c, c < 162 → tw c ≠ none → rank d c < n → d c < INF → d c ≤ 79 * rank d c := by
  intro n
  induction n with
  | zero => intro c _ _ hn; exact absurd hn (Nat.not_lt_zero _)
  | succ n ih =>
    intro c hc ho hn hi
    by_cases hJ : J c
    · rw [h.2.1 c hc hJ]; exact Nat.zero_le _
    · obtain ⟨k, hk, t, w, h1, h2, h3⟩ := h.2.2.2 c hc ho hJ hi
      have p1 := mv_pos (k := k) (c := c) hv.1
      have p2 := mv_le (k := k) (c := c) hv.2
      have p3 := ht t w h2
      have p4 := rank_lt (d := d) (c := c) (nb_lt hc h1) (by omega)
      have p5 := ih t (nb_lt hc h1) (by rw [h2]; exact fun e => by cases e) (by omega) (by omega)
      omega
theorem Sol.le {INF INF' vc : Nat} {tw : Nat → Option Nat} {J : Nat → Prop} {d d' : Nat → Nat} (h : Sol INF vc tw J d) (h' : Sol INF' vc tw J d') (hv : 1 ≤ vc) : ∀ n c, c < 162 → tw c ≠ none → d c < n → d c < INF → d' c ≤ d c := by
  intro n
  induction n with
  | zero => intro c _ _ hn; exact absurd hn (Nat.not_lt_zero _)
  | succ n ih =>
    intro c hc ho hn hi
    by_cases hJ : J c
    · rw [h'.2.1 c hc hJ]; exact Nat.zero_le _
    · obtain ⟨k, hk, t, w, h1, h2, h3⟩ := h.2.2.2 c hc ho hJ hi
      have p1 := mv_pos (k := k) (c := c) hv
      have p5 := ih t (nb_lt hc h1) (by rw [h2]; exact fun e => by cases e) (by omega) (by omega)
      have p6 := h'.2.2.1 c hc ho hJ k hk t h1 w h2
      omega
/-- two of them are one, where they tell of a way -/
theorem Sol.eq {INF INF' vc : Nat} {tw : Nat → Option Nat} {J : Nat → Prop} {d d' : Nat → Nat} (h : Sol INF vc tw J d) (h' : Sol INF' vc tw J d') (hv : 1 ≤ vc ∧ vc ≤ 20) (ht : ∀ c w, tw c = some w → w ≤ 59) (hI : 12720 ≤ INF) (hI' : 12720 ≤ INF') {c : Nat} (hc : c < 162) (ho : tw c ≠ none) : (d c < INF ↔ d' c < INF') ∧ (d c < INF → d c = d' c) := by
  have b : d c < INF → d c < 12720 := fun hi => by have := h.bound hv ht _ c hc ho (Nat.lt_succ_self _) hi; have := rank_le (d := d) hc; omega
  have b' : d' c < INF' → d' c < 12720 := fun hi => by have := h'.bound hv ht _ c hc ho (Nat.lt_succ_self _) hi; have := rank_le (d := d') hc; omega
  have e1 : d c < INF → d' c ≤ d c := fun hi => h.le h' hv.1 _ c hc ho (Nat.lt_succ_self _) hi
  have e2 : d' c < INF' → d c ≤ d' c := fun hi => h'.le h hv.1 _ c hc ho (Nat.lt_succ_self _) hi
  refine ⟨⟨fun hi => ?_, fun hi => ?_⟩, fun hi => ?_⟩
  · have := e1 hi; have := b hi; omega
  · have := e2 hi; have := b' hi; omega
  · have := e1 hi; have := b hi; have := e2 (by omega); omega
/-- there is a way to J of cost n -/
def wayN (vc : Nat) (tw : Nat → Option Nat) (J : Nat → Prop) : Nat → Nat → Nat → Prop
  | 0, c, n => n = 0 ∧ J c
  | f + 1, c, n => (n = 0 ∧ J c) ∨ (¬ J c ∧ ∃ k, k < 3 ∧ ∃ t w, nb k c = some t ∧ tw t = some w ∧ mv vc k c + w ≤ n ∧ wayN vc tw J f t (n - (mv vc k c + w)))
theorem wayN_succ {vc : Nat} {tw : Nat → Option Nat} {J : Nat → Prop} : ∀ {f c n : Nat}, wayN vc tw J f c n → wayN vc tw J (f + 1) c n
  | 0, c, n, h => Or.inl h
  | f + 1, c, n, h => by
    rcases h with h | ⟨h0, k, hk, t, w, h1, h2, h3, h4⟩
    · exact Or.inl h
    · exact Or.inr ⟨h0, k, hk, t, w, h1, h2, h3, wayN_succ h4⟩
theorem Sol.ex (INF vc : Nat) (tw : Nat → Option Nat) (J : Nat → Prop) (hv : 1 ≤ vc) : ∃ d, Sol INF vc tw J d := by
  have key : ∀ c, ∃ m, m ≤ INF ∧ (m < INF → ∃ f, wayN vc tw J f c m) ∧ ∀ n f, n < m → ¬ wayN vc tw J f c n := by
    intro c
    by_cases hx : ∃ n, n < INF ∧ ∃ f, wayN vc tw J f c n
    · obtain ⟨m, ⟨h1, h2⟩, h3⟩ := pk_least (fun n => n < INF ∧ ∃ f, wayN vc tw J f c n) hx
      exact ⟨m, by omega, fun _ => h2, fun n f hn hw => h3 n hn ⟨by omega, f, hw⟩⟩
    · exact ⟨INF, Nat.le_refl _, fun h => absurd h (Nat.lt_irrefl _), fun n f hn hw => hx ⟨n, hn, f, hw⟩⟩
  obtain ⟨d, hd⟩ : ∃ d : Nat → Nat, ∀ c, d c ≤ INF ∧ (d c < INF → ∃ f, wayN vc tw J f c (d c)) ∧ ∀ n f, n < d c → ¬ wayN vc tw J f c n := ⟨fun c => (key c).choose, fun c => (key c).choose_spec⟩
  refine ⟨d, fun c _ => (hd c).1, fun c _ hJ => ?_, fun c _ _ hJ k hk t h1 w h2 => ?_, fun c _ _ hJ hi => ?_⟩
  · rcases Nat.eq_zero_or_pos (d c) with h | h
    · exact h
    · exact absurd (show wayN vc tw J 0 c 0 from ⟨rfl, hJ⟩) ((hd c).2.2 0 0 h)
  · refine Nat.le_of_not_lt (fun hlt => ?_)
    have e1 := (hd c).1
    obtain ⟨f, hf⟩ := (hd t).2.1 (by omega)
    exact (hd c).2.2 _ (f + 1) hlt (Or.inr ⟨hJ, k, hk, t, w, h1, h2, by omega, by rw [Nat.add_sub_cancel_left]; exact hf⟩)
  · obtain ⟨f, hf⟩ := (hd c).2.1 hi
    cases f with
    | zero => exact absurd hf.2 hJ
    | succ f =>
      rcases hf with h | ⟨-, k, hk, t, w, h1, h2, h3, h4⟩
      · exact absurd h.2 hJ
      · refine ⟨k, hk, t, w, h1, h2, ?_⟩
        have e1 : ¬ (d c - (mv vc k c + w)) < d t := fun hlt => (hd t).2.2 _ f hlt h4
        have e2 : d t ≤ d c - (mv vc k c + w) := by omega
        have p1 := mv_pos (k := k) (c := c) hv
        have e3 : ¬ (mv vc k c + w + d t < d c) := fun hlt => by
          obtain ⟨f2, hf2⟩ := (hd t).2.1 (by omega)
          exact (hd c).2.2 _ (f2 + 1) hlt (Or.inr ⟨hJ, k, hk, t, w, h1, h2, by omega, by rw [Nat.add_sub_cancel_left]; exact hf2⟩)
        omega
