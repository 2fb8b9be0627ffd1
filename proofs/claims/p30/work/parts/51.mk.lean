/-! MARKS: 2 bits a cell, 27 cells a long (the three rows named wb_ and pf_ are the kit's own texts for pasting) -/
theorem wb_tb (n : Nat) : (lN n).toBitVec = BitVec.ofNat 64 n := rfl
theorem wb_inj {a b : Int64} (h : a.toBitVec = b.toBitVec) : a = b := Int64.toBitVec_inj.mp h
theorem wb_of (x : Int64) : ∃ n, n < 2 ^ 64 ∧ x = lN n := ⟨x.toBitVec.toNat, x.toBitVec.isLt, wb_inj (by rw [wb_tb]; simp)⟩
theorem wb_c : ∀ k, k < 64 → ((nI k).toInt64 &&& 63) = lN k := by decide +kernel
theorem wb_sm : ∀ k, k < 64 → (BitVec.ofNat 64 k).smod 64 = BitVec.ofNat 64 k := by decide +kernel
theorem wb_lt2 {a b : Nat} (h : a < b) : 2 ^ a < 2 ^ b := Nat.pow_lt_pow_right (by decide) h
theorem wb_shl (n : Nat) {k : Nat} (hk : k < 64) : lN n <<< ((nI k).toInt64 &&& 63) = lN (n * 2 ^ k) := by
  rw [wb_c k hk]
  apply wb_inj
  rw [Int64.toBitVec_shiftLeft, wb_tb, wb_tb, wb_tb, wb_sm k hk]
  apply BitVec.eq_of_toNat_eq
  rw [BitVec.shiftLeft_eq', BitVec.toNat_shiftLeft, BitVec.toNat_ofNat, BitVec.toNat_ofNat, BitVec.toNat_ofNat, Nat.mod_eq_of_lt (show k < 2 ^ 64 by omega), Nat.shiftLeft_eq, Nat.mul_mod, Nat.mod_mod, ← Nat.mul_mod]
theorem wb_and {a b : Nat} (ha : a < 2 ^ 64) (hb : b < 2 ^ 64) : lN a &&& lN b = lN (a &&& b) := by
  apply wb_inj
  rw [Int64.toBitVec_and, wb_tb, wb_tb, wb_tb]
  apply BitVec.eq_of_toNat_eq
  rw [BitVec.toNat_and, BitVec.toNat_ofNat, BitVec.toNat_ofNat, BitVec.toNat_ofNat, Nat.mod_eq_of_lt ha, Nat.mod_eq_of_lt hb, Nat.mod_eq_of_lt (Nat.lt_of_le_of_lt Nat.and_le_left ha)]
theorem wb_mask {n k : Nat} (hn : n < 2 ^ 64) (hk : k < 64) : lN n &&& lN (2 ^ k - 1) = lN (n % 2 ^ k) := by
  rw [wb_and hn (by have := wb_lt2 hk; omega), Nat.and_two_pow_sub_one_eq_mod]
theorem pf_lI {a : Nat} (h : a < 2 ^ 63) : (lN a).toInt = (a : Int) := lg_ofNat_toInt h
theorem pf_shr {a d : Nat} {D : Int64} (hD : (D.toBitVec.smod 64).toNat = d) (h : a < 2 ^ 62) : lN a >>> D = lN (a / 2 ^ d) := by
  have hd : a / 2 ^ d ≤ a := Nat.div_le_self _ _
  apply Int64.toInt_inj.mp
  have e : (lN a >>> D).toInt = (lN a).toInt >>> d := by
    rw [← hD]
    exact BitVec.toInt_sshiftRight ..
  rw [e, Int.shiftRight_eq_div_pow, pf_lI (by omega), pf_lI (by omega)]
  rfl
def wsum (f : Nat → Nat) : Nat → Nat
  | 0 => 0
  | n + 1 => wsum f n + f n * 4 ^ n
theorem wsum_lt {f : Nat → Nat} (h : ∀ i, f i ≤ 2) : ∀ n, wsum f n < 4 ^ n
  | 0 => by show 0 < 1; decide
  | n + 1 => by
    have h1 := wsum_lt h n
    have h2 : f n * 4 ^ n ≤ 2 * 4 ^ n := Nat.mul_le_mul_right _ (h n)
    rw [Nat.pow_succ]
    show wsum f n + f n * 4 ^ n < _
    omega
theorem wsum_get {f : Nat → Nat} (h : ∀ i, f i ≤ 2) {i : Nat} : ∀ n, i < n → wsum f n / 4 ^ i % 4 = f i
  | 0, hi => absurd hi (Nat.not_lt_zero i)
  | n + 1, hi => by
    show (wsum f n + f n * 4 ^ n) / 4 ^ i % 4 = f i
    by_cases e : i = n
    · subst e
      rw [Nat.add_mul_div_right _ _ (Nat.pow_pos (by decide)), Nat.div_eq_of_lt (wsum_lt h i), Nat.zero_add]
      have := h i
      omega
    · have h1 : 4 ^ n = 4 ^ i * (4 * 4 ^ (n - i - 1)) := by
        rw [← Nat.pow_succ', ← Nat.pow_add]
        congr 1
        omega
      rw [h1, Nat.mul_comm (f n), Nat.mul_assoc, Nat.add_mul_div_left _ _ (Nat.pow_pos (by decide)), Nat.mul_assoc, Nat.add_mul_mod_self_left]
      exact wsum_get h n (by omega)
theorem wsum_cg {f g : Nat → Nat} : ∀ {n : Nat}, (∀ i, i < n → f i = g i) → wsum f n = wsum g n
  | 0, _ => rfl
  | n + 1, h => by
    show wsum f n + f n * 4 ^ n = wsum g n + g n * 4 ^ n
    rw [wsum_cg (fun i hi => h i (by omega)), h n (by omega)]
theorem wsum_upd {f g : Nat → Nat} {i : Nat} (hg : ∀ j, j ≠ i → g j = f j) : ∀ {n : Nat}, i < n → wsum g n + f i * 4 ^ i = wsum f n + g i * 4 ^ i
  | 0, hi => absurd hi (Nat.not_lt_zero i)
  | n + 1, hi => by
    show wsum g n + g n * 4 ^ n + f i * 4 ^ i = wsum f n + f n * 4 ^ n + g i * 4 ^ i
    by_cases e : i = n
    · subst e
      rw [wsum_cg (n := i) (f := g) (g := f) (fun j hj => hg j (by omega))]
      omega
    · have := wsum_upd hg (n := n) (by omega)
      rw [hg n (fun q => e q.symm)]
      omega
def mkF (m : Nat → Nat) (q : Nat) : Int64 := lN (wsum (fun i => m (27 * q + i)) 27)
theorem mkF_lt {m : Nat → Nat} (hm : ∀ x, m x ≤ 2) (q : Nat) : wsum (fun i => m (27 * q + i)) 27 < 2 ^ 54 := Nat.lt_of_lt_of_le (wsum_lt (fun i => hm _) 27) (by decide)
theorem sh27 : ∀ j, j < 27 → ((((nI (2 * j)).toInt64 &&& 63 : Int64)).toBitVec.smod 64).toNat = 2 * j := by decide +kernel
theorem pow4 (j : Nat) : 2 ^ (2 * j) = 4 ^ j := by rw [Nat.pow_mul]
theorem mk_get {m : Nat → Nat} {c : Nat} (hm : ∀ x, m x ≤ 2) : ((mkF m (c / 27) >>> ((nI (2 * (c % 27))).toInt64 &&& 63)) &&& 3).toInt32 = nI (m c) := by
  have h1 := mkF_lt hm (c / 27)
  have h2 : c % 27 < 27 := Nat.mod_lt _ (by decide)
  unfold mkF
  rw [pf_shr (sh27 _ h2) (by omega), show (3 : Int64) = lN (2 ^ 2 - 1) from rfl, wb_mask (by have := Nat.div_le_self (wsum (fun i => m (27 * (c / 27) + i)) 27) (2 ^ (2 * (c % 27))); omega) (by decide), lN_i, pow4, show (2 : Nat) ^ 2 = 4 from rfl, wsum_get (fun i => hm _) 27 h2]
  congr 2
  omega
theorem h4v : ∀ h, h < 3 → ∀ v, v < 3 → (nI h - nI v).toInt64 + lN v = lN h := by decide +kernel
theorem l_shl (x : Int64) {k : Nat} (hk : k < 64) : x <<< ((nI k).toInt64 &&& 63) = x * lN (2 ^ k) := by
  obtain ⟨n, -, rfl⟩ := wb_of x
  rw [wb_shl n hk, lN_mul]
theorem mk_put {m : Nat → Nat} {c h : Nat} (hm : ∀ x, m x ≤ 2) (hh : h ≤ 2) : vp_updL (mkF m) (c / 27) (mkF m (c / 27) + ((nI h - nI (m c)).toInt64 <<< ((nI (2 * (c % 27))).toInt64 &&& 63))) = mkF (updN m c h) := by
  have h2 : c % 27 < 27 := Nat.mod_lt _ (by decide)
  have hc : c = 27 * (c / 27) + c % 27 := by omega
  funext q
  by_cases e : q = c / 27
  · subst e
    rw [pk_uLs, l_shl _ (by omega), pow4]
    have h3 := h4v h (by omega) (m c) (by have := hm c; omega)
    have h4 := wsum_upd (f := fun i => m (27 * (c / 27) + i)) (g := fun i => updN m c h (27 * (c / 27) + i)) (i := c % 27) (fun j hj => by
      show updN m c h (27 * (c / 27) + j) = m (27 * (c / 27) + j)
      unfold updN
      rw [if_neg (by omega)]) h2
    have h5 : updN m c h (27 * (c / 27) + c % 27) = h := by
      unfold updN
      rw [if_pos (by omega)]
    have h6 : m (27 * (c / 27) + c % 27) = m c := by rw [← hc]
    have h4 : wsum (fun i => updN m c h (27 * (c / 27) + i)) 27 + m c * 4 ^ (c % 27) = wsum (fun i => m (27 * (c / 27) + i)) 27 + h * 4 ^ (c % 27) := by
      simp only [h5, h6] at h4
      exact h4
    unfold mkF
    refine (Int64.add_left_inj (lN (m c * 4 ^ (c % 27)))).mp ?_
    rw [Int64.add_assoc, ← lN_mul (m c), ← Int64.add_mul, h3, lN_mul, lN_mul, lN_add, lN_add, h4]
  · rw [pk_uLn e]
    unfold mkF
    congr 1
    refine wsum_cg (fun i hi => ?_)
    unfold updN
    rw [if_neg (by omega)]
theorem mkF_0 : (fun _ => (0 : Int64)) = mkF (fun _ => 0) := by
  funext q
  have h : ∀ n, wsum (fun _ => 0) n = 0 := fun n => by
    induction n with
    | zero => rfl
    | succ n ih => show wsum (fun _ => 0) n + 0 * 4 ^ n = 0; rw [ih, Nat.zero_mul]
  unfold mkF
  rw [h]
  rfl
theorem updN_le {m : Nat → Nat} {c h : Nat} (hm : ∀ x, m x ≤ 2) (hh : h ≤ 2) : ∀ x, updN m c h x ≤ 2 := fun x => by
  unfold updN
  split
  · exact hh
  · exact hm x
theorem dL_marked_0 : decode cL_marked 0 = .ok (.aload_n 0, 1) := by decide +kernel
theorem dL_marked_1 : decode cL_marked 1 = .ok (.iload_n 1, 1) := by decide +kernel
theorem dL_marked_2 : decode cL_marked 2 = .ok (.bipush 27, 2) := by decide +kernel
theorem dL_marked_4 : decode cL_marked 4 = .ok (.idiv, 1) := by decide +kernel
theorem dL_marked_5 : decode cL_marked 5 = .ok (.laload, 1) := by decide +kernel
theorem dL_marked_6 : decode cL_marked 6 = .ok (.iconst 2, 1) := by decide +kernel
theorem dL_marked_7 : decode cL_marked 7 = .ok (.iload_n 1, 1) := by decide +kernel
theorem dL_marked_8 : decode cL_marked 8 = .ok (.bipush 27, 2) := by decide +kernel
theorem dL_marked_10 : decode cL_marked 10 = .ok (.irem, 1) := by decide +kernel
theorem dL_marked_11 : decode cL_marked 11 = .ok (.imul, 1) := by decide +kernel
theorem dL_marked_12 : decode cL_marked 12 = .ok (.lshr, 1) := by decide +kernel
theorem dL_marked_13 : decode cL_marked 13 = .ok (.ldc2_w 101, 3) := by decide +kernel
theorem dL_marked_16 : decode cL_marked 16 = .ok (.land, 1) := by decide +kernel
theorem dL_marked_17 : decode cL_marked 17 = .ok (.l2i, 1) := by decide +kernel
theorem dL_marked_18 : decode cL_marked 18 = .ok (.ireturn, 1) := by decide +kernel
abbrev rmL_marked : Room := { frames := 0, cells := 0, slots := 0, locals := 0 }
set_option maxRecDepth 20000 in
theorem ggL_marks_L_marked : GoodIn wsL_marks wsL_marked := goodIn_r _ [4, 5] (by decide +kernel) (by decide +kernel)
set_option maxRecDepth 20000 in
theorem gL_marks_L_marked : GoodIn wsL_marks (va_wsS RL 103 yL_marked wsL_marked) := goodIn_app (goodIn_of _ (by decide +kernel)) ggL_marks_L_marked
theorem dL_marks_0 : decode cL_marks 0 = .ok (.aload_n 0, 1) := by decide +kernel
theorem dL_marks_1 : decode cL_marks 1 = .ok (.iload_n 1, 1) := by decide +kernel
theorem dL_marks_2 : decode cL_marks 2 = .ok (.bipush 27, 2) := by decide +kernel
theorem dL_marks_4 : decode cL_marks 4 = .ok (.idiv, 1) := by decide +kernel
theorem dL_marks_5 : decode cL_marks 5 = .ok (.dup2, 1) := by decide +kernel
theorem dL_marks_6 : decode cL_marks 6 = .ok (.laload, 1) := by decide +kernel
theorem dL_marks_7 : decode cL_marks 7 = .ok (.iload_n 2, 1) := by decide +kernel
theorem dL_marks_8 : decode cL_marks 8 = .ok (.aload_n 0, 1) := by decide +kernel
theorem dL_marks_9 : decode cL_marks 9 = .ok (.iload_n 1, 1) := by decide +kernel
theorem dL_marks_10 : decode cL_marks 10 = .ok (.invokestatic 103, 3) := by decide +kernel
theorem dL_marks_13 : decode cL_marks 13 = .ok (.isub, 1) := by decide +kernel
theorem dL_marks_14 : decode cL_marks 14 = .ok (.i2l, 1) := by decide +kernel
theorem dL_marks_15 : decode cL_marks 15 = .ok (.iconst 2, 1) := by decide +kernel
theorem dL_marks_16 : decode cL_marks 16 = .ok (.iload_n 1, 1) := by decide +kernel
theorem dL_marks_17 : decode cL_marks 17 = .ok (.bipush 27, 2) := by decide +kernel
theorem dL_marks_19 : decode cL_marks 19 = .ok (.irem, 1) := by decide +kernel
theorem dL_marks_20 : decode cL_marks 20 = .ok (.imul, 1) := by decide +kernel
theorem dL_marks_21 : decode cL_marks 21 = .ok (.lshl, 1) := by decide +kernel
theorem dL_marks_22 : decode cL_marks 22 = .ok (.ladd, 1) := by decide +kernel
theorem dL_marks_23 : decode cL_marks 23 = .ok (.lastore, 1) := by decide +kernel
theorem dL_marks_24 : decode cL_marks 24 = .ok (.return_, 1) := by decide +kernel
abbrev rmL_marks : Room := { frames := 1, cells := 0, slots := 0, locals := 21 }
def mW (a : Nat) (cL : ClassId) (m : Nat → Nat) : va_W := [(a, .inl (cL, 6, .inr (.inl (mkF m))))]
def mPre (D : va_G) (a : Nat) (cL : ClassId) (m : Nat → Nat) (av : List Value) : Array Value → State → Prop := va_Pc av (fun U => va_P D vwCl (mW a cL m) U.heap ∧ va_K D vwCl [(cL, .long)] U)
theorem mPre_blind (D : va_G) (a : Nat) (cL : ClassId) (m : Nat → Nat) (av : List Value) : FrameBlind (mPre D a cL m av) := fun w U gg mk q => by
  obtain ⟨h1, h2, h3⟩ := q
  exact ⟨h1, h2, va_K.moved (u := U) (U := U.calling gg mk w) (Vm.Alike.refl U.vm) h3⟩
theorem mW_D (a : Nat) (cL : ClassId) (m : Nat → Nat) : va_D (fun q => q = a) (mW a cL m) := by
  refine ⟨fun i j p q hi hj _ => ?_, fun k q hk => ?_⟩
  · have h1 := (List.getElem?_eq_some_iff.mp hi).1
    have h2 := (List.getElem?_eq_some_iff.mp hj).1
    have : (mW a cL m).length = 1 := rfl
    omega
  · have h1 := (List.getElem?_eq_some_iff.mp hk).1
    have : (mW a cL m).length = 1 := rfl
    have h2 : k = 0 := by omega
    subst h2
    have hk : some (a, _) = some q := hk
    rw [← Option.some.inj hk]
set_option maxRecDepth 100000 in
theorem c_L_marked {l : Launch} {D : va_G} {a : Nat} {cL : ClassId} {m : Nat → Nat} {c : Nat} (hc : c < 162) (hm : ∀ x, m x ≤ 2) : Met l yL_marked wsL_marked rmL_marked (mPre D a cL m [.ref a, .int (nI c)]) (va_Qi (S := Unit) (fun r _ => r = nI (m c)) (fun _ t => va_P D vwCl (mW a cL m) t.heap) (fun q => q = a)) 0 0 (fun q => q = a) := by
  refine Met.ofW (cc := cL_marked) (maxL := 2) (ret := some .int) (by decide) rfl ?_
  intro p e s mm args below meth cd s₁ B hml hv
  obtain ⟨rfl, hP, hK⟩ := hv
  have hl := lv_entry [.ref a, .int (nI c)] (n := 2) (Nat.le_of_ble_eq_true rfl)
  rw [lg_entry_eq]
  have hx := B.exec
  have hb := B.bytes
  have hts := atoms_spec (ws := wsL_marked) B.pre
  have hown : s.vm.findClass RL = some mm.cls := findClass_of_methodNamed B.named
  refine lv_aload_n hx hb dL_marked_0 rfl (lv_at hl 0 rfl) ?_
  refine lv_iload_n hx hb dL_marked_1 rfl (lv_at hl 1 rfl) ?_
  refine lv_bipush hx hb dL_marked_2 (v := nI 27) (by decide) ?_
  refine lv_idiv hx hb dL_marked_4 (by decide) ?_
  rw [pk_div (by omega) (by decide) (by decide)]
  refine va_lald hx hb hK hP 0 0 (n := 6) (f := mkF m) rfl rfl (vp_in_nI (by omega) (by decide)) dL_marked_5 ?_
  rw [nI_clamp (by omega)]
  refine lv_iconst hx hb dL_marked_6 (v := nI 2) (by decide) ?_
  refine lv_iload_n hx hb dL_marked_7 rfl (lv_at hl 1 rfl) ?_
  refine lv_bipush hx hb dL_marked_8 (v := nI 27) (by decide) ?_
  refine lv_irem hx hb dL_marked_10 (by decide) ?_
  rw [pk_rem (by omega) (by decide) (by decide)]
  refine lv_imul hx hb dL_marked_11 ?_
  rw [pk_mul]
  refine lv_lshr hx hb dL_marked_12 rfl ?_
  refine lv_ldc2 hx hb (v := 3) hown (hts _ (by decide +kernel)) dL_marked_13 ?_
  refine lv_land hx hb dL_marked_16 ?_
  refine lv_l2i hx hb dL_marked_17 (mk_get hm) ?_
  exact W.iret hx hb B.returns (fun t ht hW => ⟨⟨_, (), rfl, rfl, by show va_P D vwCl (mW a cL m) t.heap; rw [ht]; exact hP⟩, va_S.F va_S.rf ht⟩) (fun q hq => by cases hq) dL_marked_18 B.notSynchronized
set_option maxRecDepth 100000 in
theorem c_L_marks {l : Launch} {D : va_G} {a : Nat} {cL : ClassId} {m : Nat → Nat} {c h : Nat} (hc : c < 162) (hm : ∀ x, m x ≤ 2) (hh : h ≤ 2) : Met l yL_marks wsL_marks rmL_marks (mPre D a cL m [.ref a, .int (nI c), .int (nI h)]) (va_Qv (S := Unit) (fun _ => True) (fun _ t => va_P D vwCl (mW a cL (updN m c h)) t.heap) (fun q => q = a)) 0 0 (fun q => q = a) := by
  refine Met.ofW (cc := cL_marks) (maxL := 3) (ret := none) (by decide) rfl ?_
  intro p e s mm args below meth cd s₁ B hml hv
  obtain ⟨rfl, hP, hK⟩ := hv
  have hl := lv_entry [.ref a, .int (nI c), .int (nI h)] (n := 3) (Nat.le_of_ble_eq_true rfl)
  rw [lg_entry_eq]
  have hx := B.exec
  have hb := B.bytes
  have hts := atoms_spec (ws := wsL_marks) B.pre
  have hown : s.vm.findClass RL = some mm.cls := findClass_of_methodNamed B.named
  refine lv_aload_n hx hb dL_marks_0 rfl (lv_at hl 0 rfl) ?_
  refine lv_iload_n hx hb dL_marks_1 rfl (lv_at hl 1 rfl) ?_
  refine lv_bipush hx hb dL_marks_2 (v := nI 27) (by decide) ?_
  refine lv_idiv hx hb dL_marks_4 (by decide) ?_
  rw [pk_div (by omega) (by decide) (by decide)]
  refine lv_dup2_11 hx hb dL_marks_5 rfl rfl ?_
  refine va_lald hx hb hK hP 0 0 (n := 6) (f := mkF m) rfl rfl (vp_in_nI (by omega) (by decide)) dL_marks_6 ?_
  rw [nI_clamp (by omega)]
  refine lv_iload_n hx hb dL_marks_7 rfl (lv_at hl 2 rfl) ?_
  refine lv_aload_n hx hb dL_marks_8 rfl (lv_at hl 0 rfl) ?_
  refine lv_iload_n hx hb dL_marks_9 rfl (lv_at hl 1 rfl) ?_
  refine va_calli (A0 := fun q => q = a) (H0 := s.heap) (va_runS (As := [.ref a, .int (nI c)]) (rest := [.int (nI h), .long (mkF m (c / 27)), .int (nI (c / 27)), .ref a]) ⟨hx, hb, hml, hown, hts⟩ (c_L_marked hc hm) (va_cwS 2 hts gL_marks_L_marked rfl rfl rfl (by decide +kernel) (by decide)) ⟨mPre_blind _ _ _ _ _, fun U hU hW => ⟨rfl, by rw [hU]; exact hP, va_K.moved hW.alike hK⟩⟩ rfl rfl hl.1 rfl (lv_room (Nat.le_of_ble_eq_true rfl)) dL_marks_10 ⟨Nat.zero_le _, Nat.zero_le _⟩) va_S.rf (fun q _ z => z) (fun q z => z) (fun rv u t H1 locs1 ht hvm hp hB hz1 hk1 hS1 => ?_)
  obtain rfl := hp
  rw [ht] at hB
  refine lv_isub hx hb dL_marks_13 ?_
  refine lv_i2l hx hb dL_marks_14 rfl ?_
  refine lv_iconst hx hb dL_marks_15 (v := nI 2) (by decide) ?_
  refine lv_iload_n hx hb dL_marks_16 rfl (lv_at hl 1 rfl) ?_
  refine lv_bipush hx hb dL_marks_17 (v := nI 27) (by decide) ?_
  refine lv_irem hx hb dL_marks_19 (by decide) ?_
  rw [pk_rem (by omega) (by decide) (by decide)]
  refine lv_imul hx hb dL_marks_20 ?_
  rw [pk_mul]
  refine lv_lshl hx hb dL_marks_21 rfl ?_
  refine lv_ladd hx hb dL_marks_22 ?_
  refine va_last hx hb hK hB (mW_D a cL m) hS1 0 0 (n := 6) (f := mkF m) rfl rfl (vp_in_nI (by omega) (by decide)) dL_marks_23 (fun H2 locs2 hP2 _ hS2 => ?_)
  rw [nI_clamp (by omega), mk_put hm hh] at hP2
  exact W.vret hx hb B.returns (fun t2 ht2 hW => ⟨⟨(), rfl, trivial, by show va_P D vwCl (mW a cL (updN m c h)) t2.heap; rw [ht2]; exact hP2⟩, hS2.F ht2⟩) hS2.2.2 dL_marks_24 B.notSynchronized
