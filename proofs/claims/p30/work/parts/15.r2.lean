
def OKq (D : Nat → Nat) (q : List Nat) : Prop := (∀ c, c < 162 → D c ≤ 1000000) ∧ q.Nodup ∧ ∀ a, a ∈ q → a < 162
theorem stp_mid {vc : Nat} {tw : Nat → Option Nat} {J : Nat → Bool} {ds D : Nat → Nat} {q : List Nat} {u w : Nat} (hS : Sol 1000000 vc tw (fun c => J c = true) ds) (hJ : ∀ c, J c = true → tw c ≠ none) (h : SI vc tw (fun c => J c = true) ds D (u :: q) (fun _ => False)) (hw : tw u = some w) :
    OKq D q ∧ OKq (offr tw D q (nb 0 u) (D u + w + mv vc 0 u)).1 (offr tw D q (nb 0 u) (D u + w + mv vc 0 u)).2 ∧
    OKq (offr tw (offr tw D q (nb 0 u) (D u + w + mv vc 0 u)).1 (offr tw D q (nb 0 u) (D u + w + mv vc 0 u)).2 (nb 1 u) (D u + w + mv vc 1 u)).1 (offr tw (offr tw D q (nb 0 u) (D u + w + mv vc 0 u)).1 (offr tw D q (nb 0 u) (D u + w + mv vc 0 u)).2 (nb 1 u) (D u + w + mv vc 1 u)).2 ∧
    offr tw (offr tw (offr tw D q (nb 0 u) (D u + w + mv vc 0 u)).1 (offr tw D q (nb 0 u) (D u + w + mv vc 0 u)).2 (nb 1 u) (D u + w + mv vc 1 u)).1 (offr tw (offr tw D q (nb 0 u) (D u + w + mv vc 0 u)).1 (offr tw D q (nb 0 u) (D u + w + mv vc 0 u)).2 (nb 1 u) (D u + w + mv vc 1 u)).2 (nb 2 u) (D u + w + mv vc 2 u) = stp vc tw D u q := by
  obtain ⟨h1, h2, h3, h4, h5, h6, h7⟩ := h
  have hd := List.nodup_cons.mp h6
  obtain ⟨hu, ho, hDu⟩ := h5 u List.mem_cons_self
  have i0 : SI vc tw (fun c => J c = true) ds D q (fun v => v = u) := ⟨h1, h2, h3, h4, fun a ha => h5 a (List.mem_cons_of_mem _ ha), hd.2, fun v hv hvq hvu => h7 v hv (fun e => by rcases List.mem_cons.mp e with e | e; exact hvu e; exact hvq e) (fun e => e)⟩
  obtain ⟨j1, u1, n1, l1, t1⟩ := SI_offr (k := 0) hS hu (by decide) hw hd.1 hJ i0 hDu (x := D u + w + mv vc 0 u) rfl
  refine ⟨⟨i0.1, i0.2.2.2.2.2.1, fun a ha => (i0.2.2.2.2.1 a ha).1⟩, ⟨j1.1, j1.2.2.2.2.2.1, fun a ha => (j1.2.2.2.2.1 a ha).1⟩, ?_, ?_⟩
  · obtain ⟨j2, u2, n2, l2, t2⟩ := SI_offr (k := 1) hS hu (by decide) hw n1 hJ j1 (by rw [u1]; exact hDu) (x := D u + w + mv vc 1 u) (by rw [u1])
    exact ⟨j2.1, j2.2.2.2.2.2.1, fun a ha => (j2.2.2.2.2.1 a ha).1⟩
  · unfold stp
    rw [hw]
    rfl
theorem dst0_no {J : Nat → Bool} {i : Nat} (h : J i = false) : dst0 J (i + 1) = dst0 J i := by
  funext c
  unfold dst0
  by_cases e : c = i
  · subst e; rw [if_neg (by simp [h]), if_neg (by simp)]
  · by_cases e2 : c < i ∧ J c = true
    · rw [if_pos e2, if_pos ⟨by omega, e2.2⟩]
    · rw [if_neg e2, if_neg (fun z => e2 ⟨by omega, z.2⟩)]
theorem filter_no {J : Nat → Bool} {i : Nat} (h : J i = false) : (List.range (i + 1)).filter J = (List.range i).filter J := by
  rw [List.range_succ, List.filter_append]
  simp [h]
theorem offr_init {tw : Nat → Option Nat} {J : Nat → Bool} {i : Nat} (h : J i = true) (ho : tw i ≠ none) : offr tw (dst0 J i) ((List.range i).filter J) (some i) 0 = (dst0 J (i + 1), (List.range (i + 1)).filter J) := by
  have e0 : dst0 J i i = 1000000 := if_neg (by simp)
  have hn : i ∉ (List.range i).filter J := fun z => by have := List.mem_range.mp (List.mem_filter.mp z).1; omega
  unfold offr
  dsimp only
  rw [if_neg (by rintro (e | e); exact ho e; rw [e0] at e; omega), if_neg hn]
  congr 1
  · funext c
    unfold updN dst0
    by_cases e : c = i
    · subst e; rw [if_pos rfl, if_pos ⟨by omega, h⟩]
    · rw [if_neg e]
      by_cases e2 : c < i ∧ J c = true
      · rw [if_pos e2, if_pos ⟨by omega, e2.2⟩]
      · rw [if_neg e2, if_neg (fun z => e2 ⟨by omega, z.2⟩)]
  · rw [List.range_succ, List.filter_append]
    simp [h]
theorem dst0_le (J : Nat → Bool) (i c : Nat) : dst0 J i c ≤ 1000000 := by unfold dst0; split <;> omega
theorem nf_le162 (tw : Nat → Option Nat) (ds D : Nat → Nat) : nf tw ds D ≤ 162 := cnt_le _ 162
theorem m1_step {W : Nat → Nat → Int32} {i : Nat} (hA : ∀ a, a < i → W 153 a = nI 1000000 ∧ W 154 a = nI 0) : ∀ a, a < i + 1 → st2 (st2 W 153 i (nI 1000000)) 154 i (nI 0) 153 a = nI 1000000 ∧ st2 (st2 W 153 i (nI 1000000)) 154 i (nI 0) 154 a = nI 0 := by
  intro a ha
  rw [st2_n _ _ _ (show (153 : Nat) ≠ 154 by decide), st2_k, st2_k, st2_n _ _ _ (show (154 : Nat) ≠ 153 by decide)]
  by_cases e : a = i
  · subst e; rw [pk_us, pk_us]; exact ⟨rfl, rfl⟩
  · rw [pk_un e, pk_un e]; exact hA a (by omega)
theorem QI_0 {W : Nat → Nat → Int32} {J : Nat → Bool} (h6 : W 149 6 = nI 0) (h7 : W 149 7 = nI 0) (hA : ∀ a, a < 162 → W 153 a = nI 1000000 ∧ W 154 a = nI 0) : QI W (dst0 J 0) ((List.range 0).filter J) 0 := by
  refine ⟨h6, by decide, h7, Nat.zero_le _, fun i hi => absurd hi (Nat.not_lt_zero i), fun c hc => ?_, fun c hc => ?_⟩
  · rw [(hA c hc).2]; exact (bI_f (by simp)).symm
  · rw [(hA c hc).1]; congr 1

theorem msr_end {vc : Nat} {tw : Nat → Option Nat} {J : Nat → Prop} {ds D : Nat → Nat} (hS : Sol 1000000 vc tw J ds) (hv : 1 ≤ vc) (h : SI vc tw J ds D [] (fun _ => False)) {a : Nat} (ha : a < 162) : D a = dcl tw ds a := by
  unfold dcl
  by_cases e : tw a = none
  · rw [if_pos e]; exact h.2.2.1 a ha e
  · rw [if_neg e]; exact SI_done hS hv h a ha e

set_option maxRecDepth 20000 in
theorem ggX3_measure_X3_offer : GoodIn wsX3_measure wsX3_offer := goodIn_r _ [14, 8, 3, 5, 7, 1, 2, 20, 21, 22, 23, 24, 25, 26, 27, 28, 29, 30, 31, 32, 33, 34] (by decide +kernel) (by decide +kernel)
set_option maxRecDepth 20000 in
theorem gX3_measure_X3_offer : GoodIn wsX3_measure (wsV RX3 115 RX3 yX3_offer wsX3_offer) := goodIn_app (goodIn_of _ (by decide +kernel)) ggX3_measure_X3_offer
set_option maxRecDepth 20000 in
theorem ggX3_measure_X3_moveCost : GoodIn wsX3_measure wsX3_moveCost := goodIn_r _ [18, 19, 20, 21, 22, 23, 24, 25, 26, 27, 28, 29, 30, 31, 32, 33, 34] (by decide +kernel) (by decide +kernel)
set_option maxRecDepth 20000 in
theorem gX3_measure_X3_moveCost : GoodIn wsX3_measure (wsV RX3 119 RX3 yX3_moveCost wsX3_moveCost) := goodIn_app (goodIn_of _ (by decide +kernel)) ggX3_measure_X3_moveCost
theorem dX3_measure_0 : decode cX3_measure 0 = .ok (.aload_n 0, 1) := by decide +kernel
theorem dX3_measure_1 : decode cX3_measure 1 = .ok (.iconst 0, 1) := by decide +kernel
theorem dX3_measure_2 : decode cX3_measure 2 = .ok (.putfield 108, 3) := by decide +kernel
theorem dX3_measure_5 : decode cX3_measure 5 = .ok (.aload_n 0, 1) := by decide +kernel
theorem dX3_measure_6 : decode cX3_measure 6 = .ok (.iconst 0, 1) := by decide +kernel
theorem dX3_measure_7 : decode cX3_measure 7 = .ok (.putfield 111, 3) := by decide +kernel
theorem dX3_measure_10 : decode cX3_measure 10 = .ok (.iconst 0, 1) := by decide +kernel
theorem dX3_measure_11 : decode cX3_measure 11 = .ok (.istore_n 1, 1) := by decide +kernel
theorem dX3_measure_12 : decode cX3_measure 12 = .ok (.iload_n 1, 1) := by decide +kernel
theorem dX3_measure_13 : decode cX3_measure 13 = .ok (.sipush 162, 3) := by decide +kernel
theorem dX3_measure_16 : decode cX3_measure 16 = .ok (.if_icmp .ge 24, 3) := by decide +kernel
theorem dX3_measure_19 : decode cX3_measure 19 = .ok (.aload_n 0, 1) := by decide +kernel
theorem dX3_measure_20 : decode cX3_measure 20 = .ok (.getfield 22, 3) := by decide +kernel
theorem dX3_measure_23 : decode cX3_measure 23 = .ok (.iload_n 1, 1) := by decide +kernel
theorem dX3_measure_24 : decode cX3_measure 24 = .ok (.ldc 114, 2) := by decide +kernel
theorem dX3_measure_26 : decode cX3_measure 26 = .ok (.iastore, 1) := by decide +kernel
theorem dX3_measure_27 : decode cX3_measure 27 = .ok (.aload_n 0, 1) := by decide +kernel
theorem dX3_measure_28 : decode cX3_measure 28 = .ok (.getfield 25, 3) := by decide +kernel
theorem dX3_measure_31 : decode cX3_measure 31 = .ok (.iload_n 1, 1) := by decide +kernel
theorem dX3_measure_32 : decode cX3_measure 32 = .ok (.iconst 0, 1) := by decide +kernel
theorem dX3_measure_33 : decode cX3_measure 33 = .ok (.bastore, 1) := by decide +kernel
theorem dX3_measure_34 : decode cX3_measure 34 = .ok (.iinc 1 1, 3) := by decide +kernel
theorem dX3_measure_37 : decode cX3_measure 37 = .ok (.goto (-25), 3) := by decide +kernel
theorem dX3_measure_40 : decode cX3_measure 40 = .ok (.iconst 0, 1) := by decide +kernel
theorem dX3_measure_41 : decode cX3_measure 41 = .ok (.istore_n 1, 1) := by decide +kernel
theorem dX3_measure_42 : decode cX3_measure 42 = .ok (.iload_n 1, 1) := by decide +kernel
theorem dX3_measure_43 : decode cX3_measure 43 = .ok (.sipush 162, 3) := by decide +kernel
theorem dX3_measure_46 : decode cX3_measure 46 = .ok (.if_icmp .ge 24, 3) := by decide +kernel
theorem dX3_measure_49 : decode cX3_measure 49 = .ok (.aload_n 0, 1) := by decide +kernel
theorem dX3_measure_50 : decode cX3_measure 50 = .ok (.getfield 15, 3) := by decide +kernel
theorem dX3_measure_53 : decode cX3_measure 53 = .ok (.iload_n 1, 1) := by decide +kernel
theorem dX3_measure_54 : decode cX3_measure 54 = .ok (.baload, 1) := by decide +kernel
theorem dX3_measure_55 : decode cX3_measure 55 = .ok (.ifCond .eq 9, 3) := by decide +kernel
theorem dX3_measure_58 : decode cX3_measure 58 = .ok (.aload_n 0, 1) := by decide +kernel
theorem dX3_measure_59 : decode cX3_measure 59 = .ok (.iload_n 1, 1) := by decide +kernel
theorem dX3_measure_60 : decode cX3_measure 60 = .ok (.iconst 0, 1) := by decide +kernel
theorem dX3_measure_61 : decode cX3_measure 61 = .ok (.invokevirtual 115, 3) := by decide +kernel
theorem dX3_measure_64 : decode cX3_measure 64 = .ok (.iinc 1 1, 3) := by decide +kernel
theorem dX3_measure_67 : decode cX3_measure 67 = .ok (.goto (-25), 3) := by decide +kernel
theorem dX3_measure_70 : decode cX3_measure 70 = .ok (.iconst 0, 1) := by decide +kernel
theorem dX3_measure_71 : decode cX3_measure 71 = .ok (.istore_n 1, 1) := by decide +kernel
theorem dX3_measure_72 : decode cX3_measure 72 = .ok (.iload_n 1, 1) := by decide +kernel
theorem dX3_measure_73 : decode cX3_measure 73 = .ok (.ldc 114, 2) := by decide +kernel
theorem dX3_measure_75 : decode cX3_measure 75 = .ok (.if_icmp .ge 110, 3) := by decide +kernel
theorem dX3_measure_78 : decode cX3_measure 78 = .ok (.aload_n 0, 1) := by decide +kernel
theorem dX3_measure_79 : decode cX3_measure 79 = .ok (.getfield 111, 3) := by decide +kernel
theorem dX3_measure_82 : decode cX3_measure 82 = .ok (.ifCond .le 103, 3) := by decide +kernel
theorem dX3_measure_85 : decode cX3_measure 85 = .ok (.aload_n 0, 1) := by decide +kernel
theorem dX3_measure_86 : decode cX3_measure 86 = .ok (.getfield 28, 3) := by decide +kernel
theorem dX3_measure_89 : decode cX3_measure 89 = .ok (.aload_n 0, 1) := by decide +kernel
theorem dX3_measure_90 : decode cX3_measure 90 = .ok (.getfield 108, 3) := by decide +kernel
theorem dX3_measure_93 : decode cX3_measure 93 = .ok (.iaload, 1) := by decide +kernel
theorem dX3_measure_94 : decode cX3_measure 94 = .ok (.istore_n 2, 1) := by decide +kernel
theorem dX3_measure_95 : decode cX3_measure 95 = .ok (.aload_n 0, 1) := by decide +kernel
theorem dX3_measure_96 : decode cX3_measure 96 = .ok (.aload_n 0, 1) := by decide +kernel
theorem dX3_measure_97 : decode cX3_measure 97 = .ok (.getfield 108, 3) := by decide +kernel
theorem dX3_measure_100 : decode cX3_measure 100 = .ok (.iconst 1, 1) := by decide +kernel
theorem dX3_measure_101 : decode cX3_measure 101 = .ok (.iadd, 1) := by decide +kernel
theorem dX3_measure_102 : decode cX3_measure 102 = .ok (.sipush 162, 3) := by decide +kernel
theorem dX3_measure_105 : decode cX3_measure 105 = .ok (.irem, 1) := by decide +kernel
theorem dX3_measure_106 : decode cX3_measure 106 = .ok (.putfield 108, 3) := by decide +kernel
theorem dX3_measure_109 : decode cX3_measure 109 = .ok (.aload_n 0, 1) := by decide +kernel
theorem dX3_measure_110 : decode cX3_measure 110 = .ok (.dup, 1) := by decide +kernel
theorem dX3_measure_111 : decode cX3_measure 111 = .ok (.getfield 111, 3) := by decide +kernel
theorem dX3_measure_114 : decode cX3_measure 114 = .ok (.iconst 1, 1) := by decide +kernel
theorem dX3_measure_115 : decode cX3_measure 115 = .ok (.isub, 1) := by decide +kernel
theorem dX3_measure_116 : decode cX3_measure 116 = .ok (.putfield 111, 3) := by decide +kernel
theorem dX3_measure_119 : decode cX3_measure 119 = .ok (.aload_n 0, 1) := by decide +kernel
theorem dX3_measure_120 : decode cX3_measure 120 = .ok (.getfield 25, 3) := by decide +kernel
theorem dX3_measure_123 : decode cX3_measure 123 = .ok (.iload_n 2, 1) := by decide +kernel
theorem dX3_measure_124 : decode cX3_measure 124 = .ok (.iconst 0, 1) := by decide +kernel
theorem dX3_measure_125 : decode cX3_measure 125 = .ok (.bastore, 1) := by decide +kernel
theorem dX3_measure_126 : decode cX3_measure 126 = .ok (.aload_n 0, 1) := by decide +kernel
theorem dX3_measure_127 : decode cX3_measure 127 = .ok (.getfield 22, 3) := by decide +kernel
theorem dX3_measure_130 : decode cX3_measure 130 = .ok (.iload_n 2, 1) := by decide +kernel
theorem dX3_measure_131 : decode cX3_measure 131 = .ok (.iaload, 1) := by decide +kernel
theorem dX3_measure_132 : decode cX3_measure 132 = .ok (.aload_n 0, 1) := by decide +kernel
theorem dX3_measure_133 : decode cX3_measure 133 = .ok (.getfield 19, 3) := by decide +kernel
theorem dX3_measure_136 : decode cX3_measure 136 = .ok (.iload_n 2, 1) := by decide +kernel
theorem dX3_measure_137 : decode cX3_measure 137 = .ok (.iaload, 1) := by decide +kernel
theorem dX3_measure_138 : decode cX3_measure 138 = .ok (.iadd, 1) := by decide +kernel
theorem dX3_measure_139 : decode cX3_measure 139 = .ok (.istore_n 3, 1) := by decide +kernel
theorem dX3_measure_140 : decode cX3_measure 140 = .ok (.iconst 0, 1) := by decide +kernel
theorem dX3_measure_141 : decode cX3_measure 141 = .ok (.istore 4, 2) := by decide +kernel
theorem dX3_measure_143 : decode cX3_measure 143 = .ok (.iload 4, 2) := by decide +kernel
theorem dX3_measure_145 : decode cX3_measure 145 = .ok (.iconst 3, 1) := by decide +kernel
theorem dX3_measure_146 : decode cX3_measure 146 = .ok (.if_icmp .ge 33, 3) := by decide +kernel
theorem dX3_measure_149 : decode cX3_measure 149 = .ok (.aload_n 0, 1) := by decide +kernel
theorem dX3_measure_150 : decode cX3_measure 150 = .ok (.aload_n 0, 1) := by decide +kernel
theorem dX3_measure_151 : decode cX3_measure 151 = .ok (.getfield 9, 3) := by decide +kernel
theorem dX3_measure_154 : decode cX3_measure 154 = .ok (.iconst 3, 1) := by decide +kernel
theorem dX3_measure_155 : decode cX3_measure 155 = .ok (.iload_n 2, 1) := by decide +kernel
theorem dX3_measure_156 : decode cX3_measure 156 = .ok (.imul, 1) := by decide +kernel
theorem dX3_measure_157 : decode cX3_measure 157 = .ok (.iload 4, 2) := by decide +kernel
theorem dX3_measure_159 : decode cX3_measure 159 = .ok (.iadd, 1) := by decide +kernel
theorem dX3_measure_160 : decode cX3_measure 160 = .ok (.iaload, 1) := by decide +kernel
theorem dX3_measure_161 : decode cX3_measure 161 = .ok (.iload_n 3, 1) := by decide +kernel
theorem dX3_measure_162 : decode cX3_measure 162 = .ok (.aload_n 0, 1) := by decide +kernel
theorem dX3_measure_163 : decode cX3_measure 163 = .ok (.iload_n 2, 1) := by decide +kernel
theorem dX3_measure_164 : decode cX3_measure 164 = .ok (.iload 4, 2) := by decide +kernel
theorem dX3_measure_166 : decode cX3_measure 166 = .ok (.invokevirtual 119, 3) := by decide +kernel
theorem dX3_measure_169 : decode cX3_measure 169 = .ok (.iadd, 1) := by decide +kernel
theorem dX3_measure_170 : decode cX3_measure 170 = .ok (.invokevirtual 115, 3) := by decide +kernel
theorem dX3_measure_173 : decode cX3_measure 173 = .ok (.iinc 4 1, 3) := by decide +kernel
theorem dX3_measure_176 : decode cX3_measure 176 = .ok (.goto (-33), 3) := by decide +kernel
theorem dX3_measure_179 : decode cX3_measure 179 = .ok (.iinc 1 1, 3) := by decide +kernel
theorem dX3_measure_182 : decode cX3_measure 182 = .ok (.goto (-110), 3) := by decide +kernel
theorem dX3_measure_185 : decode cX3_measure 185 = .ok (.return_, 1) := by decide +kernel
abbrev rmX3_measure : Room := { frames := 1, cells := 0, slots := 0, locals := 23 }
set_option maxRecDepth 20000 in
theorem in_X3_measure_X3 : ∀ w ∈ wsX30, w ∈ wsX3_measure := by decide +kernel

set_option maxRecDepth 100000 in
set_option maxHeartbeats 8000000 in
theorem c_X3_measure {l : Launch} {g : Geo} {M : Nat → Nat → Int32} {P : Nat → Nat} {vc : Nat} {tw : Nat → Option Nat} {J : Nat → Bool} (hv : 1 ≤ vc ∧ vc ≤ 20) (hvc : M 149 8 = nI vc) (hNb : Nbr M) (hT : ∀ a, a < 162 → M 152 a = tollI (tw a)) (hw : ∀ a w, tw a = some w → w ≤ 59) (hJ : ∀ a, a < 162 → M 151 a = bI (J a)) (hJt : ∀ a, J a = true → tw a ≠ none) : Met l yX3_measure wsX3_measure rmX3_measure (cPre g [.ref (g.1 149)] M P) (cQv g (fun M' P' => P = P' ∧ FrQ M M' ∧ ∀ a, a < 162 → M' 153 a = nI (dcl tw (dS vc tw J) a))) 0 0 (gA g) := by
  refine met_v (cc := cX3_measure) (maxL := 5) (by decide) rfl ⟨rfl, rfl⟩ (Nat.le_of_ble_eq_true rfl) (fun x hx h hret => ?_)
  replace h : Cxk x g cX3_measure 5 wsX3_measure RX3 rmX3_measure := h
  show X x 0 [(0, .ref (g.1 149))] [] M P
  refine x_aload_n h 0 dX3_measure_0 rfl rfl ?_
  refine x_iconst h (nI 0) dX3_measure_1 (by decide) ?_
  refine xp_X3_6 h in_X3_measure_X3 (by decide +kernel) dX3_measure_2 ?_
  refine x_aload_n h 0 dX3_measure_5 rfl rfl ?_
  refine x_iconst h (nI 0) dX3_measure_6 (by decide) ?_
  refine xp_X3_7 h in_X3_measure_X3 (by decide +kernel) dX3_measure_7 ?_
  refine x_iconst h (nI 0) dX3_measure_10 (by decide) ?_
  refine x_istore_n h [(1, .int (nI 0)), (0, .ref (g.1 149))] dX3_measure_11 rfl (by decide) rfl ?_
  have L12 : ∀ (fu : Nat) (i : Nat) (W : Nat → Nat → Int32), (162 - i) < fu → (i ≤ 162) → (FrQ M W) → (W 149 6 = nI 0) → (W 149 7 = nI 0) → (∀ a, a < i → W 153 a = nI 1000000 ∧ W 154 a = nI 0) → X x 12 [(0, .ref (g.1 149)), (1, .int (nI i))] [] W P := by
    intro fu
    induction fu with
    | zero => intro i W hmu12; exact absurd hmu12 (Nat.not_lt_zero _)
    | succ fu ih12 =>
      intro i W hmu12 hi hF h6 h7 hA
      refine x_iload_n h 1 dX3_measure_12 rfl rfl ?_
      refine x_sipush h (nI 162) dX3_measure_13 (by decide) ?_
      refine x_icmp_ge_n h 40 dX3_measure_16 (by decide) (by first | omega | (have := hQ3.2.2.2.1; omega) | (have := hQ3.2.1; omega)) (by decide) (fun c_16 => ?_) (fun c_16 => ?_)
      · -- 16 true
        refine x_iconst h (nI 0) dX3_measure_40 (by decide) ?_
        refine x_istore_n h [(1, .int (nI 0)), (0, .ref (g.1 149))] dX3_measure_41 rfl (by decide) rfl ?_
        have L42 : ∀ (fu : Nat) (i2 : Nat) (W2 : Nat → Nat → Int32), (162 - i2) < fu → (i2 ≤ 162) → (FrQ M W2) → (QI W2 (dst0 J i2) ((List.range i2).filter J) 0) → X x 42 [(0, .ref (g.1 149)), (1, .int (nI i2))] [] W2 P := by
          intro fu
          induction fu with
          | zero => intro i2 W2 hmu42; exact absurd hmu42 (Nat.not_lt_zero _)
          | succ fu ih42 =>
            intro i2 W2 hmu42 hi2 hF2 hQ2
            refine x_iload_n h 1 dX3_measure_42 rfl rfl ?_
            refine x_sipush h (nI 162) dX3_measure_43 (by decide) ?_
            refine x_icmp_ge_n h 70 dX3_measure_46 (by decide) (by first | omega | (have := hQ3.2.2.2.1; omega) | (have := hQ3.2.1; omega)) (by decide) (fun c_46 => ?_) (fun c_46 => ?_)
            · -- 46 true
              refine x_iconst h (nI 0) dX3_measure_70 (by decide) ?_
              refine x_istore_n h [(1, .int (nI 0)), (0, .ref (g.1 149))] dX3_measure_71 rfl (by decide) rfl ?_
              have L72 : ∀ (fu : Nat) (r : Nat) (n : Nat) (W3 : Nat → Nat → Int32) (D : Nat → Nat) (q : List Nat) (f : Nat), n < fu → (r + n ≤ 30000) → (FrQ M W3) → (QI W3 D q f) → (SI vc tw (fun c => J c = true) (dS vc tw J) D q (fun _ => False)) → (Bd vc tw (fun c => J c = true) (dS vc tw J) D q n) → X x 72 [(0, .ref (g.1 149)), (1, .int (nI r))] [] W3 P := by
                intro fu
                induction fu with
                | zero => intro r n W3 D q f hmu72; exact absurd hmu72 (Nat.not_lt_zero _)
                | succ fu ih72 =>
                  intro r n W3 D q f hmu72 hr hF3 hQ3 hSI hBd
                  refine x_iload_n h 1 dX3_measure_72 rfl rfl ?_
                  refine x_ldc h (nI 1000000) (by decide +kernel) dX3_measure_73 ?_
                  refine x_icmp_ge_n h 185 dX3_measure_75 (by decide) (by first | omega | (have := hQ3.2.2.2.1; omega) | (have := hQ3.2.1; omega)) (by decide) (fun c_75 => by omega) (fun c_75 => ?_)
                  refine x_aload_n h 0 dX3_measure_78 rfl rfl ?_
                  refine xg_X3_7 h in_X3_measure_X3 (by decide +kernel) dX3_measure_79 ?_
                  refine x_top (nI q.length) (hQ3.2.2.1) ?_
                  refine x_if_le_n h 185 dX3_measure_82 (by decide) (by first | omega | (have := hQ3.2.2.2.1; omega) | (have := hQ3.2.1; omega)) (fun c_82 => ?_) (fun c_82 => ?_)
                  · -- 82 true
                    exact hret _ _ _ _ dX3_measure_185 (by obtain rfl : q = [] := List.eq_nil_of_length_eq_zero c_82; exact ⟨rfl, hF3, fun a ha => (hQ3.2.2.2.2.2.2 a ha).trans (congrArg nI (msr_end (dS_sol hv.1 tw J) hv.1 hSI ha))⟩)
                  · -- 82 false
                    obtain ⟨u, q2, rfl⟩ : ∃ u q2, q = u :: q2 := by
                      cases q with
                      | nil => exact absurd c_82 (Nat.lt_irrefl 0)
                      | cons u q2 => exact ⟨u, q2, rfl⟩
                    have hst := Bd_step (dS_sol hv.1 tw J) hv.1 hJt hSI hBd
                    obtain ⟨hu, huo, huD⟩ := hSI.2.2.2.2.1 u List.mem_cons_self
                    obtain ⟨w, hwu⟩ := Option.ne_none_iff_exists'.mp huo
                    have hmid := stp_mid (dS_sol hv.1 tw J) hJt hSI hwu
                    have hw59 := hw u w hwu
                    have hun : u ∉ q2 := (List.nodup_cons.mp hSI.2.2.2.2.2.1).1
                    refine x_aload_n h 0 dX3_measure_85 rfl rfl ?_
                    refine xg_X3_5 h in_X3_measure_X3 (by decide +kernel) dX3_measure_86 ?_
                    refine x_aload_n h 0 dX3_measure_89 rfl rfl ?_
                    refine xg_X3_6 h in_X3_measure_X3 (by decide +kernel) dX3_measure_90 ?_
                    refine x_top (nI f) (hQ3.1) ?_
                    refine xl_155 h dX3_measure_93 (by exact hQ3.2.1) ?_
                    refine x_top (nI u) (by have e := hQ3.2.2.2.2.1 0 (Nat.zero_lt_succ _); rw [Nat.add_zero, Nat.mod_eq_of_lt hQ3.2.1] at e; exact e) ?_
                    refine x_istore_n h [(2, .int (nI u)), (0, .ref (g.1 149)), (1, .int (nI r))] dX3_measure_94 rfl (by decide) rfl ?_
                    refine x_aload_n h 1 dX3_measure_95 rfl rfl ?_
                    refine x_aload_n h 1 dX3_measure_96 rfl rfl ?_
                    refine xg_X3_6 h in_X3_measure_X3 (by decide +kernel) dX3_measure_97 ?_
                    refine x_top (nI f) (hQ3.1) ?_
                    refine x_iconst h (nI 1) dX3_measure_100 (by decide) ?_
                    refine x_iadd_n h dX3_measure_101 ?_
                    refine x_sipush h (nI 162) dX3_measure_102 (by decide) ?_
                    refine x_irem_n h dX3_measure_105 (by first | omega | (have := hQ3.2.2.2.1; omega) | (have := hQ3.2.1; omega)) (by decide) (by decide) ?_
                    refine xp_X3_6 h in_X3_measure_X3 (by decide +kernel) dX3_measure_106 ?_
                    refine x_aload_n h 1 dX3_measure_109 rfl rfl ?_
                    refine x_dup h dX3_measure_110 rfl ?_
                    refine xg_X3_7 h in_X3_measure_X3 (by decide +kernel) dX3_measure_111 ?_
                    refine x_top (nI (q2.length + 1)) (by rw [st2_k, pk_un (by decide)]; exact hQ3.2.2.1) ?_
                    refine x_iconst h (nI 1) dX3_measure_114 (by decide) ?_
                    refine x_isub_n h dX3_measure_115 (by omega) ?_
                    refine x_top (nI q2.length) rfl ?_
                    refine xp_X3_7 h in_X3_measure_X3 (by decide +kernel) dX3_measure_116 ?_
                    refine x_aload_n h 1 dX3_measure_119 rfl rfl ?_
                    refine xg_X3_4 h in_X3_measure_X3 (by decide +kernel) dX3_measure_120 ?_
                    refine x_iload_n h 0 dX3_measure_123 rfl rfl ?_
                    refine x_iconst h (nI 0) dX3_measure_124 (by decide) ?_
                    refine xs_154 h dX3_measure_125 (by decide) (by omega) ?_
                    obtain ⟨W4, hW4⟩ : ∃ z : Nat → Nat → Int32, z = st2 (st2 (st2 W3 149 6 (nI ((f + 1) % 162))) 149 7 (nI q2.length)) 154 u (nI 0) := ⟨_, rfl⟩
                    refine x_mem W4 hW4.symm ?_
                    have hQc : QI W4 D q2 ((f + 1) % 162) := by rw [hW4]; exact QI_pop hQ3 hun hu
                    have hFc : FrQ M W4 := by rw [hW4]; exact FrQ_tr hF3 (FrQ_tr (FrQ_tr (FrQ_o _ _ (Or.inl rfl)) (FrQ_o _ _ (Or.inr rfl))) (FrQ_a _ _ _ (Or.inr (Or.inl rfl))))
                    refine x_aload_n h 1 dX3_measure_126 rfl rfl ?_
                    refine xg_X3_3 h in_X3_measure_X3 (by decide +kernel) dX3_measure_127 ?_
                    refine x_iload_n h 0 dX3_measure_130 rfl rfl ?_
                    refine xl_153 h dX3_measure_131 (by omega) ?_
                    refine x_top (nI (D u)) (hQc.2.2.2.2.2.2 u hu) ?_
                    refine x_aload_n h 1 dX3_measure_132 rfl rfl ?_
                    refine xg_X3_2 h in_X3_measure_X3 (by decide +kernel) dX3_measure_133 ?_
                    refine x_iload_n h 0 dX3_measure_136 rfl rfl ?_
                    refine xl_152 h dX3_measure_137 (by omega) ?_
                    refine x_top (nI w) (by rw [hFc.1 152 (by decide) (by decide) (by decide) (by decide), hT u hu, hwu]; rfl) ?_
                    refine x_iadd_n h dX3_measure_138 ?_
                    refine x_istore_n h [(3, .int (nI ((D u) + w))), (2, .int (nI u)), (0, .ref (g.1 149)), (1, .int (nI r))] dX3_measure_139 rfl (by decide) rfl ?_
                    refine x_iconst h (nI 0) dX3_measure_140 (by decide) ?_
                    refine x_istore h [(4, .int (nI 0)), (3, .int (nI ((D u) + w))), (2, .int (nI u)), (0, .ref (g.1 149)), (1, .int (nI r))] dX3_measure_141 (by decide) rfl ?_
                    refine x_iload h 0 dX3_measure_143 rfl ?_
                    refine x_iconst h (nI 3) dX3_measure_145 (by decide) ?_
                    refine x_icmp_ge h 179 dX3_measure_146 (by decide) (fun c => absurd c (by decide)) (fun _ => ?_)
                    refine x_aload_n h 3 dX3_measure_149 rfl rfl ?_
                    refine x_aload_n h 3 dX3_measure_150 rfl rfl ?_
                    refine xg_X3_0 h in_X3_measure_X3 (by decide +kernel) dX3_measure_151 ?_
                    refine x_iconst h (nI 3) dX3_measure_154 (by decide) ?_
                    refine x_iload_n h 2 dX3_measure_155 rfl rfl ?_
                    refine x_imul_n h dX3_measure_156 ?_
                    refine x_iload h 0 dX3_measure_157 rfl ?_
                    refine x_iadd_n h dX3_measure_159 ?_
                    refine xl_150 h dX3_measure_160 (by omega) ?_
                    refine x_top ((ngh (nb 0 u))) ((congrFun (hFc.1 150 (by decide) (by decide) (by decide) (by decide)) _).trans (hNb u 0 hu (by decide))) ?_
                    refine x_iload_n h 1 dX3_measure_161 rfl rfl ?_
                    refine x_aload_n h 3 dX3_measure_162 rfl rfl ?_
                    refine x_iload_n h 2 dX3_measure_163 rfl rfl ?_
                    refine x_iload h 0 dX3_measure_164 rfl ?_
                    refine x_callV h (As := [.int (nI u), .int (nI 0)]) 2 hx (c_X3_moveCost ((hFc.2 8 (by decide) (by decide)).trans hvc) (by omega) (by decide)) gX3_measure_X3_moveCost rfl ⟨rfl, rfl⟩ (by decide +kernel) rfl (by decide) (by decide) E_149 rfl rfl (Nat.le_of_ble_eq_true rfl) dX3_measure_166 (fun rv M' P' hp => ?_)
                    obtain ⟨⟨rfl, rfl⟩, rfl⟩ := hp
                    refine x_iadd_n h dX3_measure_169 ?_
                    refine x_callVv h (As := [.int (ngh (nb 0 u)), .int (nI (((D u) + w) + (mv vc 0 u)))]) 2 hx (c_X3_offer (o := nb 0 u) (z := D u + w + mv vc 0 u) (tw := tw) (fun t e => nb_lt hu e) (fun t e => (congrFun (hFc.1 152 (by decide) (by decide) (by decide) (by decide)) t).trans (hT t (nb_lt hu e))) hw hmid.1.1 (by have := mv_le (k := 0) (c := u) hv.2; omega) hQc hmid.1.2.1 hmid.1.2.2) gX3_measure_X3_offer rfl ⟨rfl, rfl⟩ (by decide +kernel) rfl (by decide) (by decide) E_149 rfl rfl (Nat.le_of_ble_eq_true rfl) dX3_measure_170 (fun M170_0 P' hp => ?_)
                    obtain ⟨rfl, hFn, hQn⟩ := hp
                    replace hFc := FrQ_tr hFc hFn
                    replace hQc := hQn
                    refine x_iinc_n h 0 (n := 1) [(4, .int (nI (0 + 1))), (3, .int (nI ((D u) + w))), (2, .int (nI u)), (0, .ref (g.1 149)), (1, .int (nI r))] dX3_measure_173 rfl (by decide) rfl ?_
                    refine x_goto h 143 dX3_measure_176 (by decide) ?_
                    refine x_iload h 0 dX3_measure_143 rfl ?_
                    refine x_iconst h (nI 3) dX3_measure_145 (by decide) ?_
                    refine x_icmp_ge h 179 dX3_measure_146 (by decide) (fun c => absurd c (by decide)) (fun _ => ?_)
                    refine x_aload_n h 3 dX3_measure_149 rfl rfl ?_
                    refine x_aload_n h 3 dX3_measure_150 rfl rfl ?_
                    refine xg_X3_0 h in_X3_measure_X3 (by decide +kernel) dX3_measure_151 ?_
                    refine x_iconst h (nI 3) dX3_measure_154 (by decide) ?_
                    refine x_iload_n h 2 dX3_measure_155 rfl rfl ?_
                    refine x_imul_n h dX3_measure_156 ?_
                    refine x_iload h 0 dX3_measure_157 rfl ?_
                    refine x_iadd_n h dX3_measure_159 ?_
                    refine xl_150 h dX3_measure_160 (by omega) ?_
                    refine x_top ((ngh (nb 1 u))) ((congrFun (hFc.1 150 (by decide) (by decide) (by decide) (by decide)) _).trans (hNb u 1 hu (by decide))) ?_
                    refine x_iload_n h 1 dX3_measure_161 rfl rfl ?_
                    refine x_aload_n h 3 dX3_measure_162 rfl rfl ?_
                    refine x_iload_n h 2 dX3_measure_163 rfl rfl ?_
                    refine x_iload h 0 dX3_measure_164 rfl ?_
                    refine x_callV h (As := [.int (nI u), .int (nI (0 + 1))]) 2 hx (c_X3_moveCost ((hFc.2 8 (by decide) (by decide)).trans hvc) (by omega) (by decide)) gX3_measure_X3_moveCost rfl ⟨rfl, rfl⟩ (by decide +kernel) rfl (by decide) (by decide) E_149 rfl rfl (Nat.le_of_ble_eq_true rfl) dX3_measure_166 (fun rv M' P' hp => ?_)
                    obtain ⟨⟨rfl, rfl⟩, rfl⟩ := hp
                    refine x_iadd_n h dX3_measure_169 ?_
                    refine x_callVv h (As := [.int (ngh (nb 1 u)), .int (nI (((D u) + w) + (mv vc (0 + 1) u)))]) 2 hx (c_X3_offer (o := nb 1 u) (z := D u + w + mv vc 1 u) (tw := tw) (fun t e => nb_lt hu e) (fun t e => (congrFun (hFc.1 152 (by decide) (by decide) (by decide) (by decide)) t).trans (hT t (nb_lt hu e))) hw hmid.2.1.1 (by have := mv_le (k := 1) (c := u) hv.2; omega) hQc hmid.2.1.2.1 hmid.2.1.2.2) gX3_measure_X3_offer rfl ⟨rfl, rfl⟩ (by decide +kernel) rfl (by decide) (by decide) E_149 rfl rfl (Nat.le_of_ble_eq_true rfl) dX3_measure_170 (fun M170_1 P' hp => ?_)
                    obtain ⟨rfl, hFn, hQn⟩ := hp
                    replace hFc := FrQ_tr hFc hFn
                    replace hQc := hQn
                    refine x_iinc_n h 0 (n := 1) [(4, .int (nI ((0 + 1) + 1))), (3, .int (nI ((D u) + w))), (2, .int (nI u)), (0, .ref (g.1 149)), (1, .int (nI r))] dX3_measure_173 rfl (by decide) rfl ?_
                    refine x_goto h 143 dX3_measure_176 (by decide) ?_
                    refine x_iload h 0 dX3_measure_143 rfl ?_
                    refine x_iconst h (nI 3) dX3_measure_145 (by decide) ?_
                    refine x_icmp_ge h 179 dX3_measure_146 (by decide) (fun c => absurd c (by decide)) (fun _ => ?_)
                    refine x_aload_n h 3 dX3_measure_149 rfl rfl ?_
                    refine x_aload_n h 3 dX3_measure_150 rfl rfl ?_
                    refine xg_X3_0 h in_X3_measure_X3 (by decide +kernel) dX3_measure_151 ?_
                    refine x_iconst h (nI 3) dX3_measure_154 (by decide) ?_
                    refine x_iload_n h 2 dX3_measure_155 rfl rfl ?_
                    refine x_imul_n h dX3_measure_156 ?_
                    refine x_iload h 0 dX3_measure_157 rfl ?_
                    refine x_iadd_n h dX3_measure_159 ?_
                    refine xl_150 h dX3_measure_160 (by omega) ?_
                    refine x_top ((ngh (nb 2 u))) ((congrFun (hFc.1 150 (by decide) (by decide) (by decide) (by decide)) _).trans (hNb u 2 hu (by decide))) ?_
                    refine x_iload_n h 1 dX3_measure_161 rfl rfl ?_
                    refine x_aload_n h 3 dX3_measure_162 rfl rfl ?_
                    refine x_iload_n h 2 dX3_measure_163 rfl rfl ?_
                    refine x_iload h 0 dX3_measure_164 rfl ?_
                    refine x_callV h (As := [.int (nI u), .int (nI ((0 + 1) + 1))]) 2 hx (c_X3_moveCost ((hFc.2 8 (by decide) (by decide)).trans hvc) (by omega) (by decide)) gX3_measure_X3_moveCost rfl ⟨rfl, rfl⟩ (by decide +kernel) rfl (by decide) (by decide) E_149 rfl rfl (Nat.le_of_ble_eq_true rfl) dX3_measure_166 (fun rv M' P' hp => ?_)
                    obtain ⟨⟨rfl, rfl⟩, rfl⟩ := hp
                    refine x_iadd_n h dX3_measure_169 ?_
                    refine x_callVv h (As := [.int (ngh (nb 2 u)), .int (nI (((D u) + w) + (mv vc ((0 + 1) + 1) u)))]) 2 hx (c_X3_offer (o := nb 2 u) (z := D u + w + mv vc 2 u) (tw := tw) (fun t e => nb_lt hu e) (fun t e => (congrFun (hFc.1 152 (by decide) (by decide) (by decide) (by decide)) t).trans (hT t (nb_lt hu e))) hw hmid.2.2.1.1 (by have := mv_le (k := 2) (c := u) hv.2; omega) hQc hmid.2.2.1.2.1 hmid.2.2.1.2.2) gX3_measure_X3_offer rfl ⟨rfl, rfl⟩ (by decide +kernel) rfl (by decide) (by decide) E_149 rfl rfl (Nat.le_of_ble_eq_true rfl) dX3_measure_170 (fun M170_2 P' hp => ?_)
                    obtain ⟨rfl, hFn, hQn⟩ := hp
                    replace hFc := FrQ_tr hFc hFn
                    replace hQc := hQn
                    refine x_iinc_n h 0 (n := 1) [(4, .int (nI (((0 + 1) + 1) + 1))), (3, .int (nI ((D u) + w))), (2, .int (nI u)), (0, .ref (g.1 149)), (1, .int (nI r))] dX3_measure_173 rfl (by decide) rfl ?_
                    refine x_goto h 143 dX3_measure_176 (by decide) ?_
                    refine x_iload h 0 dX3_measure_143 rfl ?_
                    refine x_iconst h (nI 3) dX3_measure_145 (by decide) ?_
                    refine x_icmp_ge h 179 dX3_measure_146 (by decide) (fun _ => ?_) (fun c => absurd (by decide) c)
                    refine x_iinc_n h 4 (n := 1) [(1, .int (nI (r + 1))), (4, .int (nI (((0 + 1) + 1) + 1))), (3, .int (nI ((D u) + w))), (2, .int (nI u)), (0, .ref (g.1 149))] dX3_measure_179 rfl (by decide) rfl ?_
                    refine x_goto h 72 dX3_measure_182 (by decide) ?_
                    exact x_lv (ih72 (r + 1) (n - 1) M170_2 ((stp vc tw D u q2).1) ((stp vc tw D u q2).2) ((f + 1) % 162) (by have := hst.1; omega) (by omega) (by exact hFc) (by rw [← hmid.2.2.2]; exact hQc) (by exact (SI_stp (dS_sol hv.1 tw J) hJt hSI).1) (by exact hst.2)) [4, 0] rfl
              exact x_lv (L72 _ 0 26406 W2 (dst0 J 162) ((List.range 162).filter J) 0 (Nat.lt_succ_self _) (by decide) (by exact hF2) (by obtain rfl : i2 = 162 := (by omega); exact hQ2) (by exact SI_init (dS_sol hv.1 tw J) hJt) (by exact Bd_new (dS_sol hv.1 tw J) hv.1 (SI_init (dS_sol hv.1 tw J) hJt) (by have := nf_le162 tw (dS vc tw J) (dst0 J 162); omega))) [1, 0] rfl
            · -- 46 false
              refine x_aload_n h 0 dX3_measure_49 rfl rfl ?_
              refine xg_X3_1 h in_X3_measure_X3 (by decide +kernel) dX3_measure_50 ?_
              refine x_iload_n h 1 dX3_measure_53 rfl rfl ?_
              refine xl_151 h dX3_measure_54 (by omega) ?_
              refine x_top ((bI (J i2))) ((congrFun (hF2.1 151 (by decide) (by decide) (by decide) (by decide)) _).trans (hJ i2 (by omega))) ?_
              refine x_if_eq h 64 dX3_measure_55 (by decide) (fun c_55 => ?_) (fun c_55 => ?_)
              · -- 55 true
                refine x_iinc_n h 1 (n := 1) [(1, .int (nI (i2 + 1))), (0, .ref (g.1 149))] dX3_measure_64 rfl (by decide) rfl ?_
                refine x_goto h 42 dX3_measure_67 (by decide) ?_
                exact x_lv (ih42 (i2 + 1) W2 (by omega) (by omega) (by first | exact hF2 | exact FrQ_tr hF2 hF61) (by first | (rw [dst0_no (bI_0 c_55), filter_no (bI_0 c_55)]; exact hQ2) | (rw [offr_init (bI_1 c_55) (hJt i2 (bI_1 c_55))] at hQ61; exact hQ61))) [1, 0] rfl
              · -- 55 false
                refine x_aload_n h 0 dX3_measure_58 rfl rfl ?_
                refine x_iload_n h 1 dX3_measure_59 rfl rfl ?_
                refine x_iconst h (nI 0) dX3_measure_60 (by decide) ?_
                refine x_callVv h (As := [.int (nI i2), .int (nI 0)]) 2 hx (c_X3_offer (o := some i2) (z := 0) (tw := tw) (f := 0) (D := dst0 J i2) (q := (List.range i2).filter J) (fun t e => by cases e; omega) (fun t e => by cases e; exact (congrFun (hF2.1 152 (by decide) (by decide) (by decide) (by decide)) i2).trans (hT i2 (by omega))) hw (fun c _ => dst0_le J i2 c) (by decide) hQ2 (List.Pairwise.sublist List.filter_sublist List.nodup_range) (fun a ha => by have := List.mem_range.mp (List.mem_filter.mp ha).1; omega)) gX3_measure_X3_offer rfl ⟨rfl, rfl⟩ (by decide +kernel) rfl (by decide) (by decide) E_149 rfl rfl (Nat.le_of_ble_eq_true rfl) dX3_measure_61 (fun M61 P' hp => ?_)
                obtain ⟨rfl, hF61, hQ61⟩ := hp
                refine x_iinc_n h 1 (n := 1) [(1, .int (nI (i2 + 1))), (0, .ref (g.1 149))] dX3_measure_64 rfl (by decide) rfl ?_
                refine x_goto h 42 dX3_measure_67 (by decide) ?_
                exact x_lv (ih42 (i2 + 1) M61 (by omega) (by omega) (by first | exact hF2 | exact FrQ_tr hF2 hF61) (by first | (rw [dst0_no (bI_0 c_55), filter_no (bI_0 c_55)]; exact hQ2) | (rw [offr_init (bI_1 c_55) (hJt i2 (bI_1 c_55))] at hQ61; exact hQ61))) [1, 0] rfl
        exact x_lv (L42 _ 0 W (Nat.lt_succ_self _) (by omega) (by exact hF) (by exact QI_0 h6 h7 (fun a ha => hA a (by omega)))) [1, 0] rfl
      · -- 16 false
        refine x_aload_n h 0 dX3_measure_19 rfl rfl ?_
        refine xg_X3_3 h in_X3_measure_X3 (by decide +kernel) dX3_measure_20 ?_
        refine x_iload_n h 1 dX3_measure_23 rfl rfl ?_
        refine x_ldc h (nI 1000000) (by decide +kernel) dX3_measure_24 ?_
        refine xs_153 h dX3_measure_26 (by omega) ?_
        refine x_aload_n h 0 dX3_measure_27 rfl rfl ?_
        refine xg_X3_4 h in_X3_measure_X3 (by decide +kernel) dX3_measure_28 ?_
        refine x_iload_n h 1 dX3_measure_31 rfl rfl ?_
        refine x_iconst h (nI 0) dX3_measure_32 (by decide) ?_
        refine xs_154 h dX3_measure_33 (by decide) (by omega) ?_
        refine x_iinc_n h 1 (n := 1) [(1, .int (nI (i + 1))), (0, .ref (g.1 149))] dX3_measure_34 rfl (by decide) rfl ?_
        refine x_goto h 12 dX3_measure_37 (by decide) ?_
        exact x_lv (ih12 (i + 1) (st2 (st2 W 153 i (nI 1000000)) 154 i (nI 0)) (by omega) (by omega) (by exact FrQ_tr hF (FrQ_tr (FrQ_a _ _ _ (Or.inl rfl)) (FrQ_a _ _ _ (Or.inr (Or.inl rfl))))) (by rw [st2_n _ _ _ (by decide), st2_n _ _ _ (by decide)]; exact h6) (by rw [st2_n _ _ _ (by decide), st2_n _ _ _ (by decide)]; exact h7) (by exact m1_step hA)) [1, 0] rfl
  exact x_lv (L12 _ 0 (st2 (st2 M 149 6 (nI 0)) 149 7 (nI 0)) (Nat.lt_succ_self _) (by omega) (by exact FrQ_tr (FrQ_o M _ (Or.inl rfl)) (FrQ_o _ _ (Or.inr rfl))) (by rw [st2_k, pk_un (by decide), st2_k, pk_us]) (by rw [st2_k, pk_us]) (by exact fun a ha => absurd ha (Nat.not_lt_zero a))) [1, 0] rfl
