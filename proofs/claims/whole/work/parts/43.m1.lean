theorem ct_in {g : GG} {σ : SG} (a b d : Int64) : Cti g yX10_in cX10_in 6 (some .boolean) (rmm 0 0) [.long a, .long b, .long d] σ (fun r σ' => r = (if ¬ a < b ∧ ¬ d < a then 1 else 0) ∧ σ' = σ) := by
  refine Met.ofW (cc := cX10_in) (maxL := 6) (ret := some .boolean) (by decide) rfl ?_
  intro p e s m args below meth c s₁ B hml hv
  obtain ⟨rfl, hP, hK, hst⟩ := hv
  have hts : ∀ w ∈ wtb, w.before ([.long a, .long b, .long d] : List Value).toArray s = true := fun w hw => atoms_spec (ws := cw_ yX10_in cX10_in 6 (some .boolean)) B.pre w (List.mem_cons_of_mem _ hw)
  have hown : s.vm.findClass yX10_in.cls = some m.cls := findClass_of_methodNamed B.named
  have hl := lv_entry [.long a, .long b, .long d] (n := 6) (Nat.le_of_ble_eq_true rfl)
  rw [lg_entry_eq]
  generalize (lg_sl [Value.long a, Value.long b, Value.long d] ++ List.replicate (6 - (lg_sl [Value.long a, Value.long b, Value.long d]).length) Slot.unset).toArray = ls at hl ⊢
  have l0 : ls[0]? = some (.val (.long a)) := hl.2.2 (0, .long a) (by simp [lv_args])
  have l2 : ls[2]? = some (.val (.long b)) := hl.2.2 (2, .long b) (by simp [lv_args, Value.category])
  have l4 : ls[4]? = some (.val (.long d)) := hl.2.2 (4, .long d) (by simp [lv_args, Value.category])
  have F : Fx g p s m ([.long a, .long b, .long d] : List Value).toArray meth c cX10_in 6 (some .boolean) RX10 := ⟨B.exec, B.bytes, B.returns, hml, hown, hts, B.notSynchronized, hK, hst⟩
  have hv0 : lvp ls 6 [] := ⟨hl.1, hl.2.1, fun i v hv => by simp at hv⟩
  have kn : ¬ (¬ a < b ∧ ¬ d < a) → AW g cX10_in 6 (some .boolean) (rmm 0 0) RX10 (va_Qi (fun r σ' => r = (if ¬ a < b ∧ ¬ d < a then 1 else 0) ∧ σ' = σ) (wd g) (reg g)) 17 [] [] σ := fun h => by
    refine aw_ic (nI 0) dX10_in_17 (by decide) ?_
    exact aw_iretz dX10_in_18 (by decide) ⟨(if_neg h).symm, rfl⟩
  have ky : (¬ a < b ∧ ¬ d < a) → AW g cX10_in 6 (some .boolean) (rmm 0 0) RX10 (va_Qi (fun r σ' => r = (if ¬ a < b ∧ ¬ d < a then 1 else 0) ∧ σ' = σ) (wd g) (reg g)) 13 [] [] σ := fun h => by
    refine aw_ic (nI 1) dX10_in_13 (by decide) ?_
    refine aw_goto dX10_in_14 ?_
    exact aw_iretz dX10_in_18 (by decide) ⟨(if_pos h).symm, rfl⟩
  refine lv_lload_n F.1 F.2.1 dX10_in_0.1 rfl l0 ?_
  refine lv_lload_n F.1 F.2.1 dX10_in_1.1 rfl l2 ?_
  refine W.lcmp F.1 F.2.1 dX10_in_2.1 ?_
  refine lv_if_lt F.1 F.2.1 dX10_in_3.1 dX10_in_3.2.2 (fun h => ?_) (fun h => ?_)
  · exact kn (fun z => z.1 ((lg_cmp_lt _ _).mp h)) p e s m _ below meth c s.heap [] ls F hP va_S.rf hv0
  · refine lv_lload_n F.1 F.2.1 dX10_in_6.1 rfl l0 ?_
    refine lv_lload F.1 F.2.1 dX10_in_7.1 l4 ?_
    refine W.lcmp F.1 F.2.1 dX10_in_9.1 ?_
    refine lv_if_gt F.1 F.2.1 dX10_in_10.1 dX10_in_10.2.2 (fun h2 => ?_) (fun h2 => ?_)
    · exact kn (fun z => z.2 ((lg_cmp_gt _ _).mp h2)) p e s m _ below meth c s.heap [] ls F hP va_S.rf hv0
    · exact ky ⟨fun z => h ((lg_cmp_lt _ _).mpr z), fun z => h2 ((lg_cmp_gt _ _).mpr z)⟩ p e s m _ below meth c s.heap [] ls F hP va_S.rf hv0
/-- a place below n, as the reference asks it -/
theorem ct_inN {g : GG} {σ : SG} (x : Int32) {l h : Int64} (n : Nat) (hl : l.toInt = 0) (hh : h.toInt = (n : Int) - 1) (hn : n < 2 ^ 31) : Cti g yX10_in cX10_in 6 (some .boolean) (rmm 0 0) [.long x.toInt64, .long l, .long h] σ (fun r σ' => r = (if ¬ x < 0 ∧ ¬ nI n ≤ x then 1 else 0) ∧ σ' = σ) := by
  have e : (¬ x.toInt64 < l ∧ ¬ h < x.toInt64) ↔ (¬ x < 0 ∧ ¬ nI n ≤ x) := by
    rw [Int64.lt_iff_toInt_lt, Int64.lt_iff_toInt_lt, Int32.lt_iff_toInt_lt, Int32.le_iff_toInt_le, nI_toInt hn, hl, hh, Int32.toInt_toInt64, show (0 : Int32).toInt = 0 by decide]
    omega
  have := ct_in (g := g) (σ := σ) x.toInt64 l h
  simp only [e] at this
  exact this
theorem i64_n {n : Nat} (h : 1 ≤ n) (hn : n < 2 ^ 31) : (nI n - nI 1).toInt64.toInt = (n : Int) - 1 := by
  rw [pk_sub h, Int32.toInt_toInt64, nI_toInt (by omega)]
  omega
theorem i64_m {n : Nat} (hn : n < 2 ^ 31) : (nI n - nI 1).toInt64.toInt = (n : Int) - 1 := by
  by_cases h : 1 ≤ n
  · exact i64_n h hn
  · rw [show n = 0 by omega]
    decide
theorem i64_l {n : Nat} (hn : n < 2 ^ 31) : (nI n).toInt64.toInt = (n : Int) := by rw [Int32.toInt_toInt64, nI_toInt hn]
set_option maxHeartbeats 4000000 in
set_option maxRecDepth 100000 in
theorem ct_less {g : GG} {σ : SG} {a b : Nat} (ha : a < 2 ^ 31) (hb : b < 2 ^ 31) : Cti g yX10_less cX10_less 2 (some .int) (rmm 0 0) [.int (nI a), .int (nI b)] σ (fun r σ' => r = nI (min a b) ∧ σ' = σ) := by
  refine ct_of (own := RX10) (lv := [some (.int (nI a)), some (.int (nI b))]) rfl (by decide) (Nat.le_of_ble_eq_true rfl) (by intro u hu; simp only [List.mem_cons, List.not_mem_nil, or_false] at hu; rcases hu with rfl | rfl <;> rfl) (lv_ok [.int (nI a), .int (nI b)] 0) ?_
  refine aw_iload_n dX10_less_0 rfl ?_
  refine aw_iload_n dX10_less_1 rfl ?_
  refine aw_icmp_geN dX10_less_2 rfl rfl ha hb (fun h_2 => ?_) (fun h_2 => ?_)
  · skip
    refine aw_iload_n dX10_less_9 rfl ?_
    exact aw_ireti dX10_less_10 (⟨by rw [Nat.min_eq_right (by omega)], rfl⟩)
  · skip
    refine aw_iload_n dX10_less_5 rfl ?_
    refine aw_goto dX10_less_6 ?_
    exact aw_ireti dX10_less_10 (⟨by rw [Nat.min_eq_left (by omega)], rfl⟩)

set_option maxHeartbeats 4000000 in
set_option maxRecDepth 100000 in
theorem ct_greater {g : GG} {σ : SG} {a b : Nat} (ha : a < 2 ^ 31) (hb : b < 2 ^ 31) : Cti g yX10_greater cX10_greater 2 (some .int) (rmm 0 0) [.int (nI a), .int (nI b)] σ (fun r σ' => r = nI (max a b) ∧ σ' = σ) := by
  refine ct_of (own := RX10) (lv := [some (.int (nI a)), some (.int (nI b))]) rfl (by decide) (Nat.le_of_ble_eq_true rfl) (by intro u hu; simp only [List.mem_cons, List.not_mem_nil, or_false] at hu; rcases hu with rfl | rfl <;> rfl) (lv_ok [.int (nI a), .int (nI b)] 0) ?_
  refine aw_iload_n dX10_greater_0 rfl ?_
  refine aw_iload_n dX10_greater_1 rfl ?_
  refine aw_icmp_leN dX10_greater_2 rfl rfl ha hb (fun h_2 => ?_) (fun h_2 => ?_)
  · skip
    refine aw_iload_n dX10_greater_9 rfl ?_
    exact aw_ireti dX10_greater_10 (⟨by rw [Nat.max_eq_right (by omega)], rfl⟩)
  · skip
    refine aw_iload_n dX10_greater_5 rfl ?_
    refine aw_goto dX10_greater_6 ?_
    exact aw_ireti dX10_greater_10 (⟨by rw [Nat.max_eq_left (by omega)], rfl⟩)

theorem ite_01 {c : Prop} [Decidable c] : (if c then (1 : Int32) else 0) = 0 ∨ (if c then (1 : Int32) else 0) = 1 := by
  by_cases h : c
  · exact Or.inr (if_pos h)
  · exact Or.inl (if_neg h)
set_option maxHeartbeats 4000000 in
set_option maxRecDepth 100000 in
theorem ct_isPlaceM {g : GG} {σ : SG} (x : Int32) : Cti g yX10_isPlace cX10_isPlace 1 (some .boolean) (rmm 1 25) [.int x] σ (fun r σ' => r = (if ¬ x < 0 ∧ ¬ nI 100 ≤ x then 1 else 0) ∧ σ' = σ) := by
  refine ct_of (own := RX10) (lv := [some (.int x)]) rfl (by decide) (Nat.le_of_ble_eq_true rfl) (by intro u hu; simp only [List.mem_cons, List.not_mem_nil, or_false] at hu; rcases hu with rfl <;> rfl) (lv_ok [.int x] 0) ?_
  refine aw_iload_n dX10_isPlace_0 rfl ?_
  refine aw_i2l dX10_isPlace_1 ?_
  refine aw_lconst dX10_isPlace_2 ?_
  refine aw_ldc2 dX10_isPlace_3 kl10_78 ?_
  refine csq3 dX10_isPlace_6 km10_64 ok_X10_in (Nat.le_of_ble_eq_true rfl) ⟨Nat.le_of_ble_eq_true rfl, Nat.le_of_ble_eq_true rfl⟩ rfl rfl (ct_inN x 100 (by decide) (by decide) (by decide)) ?_
  exact aw_iretz dX10_isPlace_9 (ite_01) (⟨rfl, rfl⟩)

set_option maxHeartbeats 4000000 in
set_option maxRecDepth 100000 in
theorem ct_pieceAt {g : GG} {σ : SG} {r w : Nat} (h : 4 * r + w < 96) : Cti g yX10_pieceAt cX10_pieceAt 3 (some .int) (rmm 0 0) [.ref (ad g 176), .int (nI r), .int (nI w)] σ (fun x σ' => x = σ.2.1 177 (4 * r + w) ∧ σ' = σ) := by
  refine ct_of (own := RX10) (lv := [some (.ref (ad g 176)), some (.int (nI r)), some (.int (nI w))]) rfl (by decide) (Nat.le_of_ble_eq_true rfl) (by intro u hu; simp only [List.mem_cons, List.not_mem_nil, or_false] at hu; rcases hu with rfl | rfl | rfl <;> rfl) (lv_ok [.ref (ad g 176), .int (nI r), .int (nI w)] 0) ?_
  have hl := l_177
  refine aw_aload_n dX10_pieceAt_0 rfl ?_
  refine gf10_drawn dX10_pieceAt_1 kf10_7 k_176 ?_
  refine aw_eqr (b := 177) rfl ?_
  refine aw_ic (nI 4) dX10_pieceAt_4 (by decide) ?_
  refine aw_iload_n dX10_pieceAt_5 rfl ?_
  refine aw_imul dX10_pieceAt_6 ?_
  refine aw_iload_n dX10_pieceAt_7 rfl ?_
  refine aw_iadd dX10_pieceAt_8 ?_
  refine aw_ld (4 * r + w) dX10_pieceAt_9 k_177 (by rw [pk_mul, nI_add]) (by omega) ?_
  exact aw_ireti dX10_pieceAt_10 (⟨rfl, rfl⟩)

set_option maxHeartbeats 4000000 in
set_option maxRecDepth 100000 in
theorem ct_boxAt {g : GG} {σ : SG} {r w : Nat} (h : 4 * r + w < 80) : Cti g yX10_boxAt cX10_boxAt 3 (some .int) (rmm 0 0) [.ref (ad g 176), .int (nI r), .int (nI w)] σ (fun x σ' => x = σ.2.1 178 (4 * r + w) ∧ σ' = σ) := by
  refine ct_of (own := RX10) (lv := [some (.ref (ad g 176)), some (.int (nI r)), some (.int (nI w))]) rfl (by decide) (Nat.le_of_ble_eq_true rfl) (by intro u hu; simp only [List.mem_cons, List.not_mem_nil, or_false] at hu; rcases hu with rfl | rfl | rfl <;> rfl) (lv_ok [.ref (ad g 176), .int (nI r), .int (nI w)] 0) ?_
  have hl := l_178
  refine aw_aload_n dX10_boxAt_0 rfl ?_
  refine gf10_boxes dX10_boxAt_1 kf10_13 k_176 ?_
  refine aw_eqr (b := 178) rfl ?_
  refine aw_ic (nI 4) dX10_boxAt_4 (by decide) ?_
  refine aw_iload_n dX10_boxAt_5 rfl ?_
  refine aw_imul dX10_boxAt_6 ?_
  refine aw_iload_n dX10_boxAt_7 rfl ?_
  refine aw_iadd dX10_boxAt_8 ?_
  refine aw_ld (4 * r + w) dX10_boxAt_9 k_178 (by rw [pk_mul, nI_add]) (by omega) ?_
  exact aw_ireti dX10_boxAt_10 (⟨rfl, rfl⟩)

set_option maxHeartbeats 4000000 in
set_option maxRecDepth 100000 in
theorem ct_ruleAt {g : GG} {σ : SG} {r w : Nat} (h : 7 * r + w < 168) : Cti g yX10_ruleAt cX10_ruleAt 3 (some .int) (rmm 0 0) [.ref (ad g 176), .int (nI r), .int (nI w)] σ (fun x σ' => x = σ.2.1 181 (7 * r + w) ∧ σ' = σ) := by
  refine ct_of (own := RX10) (lv := [some (.ref (ad g 176)), some (.int (nI r)), some (.int (nI w))]) rfl (by decide) (Nat.le_of_ble_eq_true rfl) (by intro u hu; simp only [List.mem_cons, List.not_mem_nil, or_false] at hu; rcases hu with rfl | rfl | rfl <;> rfl) (lv_ok [.ref (ad g 176), .int (nI r), .int (nI w)] 0) ?_
  have hl := l_181
  refine aw_aload_n dX10_ruleAt_0 rfl ?_
  refine gf10_rules dX10_ruleAt_1 kf10_22 k_176 ?_
  refine aw_eqr (b := 181) rfl ?_
  refine aw_bi (nI 7) dX10_ruleAt_4 (by decide) ?_
  refine aw_iload_n dX10_ruleAt_6 rfl ?_
  refine aw_imul dX10_ruleAt_7 ?_
  refine aw_iload_n dX10_ruleAt_8 rfl ?_
  refine aw_iadd dX10_ruleAt_9 ?_
  refine aw_ld (7 * r + w) dX10_ruleAt_10 k_181 (by rw [pk_mul, nI_add]) (by omega) ?_
  exact aw_ireti dX10_ruleAt_11 (⟨rfl, rfl⟩)

set_option maxHeartbeats 4000000 in
set_option maxRecDepth 100000 in
theorem ct_cellAt {g : GG} {σ : SG} {r w : Nat} (h : 6 * r + w < 726) : Cti g yX10_cellAt cX10_cellAt 3 (some .int) (rmm 0 0) [.ref (ad g 176), .int (nI r), .int (nI w)] σ (fun x σ' => x = σ.2.1 188 (6 * r + w) ∧ σ' = σ) := by
  refine ct_of (own := RX10) (lv := [some (.ref (ad g 176)), some (.int (nI r)), some (.int (nI w))]) rfl (by decide) (Nat.le_of_ble_eq_true rfl) (by intro u hu; simp only [List.mem_cons, List.not_mem_nil, or_false] at hu; rcases hu with rfl | rfl | rfl <;> rfl) (lv_ok [.ref (ad g 176), .int (nI r), .int (nI w)] 0) ?_
  have hl := l_188
  refine aw_aload_n dX10_cellAt_0 rfl ?_
  refine gf10_cells dX10_cellAt_1 kf10_43 k_176 ?_
  refine aw_eqr (b := 188) rfl ?_
  refine aw_bi (nI 6) dX10_cellAt_4 (by decide) ?_
  refine aw_iload_n dX10_cellAt_6 rfl ?_
  refine aw_imul dX10_cellAt_7 ?_
  refine aw_iload_n dX10_cellAt_8 rfl ?_
  refine aw_iadd dX10_cellAt_9 ?_
  refine aw_ld (6 * r + w) dX10_cellAt_10 k_188 (by rw [pk_mul, nI_add]) (by omega) ?_
  exact aw_ireti dX10_cellAt_11 (⟨rfl, rfl⟩)

