set_option maxHeartbeats 4000000 in
set_option maxRecDepth 100000 in
theorem ct_rulesOf {g : GG} {σ : SG} {t m rc nr nc : Nat} {inT : Nat → Bool} {R : Nat → Nat → Nat} (h : TbF σ t m rc nr nc inT R) : Cti g yX10_rulesOf cX10_rulesOf 4 (some .int) (rmm 1 22) [.ref (ad g 176), .int (nI t)] σ (fun r σ' => r = nI (ctB inT m) ∧ σ' = σ) := by
  refine ct_of (own := RX10) (lv := [some (.ref (ad g 176)), some (.int (nI t)), none, none]) rfl (by decide) (Nat.le_of_ble_eq_true rfl) (by intro u hu; simp only [List.mem_cons, List.not_mem_nil, or_false] at hu; rcases hu with rfl | rfl <;> rfl) (lv_ok [.ref (ad g 176), .int (nI t)] 2) ?_
  have hm24 := h.1.2.2.2.1
  refine aw_ic (nI 0) dX10_rulesOf_0 (by decide) ?_
  refine aw_istore_n dX10_rulesOf_1 (Nat.le_of_ble_eq_true rfl) ?_
  refine aw_ic (nI 0) dX10_rulesOf_2 (by decide) ?_
  refine aw_istore_n dX10_rulesOf_3 (Nat.le_of_ble_eq_true rfl) ?_
  refine for_ux (fun i σ' lv' => σ = σ' ∧ lv' = [some (.ref (ad g 176)), some (.int (nI t)), some (.int (nI (ctB inT i))), some (.int (nI i))]) (m) ?_ ?_ (0) _ _ (by omega) (⟨rfl, rfl⟩)
  · rintro i σ2 lv2 hi ⟨rfl, rfl⟩ ih
    refine aw_iload_n dX10_rulesOf_4 rfl ?_
    refine aw_aload_n dX10_rulesOf_5 rfl ?_
    refine gf10_ruleMany dX10_rulesOf_6 kf10_105 k_176 ?_
    refine aw_eq h.1.1 ?_
    refine aw_icmp_geN dX10_rulesOf_9 rfl rfl (by omega) (by omega) (fun h_9 => absurd h_9 (by omega)) (fun h_9 => ?_)
    refine aw_iload_n dX10_rulesOf_12 rfl ?_
    refine aw_aload_n dX10_rulesOf_13 rfl ?_
    refine aw_iload_n dX10_rulesOf_14 rfl ?_
    refine aw_bi (nI 6) dX10_rulesOf_15 (by decide) ?_
    refine cqi2 dX10_rulesOf_17 km10_108 ok_X10_ruleAt rfl rfl (by decide) k_176 (Nat.le_of_ble_eq_true rfl) ⟨Nat.le_of_ble_eq_true rfl, Nat.le_of_ble_eq_true rfl⟩ rfl rfl (ct_ruleAt (r := i) (w := 6) (by omega)) ?_
    refine aw_iload_n dX10_rulesOf_20 rfl ?_
    refine aw_icmp_ne dX10_rulesOf_21 (fun h_21 => ?_) (fun h_21 => ?_)
    · skip
      refine aw_ic (nI 0) dX10_rulesOf_28 (by decide) ?_
      refine aw_iadd dX10_rulesOf_29 ?_
      refine aw_eq (nI_add _ _) ?_
      refine aw_istore_n dX10_rulesOf_30 (Nat.le_of_ble_eq_true rfl) ?_
      refine aw_inc (nI (i + 1)) dX10_rulesOf_31 rfl (Nat.le_of_ble_eq_true rfl) (nI_1 i) ?_
      refine aw_goto dX10_rulesOf_34 ?_
      exact ih _ _ ⟨rfl, by rw [ctB_no (fun z => h_21 ((h.1.2.2.2.2 i hi).mpr z))]; rfl⟩
    · skip
      refine aw_ic (nI 1) dX10_rulesOf_24 (by decide) ?_
      refine aw_goto dX10_rulesOf_25 ?_
      refine aw_iadd dX10_rulesOf_29 ?_
      refine aw_eq (nI_add _ _) ?_
      refine aw_istore_n dX10_rulesOf_30 (Nat.le_of_ble_eq_true rfl) ?_
      refine aw_inc (nI (i + 1)) dX10_rulesOf_31 rfl (Nat.le_of_ble_eq_true rfl) (nI_1 i) ?_
      refine aw_goto dX10_rulesOf_34 ?_
      exact ih _ _ ⟨rfl, by rw [ctB_s ((h.1.2.2.2.2 i hi).mp h_21)]; rfl⟩
  · rintro σ2 lv2 ⟨rfl, rfl⟩
    refine aw_iload_n dX10_rulesOf_4 rfl ?_
    refine aw_aload_n dX10_rulesOf_5 rfl ?_
    refine gf10_ruleMany dX10_rulesOf_6 kf10_105 k_176 ?_
    refine aw_eq h.1.1 ?_
    refine aw_icmp_geN dX10_rulesOf_9 rfl rfl (by omega) (by omega) (fun h_9 => ?_) (fun h_9 => absurd h_9 (by omega))
    refine aw_iload_n dX10_rulesOf_37 rfl ?_
    exact aw_ireti dX10_rulesOf_38 (⟨rfl, rfl⟩)

set_option maxHeartbeats 4000000 in
set_option maxRecDepth 100000 in
theorem ct_wordsOf {g : GG} {σ : SG} {nw : Nat} {p : Nat → Bool} {x : Int32} (hcw : σ.1 323 176 = nI nw) (hnw : nw ≤ 20) (hp : ∀ y, y < nw → (σ.2.1 189 y = x ↔ p y = true)) : Cti g yX10_wordsOf cX10_wordsOf 4 (some .int) (rmm 0 0) [.ref (ad g 176), .int x] σ (fun r σ' => r = nI (ctB p nw) ∧ σ' = σ) := by
  refine ct_of (own := RX10) (lv := [some (.ref (ad g 176)), some (.int x), none, none]) rfl (by decide) (Nat.le_of_ble_eq_true rfl) (by intro u hu; simp only [List.mem_cons, List.not_mem_nil, or_false] at hu; rcases hu with rfl | rfl <;> rfl) (lv_ok [.ref (ad g 176), .int x] 2) ?_
  have hl189 := l_189
  refine aw_ic (nI 0) dX10_wordsOf_0 (by decide) ?_
  refine aw_istore_n dX10_wordsOf_1 (Nat.le_of_ble_eq_true rfl) ?_
  refine aw_ic (nI 0) dX10_wordsOf_2 (by decide) ?_
  refine aw_istore_n dX10_wordsOf_3 (Nat.le_of_ble_eq_true rfl) ?_
  refine for_ux (fun i σ' lv' => σ = σ' ∧ lv' = [some (.ref (ad g 176)), some (.int x), some (.int (nI (ctB p i))), some (.int (nI i))]) (nw) ?_ ?_ (0) _ _ (by omega) (⟨rfl, rfl⟩)
  · rintro i σ2 lv2 hi ⟨rfl, rfl⟩ ih
    refine aw_iload_n dX10_wordsOf_4 rfl ?_
    refine aw_aload_n dX10_wordsOf_5 rfl ?_
    refine gf10_boxMany dX10_wordsOf_6 kf10_92 k_176 ?_
    refine aw_eq hcw ?_
    refine aw_icmp_geN dX10_wordsOf_9 rfl rfl (by omega) (by omega) (fun h_9 => absurd h_9 (by omega)) (fun h_9 => ?_)
    refine aw_iload_n dX10_wordsOf_12 rfl ?_
    refine aw_aload_n dX10_wordsOf_13 rfl ?_
    refine gf10_wordTable dX10_wordsOf_14 kf10_46 k_176 ?_
    refine aw_eqr (b := 189) rfl ?_
    refine aw_iload_n dX10_wordsOf_17 rfl ?_
    refine aw_ld (i) dX10_wordsOf_18 k_189 (rfl) (by omega) ?_
    refine aw_iload_n dX10_wordsOf_19 rfl ?_
    refine aw_icmp_ne dX10_wordsOf_20 (fun h_20 => ?_) (fun h_20 => ?_)
    · skip
      refine aw_ic (nI 0) dX10_wordsOf_27 (by decide) ?_
      refine aw_iadd dX10_wordsOf_28 ?_
      refine aw_eq (nI_add _ _) ?_
      refine aw_istore_n dX10_wordsOf_29 (Nat.le_of_ble_eq_true rfl) ?_
      refine aw_inc (nI (i + 1)) dX10_wordsOf_30 rfl (Nat.le_of_ble_eq_true rfl) (nI_1 i) ?_
      refine aw_goto dX10_wordsOf_33 ?_
      exact ih _ _ ⟨rfl, by rw [ctB_no (fun z => h_20 ((hp i hi).mpr z))]; rfl⟩
    · skip
      refine aw_ic (nI 1) dX10_wordsOf_23 (by decide) ?_
      refine aw_goto dX10_wordsOf_24 ?_
      refine aw_iadd dX10_wordsOf_28 ?_
      refine aw_eq (nI_add _ _) ?_
      refine aw_istore_n dX10_wordsOf_29 (Nat.le_of_ble_eq_true rfl) ?_
      refine aw_inc (nI (i + 1)) dX10_wordsOf_30 rfl (Nat.le_of_ble_eq_true rfl) (nI_1 i) ?_
      refine aw_goto dX10_wordsOf_33 ?_
      exact ih _ _ ⟨rfl, by rw [ctB_s ((hp i hi).mp h_20)]; rfl⟩
  · rintro σ2 lv2 ⟨rfl, rfl⟩
    refine aw_iload_n dX10_wordsOf_4 rfl ?_
    refine aw_aload_n dX10_wordsOf_5 rfl ?_
    refine gf10_boxMany dX10_wordsOf_6 kf10_92 k_176 ?_
    refine aw_eq hcw ?_
    refine aw_icmp_geN dX10_wordsOf_9 rfl rfl (by omega) (by omega) (fun h_9 => ?_) (fun h_9 => absurd h_9 (by omega))
    refine aw_iload_n dX10_wordsOf_36 rfl ?_
    exact aw_ireti dX10_wordsOf_37 (⟨rfl, rfl⟩)

set_option maxHeartbeats 4000000 in
set_option maxRecDepth 100000 in
theorem ct_wholeOf {g : GG} {σ : SG} {t CF cc : Nat} {cv : Nat → Nat → Nat} (ht : t < 6) (h1 : σ.2.1 186 t = nI CF) (h2 : σ.2.1 186 (t + 1) = nI (CF + cc)) (hb : CF + cc ≤ 121) (hc : ∀ q, q < cc → σ.2.1 188 (6 * (CF + q) + 5) = nI (cv q 5)) (hcb : ∀ q, q < cc → cv q 5 ≤ 999) : Cti g yX10_wholeOf cX10_wholeOf 4 (some .int) (rmm 1 22) [.ref (ad g 176), .int (nI t)] σ (fun r σ' => r = nI (ctB (fun q => decide (cv q 5 = 0)) cc) ∧ σ' = σ) := by
  refine ct_of (own := RX10) (lv := [some (.ref (ad g 176)), some (.int (nI t)), none, none]) rfl (by decide) (Nat.le_of_ble_eq_true rfl) (by intro u hu; simp only [List.mem_cons, List.not_mem_nil, or_false] at hu; rcases hu with rfl | rfl <;> rfl) (lv_ok [.ref (ad g 176), .int (nI t)] 2) ?_
  have hl186 := l_186
  refine aw_ic (nI 0) dX10_wholeOf_0 (by decide) ?_
  refine aw_istore_n dX10_wholeOf_1 (Nat.le_of_ble_eq_true rfl) ?_
  refine aw_aload_n dX10_wholeOf_2 rfl ?_
  refine gf10_cellFrom dX10_wholeOf_3 kf10_37 k_176 ?_
  refine aw_eqr (b := 186) rfl ?_
  refine aw_iload_n dX10_wholeOf_6 rfl ?_
  refine aw_ld (t) dX10_wholeOf_7 k_186 (rfl) (by omega) ?_
  refine aw_eq h1 ?_
  refine aw_istore_n dX10_wholeOf_8 (Nat.le_of_ble_eq_true rfl) ?_
  refine for_ux (fun i σ' lv' => σ = σ' ∧ lv' = [some (.ref (ad g 176)), some (.int (nI t)), some (.int (nI (ctB (fun q => decide (cv q 5 = 0)) i))), some (.int (nI (CF + i)))]) (cc) ?_ ?_ (0) _ _ (by omega) (⟨rfl, rfl⟩)
  · rintro i σ2 lv2 hi ⟨rfl, rfl⟩ ih
    refine aw_iload_n dX10_wholeOf_9 rfl ?_
    refine aw_aload_n dX10_wholeOf_10 rfl ?_
    refine gf10_cellFrom dX10_wholeOf_11 kf10_37 k_176 ?_
    refine aw_eqr (b := 186) rfl ?_
    refine aw_iload_n dX10_wholeOf_14 rfl ?_
    refine aw_ic (nI 1) dX10_wholeOf_15 (by decide) ?_
    refine aw_iadd dX10_wholeOf_16 ?_
    refine aw_eq (nI_add _ _) ?_
    refine aw_ld (t + 1) dX10_wholeOf_17 k_186 (rfl) (by omega) ?_
    refine aw_eq h2 ?_
    refine aw_icmp_geN dX10_wholeOf_18 rfl rfl (by omega) (by omega) (fun h_18 => absurd h_18 (by omega)) (fun h_18 => ?_)
    refine aw_iload_n dX10_wholeOf_21 rfl ?_
    refine aw_aload_n dX10_wholeOf_22 rfl ?_
    refine aw_iload_n dX10_wholeOf_23 rfl ?_
    refine aw_ic (nI 5) dX10_wholeOf_24 (by decide) ?_
    refine cqi2 dX10_wholeOf_25 km10_174 ok_X10_cellAt rfl rfl (by decide) k_176 (Nat.le_of_ble_eq_true rfl) ⟨Nat.le_of_ble_eq_true rfl, Nat.le_of_ble_eq_true rfl⟩ rfl rfl (ct_cellAt (r := CF + i) (w := 5) (by omega)) ?_
    refine aw_eq (hc i hi) ?_
    refine aw_if_neN dX10_wholeOf_28 rfl (by have := hcb i hi; omega) (fun h_28 => ?_) (fun h_28 => ?_)
    · skip
      refine aw_ic (nI 0) dX10_wholeOf_35 (by decide) ?_
      refine aw_iadd dX10_wholeOf_36 ?_
      refine aw_eq (nI_add _ _) ?_
      refine aw_istore_n dX10_wholeOf_37 (Nat.le_of_ble_eq_true rfl) ?_
      refine aw_inc (nI (CF + i + 1)) dX10_wholeOf_38 rfl (Nat.le_of_ble_eq_true rfl) (nI_1 _) ?_
      refine aw_goto dX10_wholeOf_41 ?_
      exact ih _ _ ⟨rfl, by rw [ctB_no (p := (fun q => decide (cv q 5 = 0))) (fun z => h_28 (of_decide_eq_true z))]; rfl⟩
    · skip
      refine aw_ic (nI 1) dX10_wholeOf_31 (by decide) ?_
      refine aw_goto dX10_wholeOf_32 ?_
      refine aw_iadd dX10_wholeOf_36 ?_
      refine aw_eq (nI_add _ _) ?_
      refine aw_istore_n dX10_wholeOf_37 (Nat.le_of_ble_eq_true rfl) ?_
      refine aw_inc (nI (CF + i + 1)) dX10_wholeOf_38 rfl (Nat.le_of_ble_eq_true rfl) (nI_1 _) ?_
      refine aw_goto dX10_wholeOf_41 ?_
      exact ih _ _ ⟨rfl, by rw [ctB_s (p := (fun q => decide (cv q 5 = 0))) (decide_eq_true h_28)]; rfl⟩
  · rintro σ2 lv2 ⟨rfl, rfl⟩
    refine aw_iload_n dX10_wholeOf_9 rfl ?_
    refine aw_aload_n dX10_wholeOf_10 rfl ?_
    refine gf10_cellFrom dX10_wholeOf_11 kf10_37 k_176 ?_
    refine aw_eqr (b := 186) rfl ?_
    refine aw_iload_n dX10_wholeOf_14 rfl ?_
    refine aw_ic (nI 1) dX10_wholeOf_15 (by decide) ?_
    refine aw_iadd dX10_wholeOf_16 ?_
    refine aw_eq (nI_add _ _) ?_
    refine aw_ld (t + 1) dX10_wholeOf_17 k_186 (rfl) (by omega) ?_
    refine aw_eq h2 ?_
    refine aw_icmp_geN dX10_wholeOf_18 rfl rfl (by omega) (by omega) (fun h_18 => ?_) (fun h_18 => absurd h_18 (by omega))
    refine aw_iload_n dX10_wholeOf_44 rfl ?_
    exact aw_ireti dX10_wholeOf_45 (⟨rfl, rfl⟩)

set_option maxHeartbeats 4000000 in
set_option maxRecDepth 100000 in
theorem ct_wordsIn {g : GG} {σ : SG} {nw : Nat} {p : Nat → Bool} {c : Int32} (hcw : σ.1 323 176 = nI nw) (hnw : nw ≤ 20) (hp : ∀ y, y < nw → ((¬ σ.2.1 189 y < 0 ∧ σ.2.1 190 y = c) ↔ p y = true)) : Cti g yX10_wordsIn cX10_wordsIn 4 (some .int) (rmm 0 0) [.ref (ad g 176), .int c] σ (fun r σ' => r = nI (ctB p nw) ∧ σ' = σ) := by
  refine ct_of (own := RX10) (lv := [some (.ref (ad g 176)), some (.int c), none, none]) rfl (by decide) (Nat.le_of_ble_eq_true rfl) (by intro u hu; simp only [List.mem_cons, List.not_mem_nil, or_false] at hu; rcases hu with rfl | rfl <;> rfl) (lv_ok [.ref (ad g 176), .int c] 2) ?_
  have hl189 := l_189
  have hl190 := l_190
  refine aw_ic (nI 0) dX10_wordsIn_0 (by decide) ?_
  refine aw_istore_n dX10_wordsIn_1 (Nat.le_of_ble_eq_true rfl) ?_
  refine aw_ic (nI 0) dX10_wordsIn_2 (by decide) ?_
  refine aw_istore_n dX10_wordsIn_3 (Nat.le_of_ble_eq_true rfl) ?_
  refine for_ux (fun i σ' lv' => σ = σ' ∧ lv' = [some (.ref (ad g 176)), some (.int c), some (.int (nI (ctB p i))), some (.int (nI i))]) (nw) ?_ ?_ (0) _ _ (by omega) (⟨rfl, rfl⟩)
  · rintro i σ2 lv2 hi ⟨rfl, rfl⟩ ih
    refine aw_iload_n dX10_wordsIn_4 rfl ?_
    refine aw_aload_n dX10_wordsIn_5 rfl ?_
    refine gf10_boxMany dX10_wordsIn_6 kf10_92 k_176 ?_
    refine aw_eq hcw ?_
    refine aw_icmp_geN dX10_wordsIn_9 rfl rfl (by omega) (by omega) (fun h_9 => absurd h_9 (by omega)) (fun h_9 => ?_)
    refine aw_iload_n dX10_wordsIn_12 rfl ?_
    refine aw_aload_n dX10_wordsIn_13 rfl ?_
    refine gf10_wordTable dX10_wordsIn_14 kf10_46 k_176 ?_
    refine aw_eqr (b := 189) rfl ?_
    refine aw_iload_n dX10_wordsIn_17 rfl ?_
    refine aw_ld (i) dX10_wordsIn_18 k_189 (rfl) (by omega) ?_
    refine aw_if_lt dX10_wordsIn_19 (fun h_19 => ?_) (fun h_19 => ?_)
    · skip
      refine aw_ic (nI 0) dX10_wordsIn_36 (by decide) ?_
      refine aw_iadd dX10_wordsIn_37 ?_
      refine aw_eq (nI_add _ _) ?_
      refine aw_istore_n dX10_wordsIn_38 (Nat.le_of_ble_eq_true rfl) ?_
      refine aw_inc (nI (i + 1)) dX10_wordsIn_39 rfl (Nat.le_of_ble_eq_true rfl) (nI_1 i) ?_
      refine aw_goto dX10_wordsIn_42 ?_
      exact ih _ _ ⟨rfl, by rw [ctB_no (fun z => ((hp i hi).mpr z).1 h_19)]; rfl⟩
    · skip
      refine aw_aload_n dX10_wordsIn_22 rfl ?_
      refine gf10_wordCell dX10_wordsIn_23 kf10_49 k_176 ?_
      refine aw_eqr (b := 190) rfl ?_
      refine aw_iload_n dX10_wordsIn_26 rfl ?_
      refine aw_ld (i) dX10_wordsIn_27 k_190 (rfl) (by omega) ?_
      refine aw_iload_n dX10_wordsIn_28 rfl ?_
      refine aw_icmp_ne dX10_wordsIn_29 (fun h_29 => ?_) (fun h_29 => ?_)
      · skip
        refine aw_ic (nI 0) dX10_wordsIn_36 (by decide) ?_
        refine aw_iadd dX10_wordsIn_37 ?_
        refine aw_eq (nI_add _ _) ?_
        refine aw_istore_n dX10_wordsIn_38 (Nat.le_of_ble_eq_true rfl) ?_
        refine aw_inc (nI (i + 1)) dX10_wordsIn_39 rfl (Nat.le_of_ble_eq_true rfl) (nI_1 i) ?_
        refine aw_goto dX10_wordsIn_42 ?_
        exact ih _ _ ⟨rfl, by rw [ctB_no (fun z => h_29 ((hp i hi).mpr z).2)]; rfl⟩
      · skip
        refine aw_ic (nI 1) dX10_wordsIn_32 (by decide) ?_
        refine aw_goto dX10_wordsIn_33 ?_
        refine aw_iadd dX10_wordsIn_37 ?_
        refine aw_eq (nI_add _ _) ?_
        refine aw_istore_n dX10_wordsIn_38 (Nat.le_of_ble_eq_true rfl) ?_
        refine aw_inc (nI (i + 1)) dX10_wordsIn_39 rfl (Nat.le_of_ble_eq_true rfl) (nI_1 i) ?_
        refine aw_goto dX10_wordsIn_42 ?_
        exact ih _ _ ⟨rfl, by rw [ctB_s ((hp i hi).mp ⟨h_19, h_29⟩)]; rfl⟩
  · rintro σ2 lv2 ⟨rfl, rfl⟩
    refine aw_iload_n dX10_wordsIn_4 rfl ?_
    refine aw_aload_n dX10_wordsIn_5 rfl ?_
    refine gf10_boxMany dX10_wordsIn_6 kf10_92 k_176 ?_
    refine aw_eq hcw ?_
    refine aw_icmp_geN dX10_wordsIn_9 rfl rfl (by omega) (by omega) (fun h_9 => ?_) (fun h_9 => absurd h_9 (by omega))
    refine aw_iload_n dX10_wordsIn_45 rfl ?_
    exact aw_ireti dX10_wordsIn_46 (⟨rfl, rfl⟩)

set_option maxHeartbeats 4000000 in
set_option maxRecDepth 100000 in
theorem ct_isWordOf {g : GG} {σ : SG} {y : Nat} {b : Bool} {c : Int32} (hy : y < 20) (hp : (¬ σ.2.1 189 y < 0 ∧ σ.2.1 190 y = c) ↔ b = true) : Cti g yX10_isWordOf cX10_isWordOf 3 (some .boolean) (rmm 0 0) [.ref (ad g 176), .int (nI y), .int c] σ (fun r σ' => r = (if b = true then 1 else 0) ∧ σ' = σ) := by
  refine ct_of (own := RX10) (lv := [some (.ref (ad g 176)), some (.int (nI y)), some (.int c)]) rfl (by decide) (Nat.le_of_ble_eq_true rfl) (by intro u hu; simp only [List.mem_cons, List.not_mem_nil, or_false] at hu; rcases hu with rfl | rfl | rfl <;> rfl) (lv_ok [.ref (ad g 176), .int (nI y), .int c] 0) ?_
  have hl189 := l_189
  have hl190 := l_190
  refine aw_aload_n dX10_isWordOf_0 rfl ?_
  refine gf10_wordTable dX10_isWordOf_1 kf10_46 k_176 ?_
  refine aw_eqr (b := 189) rfl ?_
  refine aw_iload_n dX10_isWordOf_4 rfl ?_
  refine aw_ld (y) dX10_isWordOf_5 k_189 (rfl) (by omega) ?_
  refine aw_if_lt dX10_isWordOf_6 (fun h_6 => ?_) (fun h_6 => ?_)
  · skip
    refine aw_ic (nI 0) dX10_isWordOf_23 (by decide) ?_
    exact aw_iretz dX10_isWordOf_24 (by decide) (⟨(if_neg (fun z => (hp.mpr z).1 h_6)).symm, rfl⟩)
  · skip
    refine aw_aload_n dX10_isWordOf_9 rfl ?_
    refine gf10_wordCell dX10_isWordOf_10 kf10_49 k_176 ?_
    refine aw_eqr (b := 190) rfl ?_
    refine aw_iload_n dX10_isWordOf_13 rfl ?_
    refine aw_ld (y) dX10_isWordOf_14 k_190 (rfl) (by omega) ?_
    refine aw_iload_n dX10_isWordOf_15 rfl ?_
    refine aw_icmp_ne dX10_isWordOf_16 (fun h_16 => ?_) (fun h_16 => ?_)
    · skip
      refine aw_ic (nI 0) dX10_isWordOf_23 (by decide) ?_
      exact aw_iretz dX10_isWordOf_24 (by decide) (⟨(if_neg (fun z => h_16 (hp.mpr z).2)).symm, rfl⟩)
    · skip
      refine aw_ic (nI 1) dX10_isWordOf_19 (by decide) ?_
      refine aw_goto dX10_isWordOf_20 ?_
      exact aw_iretz dX10_isWordOf_24 (by decide) (⟨(if_pos (hp.mp ⟨h_6, h_16⟩)).symm, rfl⟩)

theorem m6ne {k : Nat} (h : k < 2 ^ 31) : ¬ (-6 : Int32) = nI k := fun e => by
  have := congrArg Int32.toInt e
  rw [nI_toInt h, show (-6 : Int32).toInt = -6 by decide] at this
  omega
theorem pWC_cc {P : Pg} {x : Nat} (h : pWT P x < pT P) : pWC P x < pCc P (pWT P x) := by
  have hi := fst_yes h
  unfold inW at hi
  rw [Bool.and_eq_true, decide_eq_true_eq, decide_eq_true_eq] at hi
  have hf := rc_lt hi.1 hi.2
  have hL : Lb (tlab (inN (pR P) (pM P) (rcP P) (pWT P x)) (pR P) (pM P) (rcP P)) := Lb.labF _
  exact cnt_lt (hL.2 _) (Nat.lt_of_le_of_lt (hL.1 _) hf)
theorem cell_inj {P : Pg} {t t' q q' : Nat} (hq : q < pCc P t) (hq' : q' < pCc P t') (e : pCF P t + q = pCF P t' + q') : t = t' ∧ q = q' := by
  rcases Nat.lt_trichotomy t t' with z | z | z
  · have := pCF_m (P := P) z
    omega
  · subst z
    exact ⟨rfl, by omega⟩
  · have := pCF_m (P := P) z
    omega
theorem wd_p {σ : SG} {P : Pg} {t q : Nat} (hF : FnS σ P) (hK : FOKs) (hV : PgV P) (ht : t < pT P) (hq : q < pCc P t) : ∀ y, y < P.2.2.1 → ((¬ σ.2.1 189 y < 0 ∧ σ.2.1 190 y = nI (pCF P t + q)) ↔ pInn P t q y = true) := fun y hy => by
  obtain ⟨w1, w2⟩ := hF.2.2.2.2.2.2.2.2.2 y hy
  have hT := pT_le hK hV
  have hb := pFF_le hK hV (show t + 1 ≤ pT P from ht)
  have hb2 := pCF_le P (t + 1)
  have hb3 : pCF P (t + 1) = pCF P t + pCc P t := rfl
  rw [w1, w2]
  unfold pInn
  rw [Bool.and_eq_true, decide_eq_true_eq, decide_eq_true_eq]
  by_cases h : pWT P y < pT P
  · rw [if_pos h, if_pos h]
    have hc := pWC_cc h
    have hc2 := pFF_le hK hV (show pWT P y + 1 ≤ pT P from h)
    have hc3 := pCF_le P (pWT P y + 1)
    have hc4 : pCF P (pWT P y + 1) = pCF P (pWT P y) + pCc P (pWT P y) := rfl
    constructor
    · rintro ⟨-, e⟩
      have := congrArg Int32.toInt e
      rw [nI_toInt (by omega), nI_toInt (by omega)] at this
      exact cell_inj hc hq (by omega)
    · rintro ⟨e1, e2⟩
      rw [e1, e2]
      exact ⟨nI_pos (by omega), rfl⟩
  · rw [if_neg h, if_neg h]
    constructor
    · rintro ⟨a, -⟩
      exact absurd (by decide) a
    · rintro ⟨e1, -⟩
      omega
set_option maxHeartbeats 4000000 in
set_option maxRecDepth 100000 in
theorem ctM_cell {g : GG} {σ : SG} {S : Sp} (hK : FOKs) (hI : InvM σ S) (x cell what : Int32) : Cti g yX10_cell cX10_cell 5 (some .int) (rmm 8 192) [.ref (ad g 176), .int x, .int cell, .int what] σ (PoM σ (aCell S.1 x cell what, S)) := by
  refine ct_of (own := RX10) (lv := [some (.ref (ad g 176)), some (.int x), some (.int cell), some (.int what), none]) rfl (by decide) (Nat.le_of_ble_eq_true rfl) (by intro u hu; simp only [List.mem_cons, List.not_mem_nil, or_false] at hu; rcases hu with rfl | rfl | rfl | rfl <;> rfl) (lv_ok [.ref (ad g 176), .int x, .int cell, .int what] 1) ?_
  have hV := hI.2.1
  have hT6 := pT_le hK hV
  have hM24 := pM_le hV
  have hc24 := hV.1
  have hw20 := hV.2.2.1
  have hl186 := l_186
  rcases ix_cases x (n := pT S.1) (by omega) with ⟨h, e⟩ | ⟨t, ht, rfl, e⟩
  · skip
    refine aw_aload_n dX10_cell_0 rfl ?_
    refine aw_iload_n dX10_cell_1 rfl ?_
    refine aw_iload_n dX10_cell_2 rfl ?_
    refine cvi2 dX10_cell_3 km10_250 ok_X10_isCell rfl rfl (by decide) k_176 (Nat.le_of_ble_eq_true rfl) ⟨Nat.le_of_ble_eq_true rfl, Nat.le_of_ble_eq_true rfl⟩ rfl rfl (ct_isCell0 hK hI h _) ?_
    intro r9 σ1 hp_t
    obtain ⟨rfl, hI1, hF, hFr⟩ := hp_t
    obtain ⟨f1, f2, f3, f4, f5, f6, f7, f8, f9, f10⟩ := id hF
    have G := FnS.g.mp hF
    obtain ⟨⟨hc1, hp1, hcw1, hw1, hs01, hs11, hs21⟩, -, -, -⟩ := id hI1
    refine aw_if_ne dX10_cell_6 (fun h_6 => absurd h_6 (not_not_intro rfl)) (fun h_6 => ?_)
    refine aw_ic (-1) dX10_cell_9 (by decide) ?_
    exact aw_ireti dX10_cell_10 (PoM.mk (by unfold aCell; rw [e]) hI1 hFr)
  · skip
    have hcc := (pB hK hV ht).2.2.2.2.2.2.1
    have hb := pFF_le hK hV (show t + 1 ≤ pT S.1 from ht)
    have hb2 := pCF_le S.1 (t + 1)
    have hb3 : pCF S.1 (t + 1) = pCF S.1 t + pCc S.1 t := rfl
    rcases ix_cases cell (n := pCc S.1 t) (by omega) with ⟨h, e2⟩ | ⟨q, hq, rfl, e2⟩
    · skip
      refine aw_aload_n dX10_cell_0 rfl ?_
      refine aw_iload_n dX10_cell_1 rfl ?_
      refine aw_iload_n dX10_cell_2 rfl ?_
      refine cvi2 dX10_cell_3 km10_250 ok_X10_isCell rfl rfl (by decide) k_176 (Nat.le_of_ble_eq_true rfl) ⟨Nat.le_of_ble_eq_true rfl, Nat.le_of_ble_eq_true rfl⟩ rfl rfl (ct_isCell1 hK hI ht _) ?_
      intro r9 σ1 hp_t
      obtain ⟨rfl, hI1, hF, hFr⟩ := hp_t
      obtain ⟨f1, f2, f3, f4, f5, f6, f7, f8, f9, f10⟩ := id hF
      have G := FnS.g.mp hF
      obtain ⟨⟨hc1, hp1, hcw1, hw1, hs01, hs11, hs21⟩, -, -, -⟩ := id hI1
      refine aw_if_neB dX10_cell_6 rfl (fun h_6 => absurd h_6 (ix_no rfl h)) (fun h_6 => ?_)
      refine aw_ic (-1) dX10_cell_9 (by decide) ?_
      exact aw_ireti dX10_cell_10 (PoM.mk (by unfold aCell; rw [e]; dsimp only; rw [e2]) hI1 hFr)
    · skip
      rcases ix_cases what (n := 7) (by decide) with ⟨h, e3⟩ | ⟨w, hw, rfl, e3⟩
      · skip
        refine aw_aload_n dX10_cell_0 rfl ?_
        refine aw_iload_n dX10_cell_1 rfl ?_
        refine aw_iload_n dX10_cell_2 rfl ?_
        refine cvi2 dX10_cell_3 km10_250 ok_X10_isCell rfl rfl (by decide) k_176 (Nat.le_of_ble_eq_true rfl) ⟨Nat.le_of_ble_eq_true rfl, Nat.le_of_ble_eq_true rfl⟩ rfl rfl (ct_isCell1 hK hI ht _) ?_
        intro r9 σ1 hp_t
        obtain ⟨rfl, hI1, hF, hFr⟩ := hp_t
        obtain ⟨f1, f2, f3, f4, f5, f6, f7, f8, f9, f10⟩ := id hF
        have G := FnS.g.mp hF
        obtain ⟨⟨hc1, hp1, hcw1, hw1, hs01, hs11, hs21⟩, -, -, -⟩ := id hI1
        refine aw_if_neB dX10_cell_6 rfl (fun h_6 => ?_) (fun h_6 => absurd h_6 (not_not_intro (ix_yes rfl hq (by omega))))
        refine aw_iload_n dX10_cell_11 rfl ?_
        refine aw_i2l dX10_cell_12 ?_
        refine aw_lconst dX10_cell_13 ?_
        refine aw_ldc2 dX10_cell_14 kl10_253 ?_
        refine csq3 dX10_cell_17 km10_64 ok_X10_in (Nat.le_of_ble_eq_true rfl) ⟨Nat.le_of_ble_eq_true rfl, Nat.le_of_ble_eq_true rfl⟩ rfl rfl (ct_inN _ 7 (by decide) (by decide) (by decide)) ?_
        refine aw_if_neB dX10_cell_20 rfl (fun h_20 => absurd h_20 (ix_no rfl h)) (fun h_20 => ?_)
        refine aw_bi (-2) dX10_cell_23 (by decide) ?_
        exact aw_ireti dX10_cell_25 (PoM.mk (by unfold aCell; rw [e]; dsimp only; rw [e2]; dsimp only; rw [e3]) hI1 hFr)
      · skip
        by_cases w6 : w = 6
        · skip
          refine aw_aload_n dX10_cell_0 rfl ?_
          refine aw_iload_n dX10_cell_1 rfl ?_
          refine aw_iload_n dX10_cell_2 rfl ?_
          refine cvi2 dX10_cell_3 km10_250 ok_X10_isCell rfl rfl (by decide) k_176 (Nat.le_of_ble_eq_true rfl) ⟨Nat.le_of_ble_eq_true rfl, Nat.le_of_ble_eq_true rfl⟩ rfl rfl (ct_isCell1 hK hI ht _) ?_
          intro r9 σ1 hp_t
          obtain ⟨rfl, hI1, hF, hFr⟩ := hp_t
          obtain ⟨f1, f2, f3, f4, f5, f6, f7, f8, f9, f10⟩ := id hF
          have G := FnS.g.mp hF
          obtain ⟨⟨hc1, hp1, hcw1, hw1, hs01, hs11, hs21⟩, -, -, -⟩ := id hI1
          refine aw_if_neB dX10_cell_6 rfl (fun h_6 => ?_) (fun h_6 => absurd h_6 (not_not_intro (ix_yes rfl hq (by omega))))
          refine aw_iload_n dX10_cell_11 rfl ?_
          refine aw_i2l dX10_cell_12 ?_
          refine aw_lconst dX10_cell_13 ?_
          refine aw_ldc2 dX10_cell_14 kl10_253 ?_
          refine csq3 dX10_cell_17 km10_64 ok_X10_in (Nat.le_of_ble_eq_true rfl) ⟨Nat.le_of_ble_eq_true rfl, Nat.le_of_ble_eq_true rfl⟩ rfl rfl (ct_inN _ 7 (by decide) (by decide) (by decide)) ?_
          refine aw_if_neB dX10_cell_20 rfl (fun h_20 => ?_) (fun h_20 => absurd h_20 (not_not_intro (ix_yes rfl hw (by omega))))
          refine aw_aload_n dX10_cell_26 rfl ?_
          refine gf10_cellFrom dX10_cell_27 kf10_37 k_176 ?_
          refine aw_eqr (b := 186) rfl ?_
          refine aw_iload_n dX10_cell_30 rfl ?_
          refine aw_ld (t) dX10_cell_31 k_186 (rfl) (by omega) ?_
          refine aw_eq (f7 t (by omega)).2 ?_
          refine aw_iload_n dX10_cell_32 rfl ?_
          refine aw_iadd dX10_cell_33 ?_
          refine aw_eq (nI_add _ _) ?_
          refine aw_istore dX10_cell_34 (Nat.le_of_ble_eq_true rfl) ?_
          refine aw_iload_n dX10_cell_36 rfl ?_
          refine aw_bi (nI 6) dX10_cell_37 (by decide) ?_
          refine aw_icmp_neN dX10_cell_39 rfl (b := 6) rfl (by omega) (by omega) (fun h_39 => absurd h_39 (by omega)) (fun h_39 => ?_)
          refine aw_aload_n dX10_cell_42 rfl ?_
          refine aw_iload dX10_cell_43 rfl ?_
          refine cqi1 dX10_cell_45 km10_255 ok_X10_wordsIn rfl rfl (by decide) k_176 (Nat.le_of_ble_eq_true rfl) ⟨Nat.le_of_ble_eq_true rfl, Nat.le_of_ble_eq_true rfl⟩ rfl rfl (ct_wordsIn (p := pInn S.1 t q) hcw1 hw20 (wd_p hF hK hV ht hq)) ?_
          refine aw_goto dX10_cell_48 ?_
          exact aw_ireti dX10_cell_58 (PoM.mk (by unfold aCell; rw [e]; dsimp only; rw [e2]; dsimp only; rw [e3]; dsimp only; rw [w6]; rfl) hI1 hFr)
        · skip
          refine aw_aload_n dX10_cell_0 rfl ?_
          refine aw_iload_n dX10_cell_1 rfl ?_
          refine aw_iload_n dX10_cell_2 rfl ?_
          refine cvi2 dX10_cell_3 km10_250 ok_X10_isCell rfl rfl (by decide) k_176 (Nat.le_of_ble_eq_true rfl) ⟨Nat.le_of_ble_eq_true rfl, Nat.le_of_ble_eq_true rfl⟩ rfl rfl (ct_isCell1 hK hI ht _) ?_
          intro r9 σ1 hp_t
          obtain ⟨rfl, hI1, hF, hFr⟩ := hp_t
          obtain ⟨f1, f2, f3, f4, f5, f6, f7, f8, f9, f10⟩ := id hF
          have G := FnS.g.mp hF
          obtain ⟨⟨hc1, hp1, hcw1, hw1, hs01, hs11, hs21⟩, -, -, -⟩ := id hI1
          refine aw_if_neB dX10_cell_6 rfl (fun h_6 => ?_) (fun h_6 => absurd h_6 (not_not_intro (ix_yes rfl hq (by omega))))
          refine aw_iload_n dX10_cell_11 rfl ?_
          refine aw_i2l dX10_cell_12 ?_
          refine aw_lconst dX10_cell_13 ?_
          refine aw_ldc2 dX10_cell_14 kl10_253 ?_
          refine csq3 dX10_cell_17 km10_64 ok_X10_in (Nat.le_of_ble_eq_true rfl) ⟨Nat.le_of_ble_eq_true rfl, Nat.le_of_ble_eq_true rfl⟩ rfl rfl (ct_inN _ 7 (by decide) (by decide) (by decide)) ?_
          refine aw_if_neB dX10_cell_20 rfl (fun h_20 => ?_) (fun h_20 => absurd h_20 (not_not_intro (ix_yes rfl hw (by omega))))
          refine aw_aload_n dX10_cell_26 rfl ?_
          refine gf10_cellFrom dX10_cell_27 kf10_37 k_176 ?_
          refine aw_eqr (b := 186) rfl ?_
          refine aw_iload_n dX10_cell_30 rfl ?_
          refine aw_ld (t) dX10_cell_31 k_186 (rfl) (by omega) ?_
          refine aw_eq (f7 t (by omega)).2 ?_
          refine aw_iload_n dX10_cell_32 rfl ?_
          refine aw_iadd dX10_cell_33 ?_
          refine aw_eq (nI_add _ _) ?_
          refine aw_istore dX10_cell_34 (Nat.le_of_ble_eq_true rfl) ?_
          refine aw_iload_n dX10_cell_36 rfl ?_
          refine aw_bi (nI 6) dX10_cell_37 (by decide) ?_
          refine aw_icmp_neN dX10_cell_39 rfl (b := 6) rfl (by omega) (by omega) (fun h_39 => ?_) (fun h_39 => absurd h_39 (by omega))
          refine aw_aload_n dX10_cell_51 rfl ?_
          refine aw_iload dX10_cell_52 rfl ?_
          refine aw_iload_n dX10_cell_54 rfl ?_
          refine cqi2 dX10_cell_55 km10_174 ok_X10_cellAt rfl rfl (by decide) k_176 (Nat.le_of_ble_eq_true rfl) ⟨Nat.le_of_ble_eq_true rfl, Nat.le_of_ble_eq_true rfl⟩ rfl rfl (ct_cellAt (r := pCF S.1 t + q) (w := w) (by omega)) ?_
          refine aw_eq (f9 t q w ht hq (by omega)) ?_
          exact aw_ireti dX10_cell_58 (PoM.mk (by unfold aCell; rw [e]; dsimp only; rw [e2]; dsimp only; rw [e3]) hI1 hFr)

set_option maxHeartbeats 4000000 in
set_option maxRecDepth 100000 in
theorem ctM_isReadBefore {g : GG} {σ : SG} {nw a b : Nat} {wd : Nat → Nat → Nat} (hw : ∀ p k, p < nw → k < 4 → σ.2.1 178 (4 * p + k) = nI (wd p k)) (hwb : ∀ p k, wd p k ≤ 99) (hnw : nw ≤ 20) (ha : a < nw) (hb : b < nw) : Cti g yX10_isReadBefore cX10_isReadBefore 5 (some .boolean) (rmm 1 22) [.ref (ad g 176), .int (nI a), .int (nI b)] σ (fun r σ' => r = (if befN (Qw wd a) (Qw wd b) = true then 1 else 0) ∧ σ' = σ) := by
  refine ct_of (own := RX10) (lv := [some (.ref (ad g 176)), some (.int (nI a)), some (.int (nI b)), none, none]) rfl (by decide) (Nat.le_of_ble_eq_true rfl) (by intro u hu; simp only [List.mem_cons, List.not_mem_nil, or_false] at hu; rcases hu with rfl | rfl | rfl <;> rfl) (lv_ok [.ref (ad g 176), .int (nI a), .int (nI b)] 2) ?_
  have a0 := hwb a 0
  have b0 := hwb b 0
  have a1 := hwb a 1
  have b1 := hwb b 1
  have a3 := hwb a 3
  have b3 := hwb b 3
  refine aw_aload_n dX10_isReadBefore_0 rfl ?_
  refine aw_iload_n dX10_isReadBefore_1 rfl ?_
  refine aw_ic (nI 1) dX10_isReadBefore_2 (by decide) ?_
  refine cqi2 dX10_isReadBefore_3 km10_177 ok_X10_boxAt rfl rfl (by decide) k_176 (Nat.le_of_ble_eq_true rfl) ⟨Nat.le_of_ble_eq_true rfl, Nat.le_of_ble_eq_true rfl⟩ rfl rfl (ct_boxAt (r := a) (w := 1) (by omega)) ?_
  refine aw_eq (hw a 1 ha (by decide)) ?_
  refine aw_aload_n dX10_isReadBefore_6 rfl ?_
  refine aw_iload_n dX10_isReadBefore_7 rfl ?_
  refine aw_ic (nI 3) dX10_isReadBefore_8 (by decide) ?_
  refine cqi2 dX10_isReadBefore_9 km10_177 ok_X10_boxAt rfl rfl (by decide) k_176 (Nat.le_of_ble_eq_true rfl) ⟨Nat.le_of_ble_eq_true rfl, Nat.le_of_ble_eq_true rfl⟩ rfl rfl (ct_boxAt (r := a) (w := 3) (by omega)) ?_
  refine aw_eq (hw a 3 ha (by decide)) ?_
  refine aw_iadd dX10_isReadBefore_12 ?_
  refine aw_eq (nI_add _ _) ?_
  refine aw_istore_n dX10_isReadBefore_13 (Nat.le_of_ble_eq_true rfl) ?_
  refine aw_aload_n dX10_isReadBefore_14 rfl ?_
  refine aw_iload_n dX10_isReadBefore_15 rfl ?_
  refine aw_ic (nI 1) dX10_isReadBefore_16 (by decide) ?_
  refine cqi2 dX10_isReadBefore_17 km10_177 ok_X10_boxAt rfl rfl (by decide) k_176 (Nat.le_of_ble_eq_true rfl) ⟨Nat.le_of_ble_eq_true rfl, Nat.le_of_ble_eq_true rfl⟩ rfl rfl (ct_boxAt (r := b) (w := 1) (by omega)) ?_
  refine aw_eq (hw b 1 hb (by decide)) ?_
  refine aw_aload_n dX10_isReadBefore_20 rfl ?_
  refine aw_iload_n dX10_isReadBefore_21 rfl ?_
  refine aw_ic (nI 3) dX10_isReadBefore_22 (by decide) ?_
  refine cqi2 dX10_isReadBefore_23 km10_177 ok_X10_boxAt rfl rfl (by decide) k_176 (Nat.le_of_ble_eq_true rfl) ⟨Nat.le_of_ble_eq_true rfl, Nat.le_of_ble_eq_true rfl⟩ rfl rfl (ct_boxAt (r := b) (w := 3) (by omega)) ?_
  refine aw_eq (hw b 3 hb (by decide)) ?_
  refine aw_iadd dX10_isReadBefore_26 ?_
  refine aw_eq (nI_add _ _) ?_
  refine aw_istore dX10_isReadBefore_27 (Nat.le_of_ble_eq_true rfl) ?_
  refine aw_iload_n dX10_isReadBefore_29 rfl ?_
  refine aw_iload dX10_isReadBefore_30 rfl ?_
  refine aw_icmp_eqN dX10_isReadBefore_32 rfl rfl (by omega) (by omega) (fun h_32 => ?_) (fun h_32 => ?_)
  · skip
    refine aw_aload_n dX10_isReadBefore_47 rfl ?_
    refine aw_iload_n dX10_isReadBefore_48 rfl ?_
    refine aw_ic (nI 0) dX10_isReadBefore_49 (by decide) ?_
    refine cqi2 dX10_isReadBefore_50 km10_177 ok_X10_boxAt rfl rfl (by decide) k_176 (Nat.le_of_ble_eq_true rfl) ⟨Nat.le_of_ble_eq_true rfl, Nat.le_of_ble_eq_true rfl⟩ rfl rfl (ct_boxAt (r := a) (w := 0) (by omega)) ?_
    refine aw_eq (hw a 0 ha (by decide)) ?_
    refine aw_aload_n dX10_isReadBefore_53 rfl ?_
    refine aw_iload_n dX10_isReadBefore_54 rfl ?_
    refine aw_ic (nI 0) dX10_isReadBefore_55 (by decide) ?_
    refine cqi2 dX10_isReadBefore_56 km10_177 ok_X10_boxAt rfl rfl (by decide) k_176 (Nat.le_of_ble_eq_true rfl) ⟨Nat.le_of_ble_eq_true rfl, Nat.le_of_ble_eq_true rfl⟩ rfl rfl (ct_boxAt (r := b) (w := 0) (by omega)) ?_
    refine aw_eq (hw b 0 hb (by decide)) ?_
    refine aw_icmp_eqN dX10_isReadBefore_59 rfl rfl (by omega) (by omega) (fun h_59 => ?_) (fun h_59 => ?_)
    · skip
      refine aw_iload_n dX10_isReadBefore_85 rfl ?_
      refine aw_iload_n dX10_isReadBefore_86 rfl ?_
      refine aw_icmp_geN dX10_isReadBefore_87 rfl rfl (by omega) (by omega) (fun h_87 => ?_) (fun h_87 => ?_)
      · skip
        refine aw_ic (nI 0) dX10_isReadBefore_94 (by decide) ?_
        exact aw_iretz dX10_isReadBefore_95 (by decide) (⟨(if_neg (fun z => by rw [bef_4 (ra := Qw wd a) (rb := Qw wd b) (fun j hj => by rcases (by omega : j = 0 ∨ j = 1 ∨ j = 2 ∨ j = 3) with rfl | rfl | rfl | rfl; exact h_32; exact h_59; rfl; rfl)] at z; have z : a < b := of_decide_eq_true z; omega)).symm, rfl⟩)
      · skip
        refine aw_ic (nI 1) dX10_isReadBefore_90 (by decide) ?_
        refine aw_goto dX10_isReadBefore_91 ?_
        exact aw_iretz dX10_isReadBefore_95 (by decide) (⟨(if_pos (by rw [bef_4 (ra := Qw wd a) (rb := Qw wd b) (fun j hj => by rcases (by omega : j = 0 ∨ j = 1 ∨ j = 2 ∨ j = 3) with rfl | rfl | rfl | rfl; exact h_32; exact h_59; rfl; rfl)]; exact decide_eq_true (show a < b by omega))).symm, rfl⟩)
    · skip
      refine aw_aload_n dX10_isReadBefore_62 rfl ?_
      refine aw_iload_n dX10_isReadBefore_63 rfl ?_
      refine aw_ic (nI 0) dX10_isReadBefore_64 (by decide) ?_
      refine cqi2 dX10_isReadBefore_65 km10_177 ok_X10_boxAt rfl rfl (by decide) k_176 (Nat.le_of_ble_eq_true rfl) ⟨Nat.le_of_ble_eq_true rfl, Nat.le_of_ble_eq_true rfl⟩ rfl rfl (ct_boxAt (r := a) (w := 0) (by omega)) ?_
      refine aw_eq (hw a 0 ha (by decide)) ?_
      refine aw_aload_n dX10_isReadBefore_68 rfl ?_
      refine aw_iload_n dX10_isReadBefore_69 rfl ?_
      refine aw_ic (nI 0) dX10_isReadBefore_70 (by decide) ?_
      refine cqi2 dX10_isReadBefore_71 km10_177 ok_X10_boxAt rfl rfl (by decide) k_176 (Nat.le_of_ble_eq_true rfl) ⟨Nat.le_of_ble_eq_true rfl, Nat.le_of_ble_eq_true rfl⟩ rfl rfl (ct_boxAt (r := b) (w := 0) (by omega)) ?_
      refine aw_eq (hw b 0 hb (by decide)) ?_
      refine aw_icmp_geN dX10_isReadBefore_74 rfl rfl (by omega) (by omega) (fun h_74 => ?_) (fun h_74 => ?_)
      · skip
        refine aw_ic (nI 0) dX10_isReadBefore_81 (by decide) ?_
        refine aw_goto dX10_isReadBefore_82 ?_
        exact aw_iretz dX10_isReadBefore_95 (by decide) (⟨(if_neg (fun z => by rw [bef_k (ra := Qw wd a) (rb := Qw wd b) (k := 1) (by decide) (fun j hj => by rw [show j = 0 by omega]; exact h_32) h_59] at z; have z : wd a 0 < wd b 0 := of_decide_eq_true z; omega)).symm, rfl⟩)
      · skip
        refine aw_ic (nI 1) dX10_isReadBefore_77 (by decide) ?_
        refine aw_goto dX10_isReadBefore_78 ?_
        exact aw_iretz dX10_isReadBefore_95 (by decide) (⟨(if_pos (by rw [bef_k (ra := Qw wd a) (rb := Qw wd b) (k := 1) (by decide) (fun j hj => by rw [show j = 0 by omega]; exact h_32) h_59]; exact decide_eq_true (show wd a 0 < wd b 0 by omega))).symm, rfl⟩)
  · skip
    refine aw_iload_n dX10_isReadBefore_35 rfl ?_
    refine aw_iload dX10_isReadBefore_36 rfl ?_
    refine aw_icmp_geN dX10_isReadBefore_38 rfl rfl (by omega) (by omega) (fun h_38 => ?_) (fun h_38 => ?_)
    · skip
      refine aw_ic (nI 0) dX10_isReadBefore_45 (by decide) ?_
      exact aw_iretz dX10_isReadBefore_46 (by decide) (⟨(if_neg (fun z => by rw [bef_k (ra := Qw wd a) (rb := Qw wd b) (k := 0) (by decide) (fun j hj => absurd hj (Nat.not_lt_zero j)) h_32] at z; have z : wd a 1 + wd a 3 < wd b 1 + wd b 3 := of_decide_eq_true z; omega)).symm, rfl⟩)
    · skip
      refine aw_ic (nI 1) dX10_isReadBefore_41 (by decide) ?_
      refine aw_goto dX10_isReadBefore_42 ?_
      exact aw_iretz dX10_isReadBefore_46 (by decide) (⟨(if_pos (by rw [bef_k (ra := Qw wd a) (rb := Qw wd b) (k := 0) (by decide) (fun j hj => absurd hj (Nat.not_lt_zero j)) h_32]; exact decide_eq_true (show wd a 1 + wd a 3 < wd b 1 + wd b 3 by omega))).symm, rfl⟩)

set_option maxHeartbeats 4000000 in
set_option maxRecDepth 100000 in
theorem ctM_read {g : GG} {σ : SG} {S : Sp} (hK : FOKs) (hI : InvM σ S) (x cell k : Int32) : Cti g yX10_read cX10_read 8 (some .int) (rmm 8 192) [.ref (ad g 176), .int x, .int cell, .int k] σ (PoM σ (aRead S.1 x cell k, S)) := by
  refine ct_of (own := RX10) (lv := [some (.ref (ad g 176)), some (.int x), some (.int cell), some (.int k), none, none, none, none]) rfl (by decide) (Nat.le_of_ble_eq_true rfl) (by intro u hu; simp only [List.mem_cons, List.not_mem_nil, or_false] at hu; rcases hu with rfl | rfl | rfl | rfl <;> rfl) (lv_ok [.ref (ad g 176), .int x, .int cell, .int k] 4) ?_
  have hV := hI.2.1
  have hT6 := pT_le hK hV
  have hM24 := pM_le hV
  have hc24 := hV.1
  have hw20 := hV.2.2.1
  have hl186 := l_186
  rcases ix_cases x (n := pT S.1) (by omega) with ⟨h, e⟩ | ⟨t, ht, rfl, e⟩
  · skip
    refine aw_aload_n dX10_read_0 rfl ?_
    refine aw_iload_n dX10_read_1 rfl ?_
    refine aw_iload_n dX10_read_2 rfl ?_
    refine cvi2 dX10_read_3 km10_250 ok_X10_isCell rfl rfl (by decide) k_176 (Nat.le_of_ble_eq_true rfl) ⟨Nat.le_of_ble_eq_true rfl, Nat.le_of_ble_eq_true rfl⟩ rfl rfl (ct_isCell0 hK hI h _) ?_
    intro r9 σ1 hp_t
    obtain ⟨rfl, hI1, hF, hFr⟩ := hp_t
    obtain ⟨f1, f2, f3, f4, f5, f6, f7, f8, f9, f10⟩ := id hF
    have G := FnS.g.mp hF
    obtain ⟨⟨hc1, hp1, hcw1, hw1, hs01, hs11, hs21⟩, -, -, -⟩ := id hI1
    refine aw_if_ne dX10_read_6 (fun h_6 => absurd h_6 (not_not_intro rfl)) (fun h_6 => ?_)
    refine aw_ic (-1) dX10_read_9 (by decide) ?_
    exact aw_ireti dX10_read_10 (PoM.mk (by unfold aRead; rw [e]) hI1 hFr)
  · skip
    have hcc := (pB hK hV ht).2.2.2.2.2.2.1
    have hb := pFF_le hK hV (show t + 1 ≤ pT S.1 from ht)
    have hb2 := pCF_le S.1 (t + 1)
    have hb3 : pCF S.1 (t + 1) = pCF S.1 t + pCc S.1 t := rfl
    rcases ix_cases cell (n := pCc S.1 t) (by omega) with ⟨h, e2⟩ | ⟨q, hq, rfl, e2⟩
    · skip
      refine aw_aload_n dX10_read_0 rfl ?_
      refine aw_iload_n dX10_read_1 rfl ?_
      refine aw_iload_n dX10_read_2 rfl ?_
      refine cvi2 dX10_read_3 km10_250 ok_X10_isCell rfl rfl (by decide) k_176 (Nat.le_of_ble_eq_true rfl) ⟨Nat.le_of_ble_eq_true rfl, Nat.le_of_ble_eq_true rfl⟩ rfl rfl (ct_isCell1 hK hI ht _) ?_
      intro r9 σ1 hp_t
      obtain ⟨rfl, hI1, hF, hFr⟩ := hp_t
      obtain ⟨f1, f2, f3, f4, f5, f6, f7, f8, f9, f10⟩ := id hF
      have G := FnS.g.mp hF
      obtain ⟨⟨hc1, hp1, hcw1, hw1, hs01, hs11, hs21⟩, -, -, -⟩ := id hI1
      refine aw_if_neB dX10_read_6 rfl (fun h_6 => absurd h_6 (ix_no rfl h)) (fun h_6 => ?_)
      refine aw_ic (-1) dX10_read_9 (by decide) ?_
      exact aw_ireti dX10_read_10 (PoM.mk (by unfold aRead; rw [e]; dsimp only; rw [e2]) hI1 hFr)
    · skip
      refine aw_aload_n dX10_read_0 rfl ?_
      refine aw_iload_n dX10_read_1 rfl ?_
      refine aw_iload_n dX10_read_2 rfl ?_
      refine cvi2 dX10_read_3 km10_250 ok_X10_isCell rfl rfl (by decide) k_176 (Nat.le_of_ble_eq_true rfl) ⟨Nat.le_of_ble_eq_true rfl, Nat.le_of_ble_eq_true rfl⟩ rfl rfl (ct_isCell1 hK hI ht _) ?_
      intro r9 σ1 hp_t
      obtain ⟨rfl, hI1, hF, hFr⟩ := hp_t
      obtain ⟨f1, f2, f3, f4, f5, f6, f7, f8, f9, f10⟩ := id hF
      have G := FnS.g.mp hF
      obtain ⟨⟨hc1, hp1, hcw1, hw1, hs01, hs11, hs21⟩, -, -, -⟩ := id hI1
      refine aw_if_neB dX10_read_6 rfl (fun h_6 => ?_) (fun h_6 => absurd h_6 (not_not_intro (ix_yes rfl hq (by omega))))
      refine aw_aload_n dX10_read_11 rfl ?_
      refine gf10_cellFrom dX10_read_12 kf10_37 k_176 ?_
      refine aw_eqr (b := 186) rfl ?_
      refine aw_iload_n dX10_read_15 rfl ?_
      refine aw_ld (t) dX10_read_16 k_186 (rfl) (by omega) ?_
      refine aw_eq (f7 t (by omega)).2 ?_
      refine aw_iload_n dX10_read_17 rfl ?_
      refine aw_iadd dX10_read_18 ?_
      refine aw_eq (nI_add _ _) ?_
      refine aw_istore dX10_read_19 (Nat.le_of_ble_eq_true rfl) ?_
      refine aw_ic (nI 0) dX10_read_21 (by decide) ?_
      refine aw_istore dX10_read_22 (Nat.le_of_ble_eq_true rfl) ?_
      refine for_ux (fun i σ' lv' => σ1 = σ' ∧ (∀ j, j < i → (fun w => pInn S.1 t q w && decide (nI (ahd S.1 t q w) = k)) j = false) ∧ ∃ x y, lv' = [some (.ref (ad g 176)), some (.int (nI t)), some (.int (nI q)), some (.int k), some (.int (nI (pCF S.1 t + q))), some (.int (nI i)), x, y]) (S.1.2.2.1) ?_ ?_ (0) _ _ (by omega) (⟨rfl, fun j hj => absurd hj (Nat.not_lt_zero j), _, _, rfl⟩)
      · rintro i σ2 lv2 hi ⟨rfl, hf, x, y, rfl⟩ ih
        refine aw_iload dX10_read_24 rfl ?_
        refine aw_aload_n dX10_read_26 rfl ?_
        refine gf10_boxMany dX10_read_27 kf10_92 k_176 ?_
        refine aw_eq hcw1 ?_
        refine aw_icmp_geN dX10_read_30 rfl rfl (by omega) (by omega) (fun h_30 => absurd h_30 (by omega)) (fun h_30 => ?_)
        refine aw_ic (nI 0) dX10_read_33 (by decide) ?_
        refine aw_istore dX10_read_34 (Nat.le_of_ble_eq_true rfl) ?_
        refine aw_ic (nI 0) dX10_read_36 (by decide) ?_
        refine aw_istore dX10_read_37 (Nat.le_of_ble_eq_true rfl) ?_
        refine for_ux (fun j σ' lv' => σ1 = σ' ∧ lv' = [some (.ref (ad g 176)), some (.int (nI t)), some (.int (nI q)), some (.int k), some (.int (nI (pCF S.1 t + q))), some (.int (nI i)), some (.int (nI (ctB (fun e => pInn S.1 t q e && befN (Qw S.1.2.2.2.1 e) (Qw S.1.2.2.2.1 i)) j))), some (.int (nI j))]) (S.1.2.2.1) ?_ ?_ (0) _ _ (by omega) (⟨rfl, rfl⟩)
        · rintro j σ3 lv2 hj ⟨rfl, rfl⟩ ih2
          refine aw_iload dX10_read_39 rfl ?_
          refine aw_aload_n dX10_read_41 rfl ?_
          refine gf10_boxMany dX10_read_42 kf10_92 k_176 ?_
          refine aw_eq hcw1 ?_
          refine aw_icmp_geN dX10_read_45 rfl rfl (by omega) (by omega) (fun h_45 => absurd h_45 (by omega)) (fun h_45 => ?_)
          refine aw_iload dX10_read_48 rfl ?_
          refine aw_aload_n dX10_read_50 rfl ?_
          refine aw_iload dX10_read_51 rfl ?_
          refine aw_iload dX10_read_53 rfl ?_
          refine cqi2 dX10_read_55 km10_258 ok_X10_isWordOf rfl rfl (by decide) k_176 (Nat.le_of_ble_eq_true rfl) ⟨Nat.le_of_ble_eq_true rfl, Nat.le_of_ble_eq_true rfl⟩ rfl rfl (ct_isWordOf (y := j) (b := pInn S.1 t q j) (by omega) (wd_p hF hK hV ht hq j hj)) ?_
          refine aw_if_eqB dX10_read_58 rfl (fun h_58 => ?_) (fun h_58 => ?_)
          · skip
            refine aw_ic (nI 0) dX10_read_76 (by decide) ?_
            refine aw_iadd dX10_read_77 ?_
            refine aw_eq (nI_add _ _) ?_
            refine aw_istore dX10_read_78 (Nat.le_of_ble_eq_true rfl) ?_
            refine aw_inc (nI (j + 1)) dX10_read_80 rfl (Nat.le_of_ble_eq_true rfl) (nI_1 j) ?_
            refine aw_goto dX10_read_83 ?_
            exact ih2 _ _ ⟨rfl, by rw [ctB_no (p := (fun e => pInn S.1 t q e && befN (Qw S.1.2.2.2.1 e) (Qw S.1.2.2.2.1 i))) (fun z => h_58 ((Bool.and_eq_true _ _).mp z).1)]; rfl⟩
          · skip
            refine aw_aload_n dX10_read_61 rfl ?_
            refine aw_iload dX10_read_62 rfl ?_
            refine aw_iload dX10_read_64 rfl ?_
            refine cqi2 dX10_read_66 km10_261 ok_X10_isReadBefore rfl rfl (by decide) k_176 (Nat.le_of_ble_eq_true rfl) ⟨Nat.le_of_ble_eq_true rfl, Nat.le_of_ble_eq_true rfl⟩ rfl rfl (ctM_isReadBefore hw1 hV.2.2.2.2.2.2.2 hw20 hj hi) ?_
            refine aw_if_eqB dX10_read_69 rfl (fun h_69 => ?_) (fun h_69 => ?_)
            · skip
              refine aw_ic (nI 0) dX10_read_76 (by decide) ?_
              refine aw_iadd dX10_read_77 ?_
              refine aw_eq (nI_add _ _) ?_
              refine aw_istore dX10_read_78 (Nat.le_of_ble_eq_true rfl) ?_
              refine aw_inc (nI (j + 1)) dX10_read_80 rfl (Nat.le_of_ble_eq_true rfl) (nI_1 j) ?_
              refine aw_goto dX10_read_83 ?_
              exact ih2 _ _ ⟨rfl, by rw [ctB_no (p := (fun e => pInn S.1 t q e && befN (Qw S.1.2.2.2.1 e) (Qw S.1.2.2.2.1 i))) (fun z => h_69 ((Bool.and_eq_true _ _).mp z).2)]; rfl⟩
            · skip
              refine aw_ic (nI 1) dX10_read_72 (by decide) ?_
              refine aw_goto dX10_read_73 ?_
              refine aw_iadd dX10_read_77 ?_
              refine aw_eq (nI_add _ _) ?_
              refine aw_istore dX10_read_78 (Nat.le_of_ble_eq_true rfl) ?_
              refine aw_inc (nI (j + 1)) dX10_read_80 rfl (Nat.le_of_ble_eq_true rfl) (nI_1 j) ?_
              refine aw_goto dX10_read_83 ?_
              exact ih2 _ _ ⟨rfl, by rw [ctB_s (p := (fun e => pInn S.1 t q e && befN (Qw S.1.2.2.2.1 e) (Qw S.1.2.2.2.1 i))) (by show (_ && _) = true; rw [h_58, h_69]; rfl)]; rfl⟩
        · rintro σ3 lv2 ⟨rfl, rfl⟩
          refine aw_iload dX10_read_39 rfl ?_
          refine aw_aload_n dX10_read_41 rfl ?_
          refine gf10_boxMany dX10_read_42 kf10_92 k_176 ?_
          refine aw_eq hcw1 ?_
          refine aw_icmp_geN dX10_read_45 rfl rfl (by omega) (by omega) (fun h_45 => ?_) (fun h_45 => absurd h_45 (by omega))
          refine aw_aload_n dX10_read_86 rfl ?_
          refine aw_iload dX10_read_87 rfl ?_
          refine aw_iload dX10_read_89 rfl ?_
          refine cqi2 dX10_read_91 km10_258 ok_X10_isWordOf rfl rfl (by decide) k_176 (Nat.le_of_ble_eq_true rfl) ⟨Nat.le_of_ble_eq_true rfl, Nat.le_of_ble_eq_true rfl⟩ rfl rfl (ct_isWordOf (y := i) (b := pInn S.1 t q i) (by omega) (wd_p hF hK hV ht hq i hi)) ?_
          refine aw_if_eqB dX10_read_94 rfl (fun h_94 => ?_) (fun h_94 => ?_)
          · skip
            refine aw_inc (nI (i + 1)) dX10_read_106 rfl (Nat.le_of_ble_eq_true rfl) (nI_1 i) ?_
            refine aw_goto dX10_read_109 ?_
            exact ih _ _ ⟨rfl, fun j hj => by
              by_cases z : j = i
              · rw [z]; show (_ && _) = false; rw [show pInn S.1 t q i = false by simpa using h_94, Bool.false_and]
              · exact hf j (by omega), _, _, rfl⟩
          · skip
            refine aw_iload dX10_read_97 rfl ?_
            refine aw_iload_n dX10_read_99 rfl ?_
            refine aw_icmp_ne dX10_read_100 (fun h_100 => ?_) (fun h_100 => ?_)
            · skip
              refine aw_inc (nI (i + 1)) dX10_read_106 rfl (Nat.le_of_ble_eq_true rfl) (nI_1 i) ?_
              refine aw_goto dX10_read_109 ?_
              exact ih _ _ ⟨rfl, fun j hj => by
                by_cases z : j = i
                · rw [z]; show (_ && _) = false; rw [decide_eq_false (show ¬ nI (ahd S.1 t q i) = k from h_100), Bool.and_false]
                · exact hf j (by omega), _, _, rfl⟩
            · skip
              refine aw_iload dX10_read_103 rfl ?_
              exact aw_ireti dX10_read_105 (PoM.mk (by unfold aRead; rw [e]; dsimp only; rw [e2]; dsimp only; rw [fst_eq (p := (fun w => pInn S.1 t q w && decide (nI (ahd S.1 t q w) = k))) hf (by show (_ && _) = true; rw [h_94, decide_eq_true (show nI (ahd S.1 t q i) = k from h_100)]; rfl) hi, orN_y hi]) hI1 hFr)
      · rintro σ2 lv2 ⟨rfl, hf, x, y, rfl⟩
        refine aw_iload dX10_read_24 rfl ?_
        refine aw_aload_n dX10_read_26 rfl ?_
        refine gf10_boxMany dX10_read_27 kf10_92 k_176 ?_
        refine aw_eq hcw1 ?_
        refine aw_icmp_geN dX10_read_30 rfl rfl (by omega) (by omega) (fun h_30 => ?_) (fun h_30 => absurd h_30 (by omega))
        refine aw_bi (-6) dX10_read_112 (by decide) ?_
        exact aw_ireti dX10_read_114 (PoM.mk (by unfold aRead; rw [e]; dsimp only; rw [e2]; dsimp only; rw [fst_none (p := (fun w => pInn S.1 t q w && decide (nI (ahd S.1 t q w) = k))) hf, orN_n]) hI1 hFr)

theorem all_s {q : Nat → Bool} {j : Nat} : allB q (j + 1) = true ↔ allB q j = true ∧ q j = true := Bool.and_eq_true_iff
theorem hd_1 {nr nc : Nat} {fc : Nat → Nat} {cv : Nat → Nat → Nat} {i : Nat} (h : ∀ j, j < i → oneB nc fc cv j = false) (hy : oneB nc fc cv i = true) (hi : i < nr) : hdsN nr nc fc cv = min (i + 1) (nr - 1) := by
  unfold hdsN
  by_cases z : i < nr - 1
  · rw [fst_eq h hy z, if_pos z]
    omega
  · rw [fst_none (fun j hj => h j (by omega)), if_neg (Nat.lt_irrefl _)]
    omega
theorem hd_2 {nr nc : Nat} {fc : Nat → Nat} {cv : Nat → Nat → Nat} (h : ∀ j, j < nr → oneB nc fc cv j = false) : hdsN nr nc fc cv = min (nr + 1) (nr - 1) := by
  unfold hdsN
  rw [fst_none (fun j hj => h j (by omega)), if_neg (Nat.lt_irrefl _)]
  omega
theorem aAt_v {P : Pg} {t r c : Nat} (ht : t < pT P) (hr : r < pNr P t) (hc : c < pNc P t) (hT : pT P < 2 ^ 31) (hn : pNr P t < 2 ^ 31) (hm : pNc P t < 2 ^ 31) : aAt P (nI t) (nI r) (nI c) = nI (pFc P t (r * pNc P t + c)) := by
  unfold aAt
  rw [ix_some ht hT]
  dsimp only
  rw [ix_some hr hn, ix_some hc hm]
theorem pFc_cc {P : Pg} {t f : Nat} (hf : f < pNr P t * pNc P t) : pFc P t f < pCc P t := by
  have hL : Lb (tlab (inN (pR P) (pM P) (rcP P) t) (pR P) (pM P) (rcP P)) := Lb.labF _
  exact cnt_lt (hL.2 _) (Nat.lt_of_le_of_lt (hL.1 _) hf)
set_option maxHeartbeats 4000000 in
set_option maxRecDepth 100000 in
theorem ct_isNarrow {g : GG} {σ : SG} {P : Pg} {t : Nat} (hF : FnS σ P) (hK : FOKs) (hV : PgV P) (hs : σ.2.1 179 2 = nI (rcP P)) (ht : t < pT P) {r : Nat} (hr : r < pNr P t) : Cti g yX10_isNarrow cX10_isNarrow 5 (some .boolean) (rmm 1 22) [.ref (ad g 176), .int (nI t), .int (nI r)] σ (fun x σ' => x = (if oneB (pNc P t) (pFc P t) (tcv (inN (pR P) (pM P) (rcP P) t) (pR P) (pM P) (rcP P)) r = true then 1 else 0) ∧ σ' = σ) := by
  refine ct_of (own := RX10) (lv := [some (.ref (ad g 176)), some (.int (nI t)), some (.int (nI r)), none, none]) rfl (by decide) (Nat.le_of_ble_eq_true rfl) (by intro u hu; simp only [List.mem_cons, List.not_mem_nil, or_false] at hu; rcases hu with rfl | rfl | rfl <;> rfl) (lv_ok [.ref (ad g 176), .int (nI t), .int (nI r)] 2) ?_
  have G := FnS.g.mp hF
  have hTb := G.tbf hK hV hs ht
  have hT6 := pT_le hK hV
  obtain ⟨f1, f2, f3, f4, f5, f6, f7, f8, f9, f10⟩ := id hF
  obtain ⟨n0, n1, a1, a2, a3, a4, hcc, -⟩ := pB hK hV ht
  have hff := pFF_le hK hV (show t + 1 ≤ pT P from ht)
  have hfs : pFF P (t + 1) = pFF P t + pNr P t * pNc P t := rfl
  have hb2 := pCF_le P (t + 1)
  have hb3 : pCF P (t + 1) = pCF P t + pCc P t := rfl
  have hl185 := l_185
  have hl186 := l_186
  have hl187 := l_187
  have hl188 := l_188
  refine aw_ic (nI 1) dX10_isNarrow_0 (by decide) ?_
  refine aw_istore_n dX10_isNarrow_1 (Nat.le_of_ble_eq_true rfl) ?_
  refine aw_ic (nI 0) dX10_isNarrow_2 (by decide) ?_
  refine aw_istore dX10_isNarrow_3 (Nat.le_of_ble_eq_true rfl) ?_
  refine for_ux (fun j σ' lv' => σ = σ' ∧ ∃ v, v = (if allB (fun j => decide (tcv (inN (pR P) (pM P) (rcP P) t) (pR P) (pM P) (rcP P) (pFc P t (r * pNc P t + j)) 3 ≤ 1)) j = true then 1 else 0) ∧ lv' = [some (.ref (ad g 176)), some (.int (nI t)), some (.int (nI r)), some (.int v), some (.int (nI j))]) (pNc P t) ?_ ?_ (0) _ _ (by omega) (⟨rfl, _, rfl, rfl⟩)
  · rintro j σ2 lv2 hj ⟨rfl, v, hv, rfl⟩ ih
    have hrc := rc_lt hr hj
    have hfc := pFc_cc hrc
    have hcv : pCw P t (pFc P t (r * pNc P t + j)) 3 = tcv (inN (pR P) (pM P) (rcP P) t) (pR P) (pM P) (rcP P) (pFc P t (r * pNc P t + j)) 3 := by unfold pCw gCw; rw [if_neg (by decide)]; rfl
    obtain ⟨h3a, h3b⟩ : tcv (inN (pR P) (pM P) (rcP P) t) (pR P) (pM P) (rcP P) (pFc P t (r * pNc P t + j)) 1 + tcv (inN (pR P) (pM P) (rcP P) t) (pR P) (pM P) (rcP P) (pFc P t (r * pNc P t + j)) 3 ≤ pN P t 1 - 1 ∧ 1 ≤ tcv (inN (pR P) (pM P) (rcP P) t) (pR P) (pM P) (rcP P) (pFc P t (r * pNc P t + j)) 3 := ((hK P hV).2.2.2 t ht).2.2.2.1 _ 1 hfc (by decide)
    refine aw_iload dX10_isNarrow_5 rfl ?_
    refine aw_aload_n dX10_isNarrow_7 rfl ?_
    refine aw_iload_n dX10_isNarrow_8 rfl ?_
    refine cqi1 dX10_isNarrow_9 km10_152 ok_X10_columnsOf rfl rfl (by decide) k_176 (Nat.le_of_ble_eq_true rfl) ⟨Nat.le_of_ble_eq_true rfl, Nat.le_of_ble_eq_true rfl⟩ rfl rfl (ct_columnsF hTb) ?_
    refine aw_eq (show _ = nI (pNc P t) by rw [Nat.add_sub_cancel]) ?_
    refine aw_icmp_geN dX10_isNarrow_12 rfl rfl (by omega) (by omega) (fun h_12 => absurd h_12 (by omega)) (fun h_12 => ?_)
    refine aw_iload_n dX10_isNarrow_15 rfl ?_
    refine aw_if_eqB dX10_isNarrow_16 hv (fun h_16 => ?_) (fun h_16 => ?_)
    · skip
      refine aw_ic (nI 0) dX10_isNarrow_54 (by decide) ?_
      refine aw_istore_n dX10_isNarrow_55 (Nat.le_of_ble_eq_true rfl) ?_
      refine aw_inc (nI (j + 1)) dX10_isNarrow_56 rfl (Nat.le_of_ble_eq_true rfl) (nI_1 j) ?_
      refine aw_goto dX10_isNarrow_59 ?_
      exact ih _ _ ⟨rfl, _, (if_neg (fun z => h_16 (all_s.mp z).1)).symm, rfl⟩
    · skip
      refine aw_aload_n dX10_isNarrow_19 rfl ?_
      refine aw_aload_n dX10_isNarrow_20 rfl ?_
      refine gf10_cellOf dX10_isNarrow_21 kf10_40 k_176 ?_
      refine aw_eqr (b := 187) rfl ?_
      refine aw_aload_n dX10_isNarrow_24 rfl ?_
      refine gf10_fieldFrom dX10_isNarrow_25 kf10_34 k_176 ?_
      refine aw_eqr (b := 185) rfl ?_
      refine aw_iload_n dX10_isNarrow_28 rfl ?_
      refine aw_ld (t) dX10_isNarrow_29 k_185 (rfl) (by omega) ?_
      refine aw_eq (f7 t (by omega)).1 ?_
      refine aw_iload_n dX10_isNarrow_30 rfl ?_
      refine aw_aload_n dX10_isNarrow_31 rfl ?_
      refine aw_iload_n dX10_isNarrow_32 rfl ?_
      refine cqi1 dX10_isNarrow_33 km10_152 ok_X10_columnsOf rfl rfl (by decide) k_176 (Nat.le_of_ble_eq_true rfl) ⟨Nat.le_of_ble_eq_true rfl, Nat.le_of_ble_eq_true rfl⟩ rfl rfl (ct_columnsF hTb) ?_
      refine aw_eq (show _ = nI (pNc P t) by rw [Nat.add_sub_cancel]) ?_
      refine aw_imul dX10_isNarrow_36 ?_
      refine aw_eq (pk_mul _ _) ?_
      refine aw_iadd dX10_isNarrow_37 ?_
      refine aw_eq (nI_add _ _) ?_
      refine aw_iload dX10_isNarrow_38 rfl ?_
      refine aw_iadd dX10_isNarrow_40 ?_
      refine aw_eq (show _ = nI (pFF P t + (r * pNc P t + j)) by rw [nI_add, Nat.add_assoc]) ?_
      refine aw_ld (pFF P t + (r * pNc P t + j)) dX10_isNarrow_41 k_187 (rfl) (by omega) ?_
      refine aw_eq (f8 t _ ht hrc) ?_
      refine aw_ic (nI 3) dX10_isNarrow_42 (by decide) ?_
      refine cqi2 dX10_isNarrow_43 km10_174 ok_X10_cellAt rfl rfl (by decide) k_176 (Nat.le_of_ble_eq_true rfl) ⟨Nat.le_of_ble_eq_true rfl, Nat.le_of_ble_eq_true rfl⟩ rfl rfl (ct_cellAt (r := pCF P t + pFc P t (r * pNc P t + j)) (w := 3) (by omega)) ?_
      refine aw_eq ((f9 t _ 3 ht hfc (by decide)).trans (congrArg nI hcv)) ?_
      refine aw_ic (nI 1) dX10_isNarrow_46 (by decide) ?_
      refine aw_icmp_neN dX10_isNarrow_47 rfl (b := 1) rfl (by omega) (by omega) (fun h_47 => ?_) (fun h_47 => ?_)
      · skip
        refine aw_ic (nI 0) dX10_isNarrow_54 (by decide) ?_
        refine aw_istore_n dX10_isNarrow_55 (Nat.le_of_ble_eq_true rfl) ?_
        refine aw_inc (nI (j + 1)) dX10_isNarrow_56 rfl (Nat.le_of_ble_eq_true rfl) (nI_1 j) ?_
        refine aw_goto dX10_isNarrow_59 ?_
        exact ih _ _ ⟨rfl, _, (if_neg (fun z => by have z := of_decide_eq_true (all_s.mp z).2; omega)).symm, rfl⟩
      · skip
        refine aw_ic (nI 1) dX10_isNarrow_50 (by decide) ?_
        refine aw_goto dX10_isNarrow_51 ?_
        refine aw_istore_n dX10_isNarrow_55 (Nat.le_of_ble_eq_true rfl) ?_
        refine aw_inc (nI (j + 1)) dX10_isNarrow_56 rfl (Nat.le_of_ble_eq_true rfl) (nI_1 j) ?_
        refine aw_goto dX10_isNarrow_59 ?_
        exact ih _ _ ⟨rfl, _, (if_pos (all_s.mpr ⟨h_16, decide_eq_true (by omega)⟩)).symm, rfl⟩
  · rintro σ2 lv2 ⟨rfl, v, hv, rfl⟩
    refine aw_iload dX10_isNarrow_5 rfl ?_
    refine aw_aload_n dX10_isNarrow_7 rfl ?_
    refine aw_iload_n dX10_isNarrow_8 rfl ?_
    refine cqi1 dX10_isNarrow_9 km10_152 ok_X10_columnsOf rfl rfl (by decide) k_176 (Nat.le_of_ble_eq_true rfl) ⟨Nat.le_of_ble_eq_true rfl, Nat.le_of_ble_eq_true rfl⟩ rfl rfl (ct_columnsF hTb) ?_
    refine aw_eq (show _ = nI (pNc P t) by rw [Nat.add_sub_cancel]) ?_
    refine aw_icmp_geN dX10_isNarrow_12 rfl rfl (by omega) (by omega) (fun h_12 => ?_) (fun h_12 => absurd h_12 (by omega))
    refine aw_iload_n dX10_isNarrow_62 rfl ?_
    exact aw_iretz dX10_isNarrow_63 (by rw [hv]; exact ite_01) (⟨hv, rfl⟩)

set_option maxHeartbeats 4000000 in
set_option maxRecDepth 100000 in
theorem ct_headsOf {g : GG} {σ : SG} {P : Pg} {t : Nat} (hF : FnS σ P) (hK : FOKs) (hV : PgV P) (hs : σ.2.1 179 2 = nI (rcP P)) (ht : t < pT P) : Cti g yX10_headsOf cX10_headsOf 3 (some .int) (rmm 2 46) [.ref (ad g 176), .int (nI t)] σ (fun x σ' => x = nI (pHd P t) ∧ σ' = σ) := by
  refine ct_of (own := RX10) (lv := [some (.ref (ad g 176)), some (.int (nI t)), none]) rfl (by decide) (Nat.le_of_ble_eq_true rfl) (by intro u hu; simp only [List.mem_cons, List.not_mem_nil, or_false] at hu; rcases hu with rfl | rfl <;> rfl) (lv_ok [.ref (ad g 176), .int (nI t)] 1) ?_
  have G := FnS.g.mp hF
  have hTb := G.tbf hK hV hs ht
  have hT6 := pT_le hK hV
  obtain ⟨f1, f2, f3, f4, f5, f6, f7, f8, f9, f10⟩ := id hF
  obtain ⟨n0, n1, a1, a2, a3, a4, hcc, -⟩ := pB hK hV ht
  have hff := pFF_le hK hV (show t + 1 ≤ pT P from ht)
  have hfs : pFF P (t + 1) = pFF P t + pNr P t * pNc P t := rfl
  have hb2 := pCF_le P (t + 1)
  have hb3 : pCF P (t + 1) = pCF P t + pCc P t := rfl
  have hl185 := l_185
  have hl186 := l_186
  have hl187 := l_187
  have hl188 := l_188
  refine aw_ic (nI 0) dX10_headsOf_0 (by decide) ?_
  refine aw_istore_n dX10_headsOf_1 (Nat.le_of_ble_eq_true rfl) ?_
  refine for_ux (fun i σ' lv' => σ = σ' ∧ (∀ j, j < i → oneB (pNc P t) (pFc P t) (tcv (inN (pR P) (pM P) (rcP P) t) (pR P) (pM P) (rcP P)) j = false) ∧ lv' = [some (.ref (ad g 176)), some (.int (nI t)), some (.int (nI i))]) (pNr P t) ?_ ?_ (0) _ _ (by omega) (⟨rfl, fun j hj => absurd hj (Nat.not_lt_zero j), rfl⟩)
  · rintro i σ2 lv2 hi ⟨rfl, hf, rfl⟩ ih
    refine aw_iload_n dX10_headsOf_2 rfl ?_
    refine aw_aload_n dX10_headsOf_3 rfl ?_
    refine aw_iload_n dX10_headsOf_4 rfl ?_
    refine cqi1 dX10_headsOf_5 km10_148 ok_X10_rowsOf rfl rfl (by decide) k_176 (Nat.le_of_ble_eq_true rfl) ⟨Nat.le_of_ble_eq_true rfl, Nat.le_of_ble_eq_true rfl⟩ rfl rfl (ct_rowsF hTb) ?_
    refine aw_eq (show _ = nI (pNr P t) by rw [Nat.add_sub_cancel]) ?_
    refine aw_icmp_geN dX10_headsOf_8 rfl rfl (by omega) (by omega) (fun h_8 => absurd h_8 (by omega)) (fun h_8 => ?_)
    refine aw_aload_n dX10_headsOf_11 rfl ?_
    refine aw_iload_n dX10_headsOf_12 rfl ?_
    refine aw_iload_n dX10_headsOf_13 rfl ?_
    refine cqi2 dX10_headsOf_14 km10_232 ok_X10_isNarrow rfl rfl (by decide) k_176 (Nat.le_of_ble_eq_true rfl) ⟨Nat.le_of_ble_eq_true rfl, Nat.le_of_ble_eq_true rfl⟩ rfl rfl (ct_isNarrow hF hK hV hs ht hi) ?_
    refine aw_if_neB dX10_headsOf_17 rfl (fun h_17 => ?_) (fun h_17 => ?_)
    · skip
      refine aw_iload_n dX10_headsOf_26 rfl ?_
      refine aw_ic (nI 1) dX10_headsOf_27 (by decide) ?_
      refine aw_iadd dX10_headsOf_28 ?_
      refine aw_eq (nI_add _ _) ?_
      refine aw_aload_n dX10_headsOf_29 rfl ?_
      refine aw_iload_n dX10_headsOf_30 rfl ?_
      refine cqi1 dX10_headsOf_31 km10_148 ok_X10_rowsOf rfl rfl (by decide) k_176 (Nat.le_of_ble_eq_true rfl) ⟨Nat.le_of_ble_eq_true rfl, Nat.le_of_ble_eq_true rfl⟩ rfl rfl (ct_rowsF hTb) ?_
      refine aw_eq (show _ = nI (pNr P t) by rw [Nat.add_sub_cancel]) ?_
      refine aw_ic (nI 1) dX10_headsOf_34 (by decide) ?_
      refine aw_isub dX10_headsOf_35 ?_
      refine aw_eq (pk_sub a1) ?_
      refine csq2 dX10_headsOf_36 km10_102 ok_X10_less (Nat.le_of_ble_eq_true rfl) ⟨Nat.le_of_ble_eq_true rfl, Nat.le_of_ble_eq_true rfl⟩ rfl rfl (ct_less (by omega) (by omega)) ?_
      exact aw_ireti dX10_headsOf_39 (⟨congrArg nI (hd_1 hf h_17 hi).symm, rfl⟩)
    · skip
      refine aw_inc (nI (i + 1)) dX10_headsOf_20 rfl (Nat.le_of_ble_eq_true rfl) (nI_1 i) ?_
      refine aw_goto dX10_headsOf_23 ?_
      exact ih _ _ ⟨rfl, fun j hj => by
        by_cases z : j = i
        · rw [z]; simpa using h_17
        · exact hf j (by omega), rfl⟩
  · rintro σ2 lv2 ⟨rfl, hf, rfl⟩
    refine aw_iload_n dX10_headsOf_2 rfl ?_
    refine aw_aload_n dX10_headsOf_3 rfl ?_
    refine aw_iload_n dX10_headsOf_4 rfl ?_
    refine cqi1 dX10_headsOf_5 km10_148 ok_X10_rowsOf rfl rfl (by decide) k_176 (Nat.le_of_ble_eq_true rfl) ⟨Nat.le_of_ble_eq_true rfl, Nat.le_of_ble_eq_true rfl⟩ rfl rfl (ct_rowsF hTb) ?_
    refine aw_eq (show _ = nI (pNr P t) by rw [Nat.add_sub_cancel]) ?_
    refine aw_icmp_geN dX10_headsOf_8 rfl rfl (by omega) (by omega) (fun h_8 => ?_) (fun h_8 => absurd h_8 (by omega))
    refine aw_iload_n dX10_headsOf_26 rfl ?_
    refine aw_ic (nI 1) dX10_headsOf_27 (by decide) ?_
    refine aw_iadd dX10_headsOf_28 ?_
    refine aw_eq (nI_add _ _) ?_
    refine aw_aload_n dX10_headsOf_29 rfl ?_
    refine aw_iload_n dX10_headsOf_30 rfl ?_
    refine cqi1 dX10_headsOf_31 km10_148 ok_X10_rowsOf rfl rfl (by decide) k_176 (Nat.le_of_ble_eq_true rfl) ⟨Nat.le_of_ble_eq_true rfl, Nat.le_of_ble_eq_true rfl⟩ rfl rfl (ct_rowsF hTb) ?_
    refine aw_eq (show _ = nI (pNr P t) by rw [Nat.add_sub_cancel]) ?_
    refine aw_ic (nI 1) dX10_headsOf_34 (by decide) ?_
    refine aw_isub dX10_headsOf_35 ?_
    refine aw_eq (pk_sub a1) ?_
    refine csq2 dX10_headsOf_36 km10_102 ok_X10_less (Nat.le_of_ble_eq_true rfl) ⟨Nat.le_of_ble_eq_true rfl, Nat.le_of_ble_eq_true rfl⟩ rfl rfl (ct_less (by omega) (by omega)) ?_
    exact aw_ireti dX10_headsOf_39 (⟨congrArg nI (hd_2 hf).symm, rfl⟩)

set_option maxHeartbeats 4000000 in
set_option maxRecDepth 100000 in
theorem ctM_heading {g : GG} {σ : SG} {S : Sp} (hK : FOKs) (hI : InvM σ S) (x col k : Int32) : Cti g yX10_heading cX10_heading 9 (some .int) (rmm 8 193) [.ref (ad g 176), .int x, .int col, .int k] σ (PoM σ (aHeading S.1 x col k, S)) := by
  refine ct_of (own := RX10) (lv := [some (.ref (ad g 176)), some (.int x), some (.int col), some (.int k), none, none, none, none, none]) rfl (by decide) (Nat.le_of_ble_eq_true rfl) (by intro u hu; simp only [List.mem_cons, List.not_mem_nil, or_false] at hu; rcases hu with rfl | rfl | rfl | rfl <;> rfl) (lv_ok [.ref (ad g 176), .int x, .int col, .int k] 5) ?_
  have hV := hI.2.1
  have hT6 := pT_le hK hV
  have hM24 := pM_le hV
  have hc24 := hV.1
  have hw20 := hV.2.2.1
  rcases ix_cases x (n := pT S.1) (by omega) with ⟨h, e⟩ | ⟨t, ht, rfl, e⟩
  · skip
    refine aw_aload_n dX10_heading_0 rfl ?_
    refine aw_iload_n dX10_heading_1 rfl ?_
    refine cvi1 dX10_heading_2 km10_198 ok_X10_isTable rfl rfl (by decide) k_176 (Nat.le_of_ble_eq_true rfl) ⟨Nat.le_of_ble_eq_true rfl, Nat.le_of_ble_eq_true rfl⟩ rfl rfl (ct_isTable hK hI _) ?_
    intro r9 σ1 hp_t
    obtain ⟨rfl, hI1, hF, hFr⟩ := hp_t
    obtain ⟨f1, f2, f3, f4, f5, f6, f7, f8, f9, f10⟩ := id hF
    have G := FnS.g.mp hF
    obtain ⟨⟨hc1, hp1, hcw1, hw1, hs01, hs11, hs21⟩, -, -, -⟩ := id hI1
    refine aw_if_eqB dX10_heading_5 rfl (fun h_5 => ?_) (fun h_5 => absurd h_5 (ix_no rfl h))
    refine aw_ic (-1) dX10_heading_25 (by decide) ?_
    exact aw_ireti dX10_heading_26 (PoM.mk (by unfold aHeading; rw [e]) hI1 hFr)
  · skip
    obtain ⟨n0, n1, a1, a2, a3, a4, hcc, -, hhd⟩ := pB hK hV ht
    rcases ix_cases col (n := pNc S.1 t) (by omega) with ⟨h, e2⟩ | ⟨c, hc, rfl, e2⟩
    · skip
      refine aw_aload_n dX10_heading_0 rfl ?_
      refine aw_iload_n dX10_heading_1 rfl ?_
      refine cvi1 dX10_heading_2 km10_198 ok_X10_isTable rfl rfl (by decide) k_176 (Nat.le_of_ble_eq_true rfl) ⟨Nat.le_of_ble_eq_true rfl, Nat.le_of_ble_eq_true rfl⟩ rfl rfl (ct_isTable hK hI _) ?_
      intro r9 σ1 hp_t
      obtain ⟨rfl, hI1, hF, hFr⟩ := hp_t
      obtain ⟨f1, f2, f3, f4, f5, f6, f7, f8, f9, f10⟩ := id hF
      have G := FnS.g.mp hF
      obtain ⟨⟨hc1, hp1, hcw1, hw1, hs01, hs11, hs21⟩, -, -, -⟩ := id hI1
      refine aw_if_eqB dX10_heading_5 rfl (fun h_5 => absurd h_5 (not_not_intro (ix_yes rfl ht (by omega)))) (fun h_5 => ?_)
      refine aw_iload_n dX10_heading_8 rfl ?_
      refine aw_i2l dX10_heading_9 ?_
      refine aw_lconst dX10_heading_10 ?_
      refine aw_aload_n dX10_heading_11 rfl ?_
      refine aw_iload_n dX10_heading_12 rfl ?_
      refine cqi1 dX10_heading_13 km10_152 ok_X10_columnsOf rfl rfl (by decide) k_176 (Nat.le_of_ble_eq_true rfl) ⟨Nat.le_of_ble_eq_true rfl, Nat.le_of_ble_eq_true rfl⟩ rfl rfl (ct_columnsF (G.tbf hK hV hs21 ht)) ?_
      refine aw_eq (show _ = nI (pNc S.1 t) by rw [Nat.add_sub_cancel]) ?_
      refine aw_ic (nI 1) dX10_heading_16 (by decide) ?_
      refine aw_isub dX10_heading_17 ?_
      refine aw_i2l dX10_heading_18 ?_
      refine csq3 dX10_heading_19 km10_64 ok_X10_in (Nat.le_of_ble_eq_true rfl) ⟨Nat.le_of_ble_eq_true rfl, Nat.le_of_ble_eq_true rfl⟩ rfl rfl (ct_inN _ (pNc S.1 t) (by decide) (i64_m (by omega)) (by omega)) ?_
      refine aw_if_neB dX10_heading_22 rfl (fun h_22 => absurd h_22 (ix_no rfl h)) (fun h_22 => ?_)
      refine aw_ic (-1) dX10_heading_25 (by decide) ?_
      exact aw_ireti dX10_heading_26 (PoM.mk (by unfold aHeading; rw [e]; dsimp only; rw [e2]) hI1 hFr)
    · skip
      refine aw_aload_n dX10_heading_0 rfl ?_
      refine aw_iload_n dX10_heading_1 rfl ?_
      refine cvi1 dX10_heading_2 km10_198 ok_X10_isTable rfl rfl (by decide) k_176 (Nat.le_of_ble_eq_true rfl) ⟨Nat.le_of_ble_eq_true rfl, Nat.le_of_ble_eq_true rfl⟩ rfl rfl (ct_isTable hK hI _) ?_
      intro r9 σ1 hp_t
      obtain ⟨rfl, hI1, hF, hFr⟩ := hp_t
      obtain ⟨f1, f2, f3, f4, f5, f6, f7, f8, f9, f10⟩ := id hF
      have G := FnS.g.mp hF
      obtain ⟨⟨hc1, hp1, hcw1, hw1, hs01, hs11, hs21⟩, -, -, -⟩ := id hI1
      refine aw_if_eqB dX10_heading_5 rfl (fun h_5 => absurd h_5 (not_not_intro (ix_yes rfl ht (by omega)))) (fun h_5 => ?_)
      refine aw_iload_n dX10_heading_8 rfl ?_
      refine aw_i2l dX10_heading_9 ?_
      refine aw_lconst dX10_heading_10 ?_
      refine aw_aload_n dX10_heading_11 rfl ?_
      refine aw_iload_n dX10_heading_12 rfl ?_
      refine cqi1 dX10_heading_13 km10_152 ok_X10_columnsOf rfl rfl (by decide) k_176 (Nat.le_of_ble_eq_true rfl) ⟨Nat.le_of_ble_eq_true rfl, Nat.le_of_ble_eq_true rfl⟩ rfl rfl (ct_columnsF (G.tbf hK hV hs21 ht)) ?_
      refine aw_eq (show _ = nI (pNc S.1 t) by rw [Nat.add_sub_cancel]) ?_
      refine aw_ic (nI 1) dX10_heading_16 (by decide) ?_
      refine aw_isub dX10_heading_17 ?_
      refine aw_i2l dX10_heading_18 ?_
      refine csq3 dX10_heading_19 km10_64 ok_X10_in (Nat.le_of_ble_eq_true rfl) ⟨Nat.le_of_ble_eq_true rfl, Nat.le_of_ble_eq_true rfl⟩ rfl rfl (ct_inN _ (pNc S.1 t) (by decide) (i64_m (by omega)) (by omega)) ?_
      refine aw_if_neB dX10_heading_22 rfl (fun h_22 => ?_) (fun h_22 => absurd h_22 (not_not_intro (ix_yes rfl hc (by omega))))
      refine aw_ic (nI 0) dX10_heading_27 (by decide) ?_
      refine aw_istore dX10_heading_28 (Nat.le_of_ble_eq_true rfl) ?_
      refine aw_ic (nI 0) dX10_heading_30 (by decide) ?_
      refine aw_istore dX10_heading_31 (Nat.le_of_ble_eq_true rfl) ?_
      refine for_ux (fun i σ' lv' => InvM σ' S ∧ FnS σ' S.1 ∧ FrM σ σ' ∧ (∀ j, j < i → (fun r => isF (pNc S.1 t) (pFc S.1 t) c r && decide (nI (ctB (isF (pNc S.1 t) (pFc S.1 t) c) r) = k)) j = false) ∧ ∃ x y z, lv' = [some (.ref (ad g 176)), some (.int (nI t)), some (.int (nI c)), some (.int k), some (.int (nI (ctB (isF (pNc S.1 t) (pFc S.1 t) c) i))), some (.int (nI i)), x, y, z]) (pHd S.1 t) ?_ ?_ (0) _ _ (by omega) (⟨hI1, hF, hFr, fun j hj => absurd hj (Nat.not_lt_zero j), _, _, _, rfl⟩)
      · rintro i σ2 lv2 hi ⟨hI1, hF, hFr, hf, x, y, z, rfl⟩ ih
        have hci := pFc_cc (P := S.1) (rc_lt (show i < pNr S.1 t by omega) hc)
        refine aw_iload dX10_heading_33 rfl ?_
        refine aw_aload_n dX10_heading_35 rfl ?_
        refine aw_iload_n dX10_heading_36 rfl ?_
        refine cqi1 dX10_heading_37 km10_241 ok_X10_headsOf rfl rfl (by decide) k_176 (Nat.le_of_ble_eq_true rfl) ⟨Nat.le_of_ble_eq_true rfl, Nat.le_of_ble_eq_true rfl⟩ rfl rfl (ct_headsOf hF hK hV hI1.1.2.2.2.2.2.2 ht) ?_
        refine aw_icmp_geN dX10_heading_40 rfl rfl (by omega) (by omega) (fun h_40 => absurd h_40 (by omega)) (fun h_40 => ?_)
        refine aw_aload_n dX10_heading_43 rfl ?_
        refine aw_iload_n dX10_heading_44 rfl ?_
        refine aw_iload dX10_heading_45 rfl ?_
        refine aw_iload_n dX10_heading_47 rfl ?_
        refine cvi3 dX10_heading_48 km10_264 ok_X10_at rfl rfl (by decide) k_176 (Nat.le_of_ble_eq_true rfl) ⟨Nat.le_of_ble_eq_true rfl, Nat.le_of_ble_eq_true rfl⟩ rfl rfl (ctM_at hK hI1 _ _ _) ?_
        intro r8 σ7 hp_a
        obtain ⟨⟨e8, hI7, hFr7⟩, hF7⟩ := hp_a
        obtain rfl : r8 = nI (pFc S.1 t (i * pNc S.1 t + c)) := e8.trans (aAt_v ht (by omega) hc (by omega) (by omega) (by omega))
        replace hFr := hFr.trans hFr7
        replace hI1 := hI7
        replace hF := hF7
        refine aw_istore dX10_heading_51 (Nat.le_of_ble_eq_true rfl) ?_
        refine aw_ic (nI 1) dX10_heading_53 (by decide) ?_
        refine aw_istore dX10_heading_54 (Nat.le_of_ble_eq_true rfl) ?_
        refine aw_ic (nI 0) dX10_heading_56 (by decide) ?_
        refine aw_istore dX10_heading_57 (Nat.le_of_ble_eq_true rfl) ?_
        refine for_ux (fun j σ' lv' => InvM σ' S ∧ FnS σ' S.1 ∧ FrM σ σ' ∧ ∃ v, v = (if allB (fun j => !decide (pFc S.1 t (j * pNc S.1 t + c) = pFc S.1 t (i * pNc S.1 t + c))) j = true then 1 else 0) ∧ lv' = [some (.ref (ad g 176)), some (.int (nI t)), some (.int (nI c)), some (.int k), some (.int (nI (ctB (isF (pNc S.1 t) (pFc S.1 t) c) i))), some (.int (nI i)), some (.int (nI (pFc S.1 t (i * pNc S.1 t + c)))), some (.int v), some (.int (nI j))]) (i) ?_ ?_ (0) _ _ (by omega) (⟨hI1, hF, hFr, _, rfl, rfl⟩)
        · rintro j σ3 lv2 hj ⟨hI1, hF, hFr, v, hv, rfl⟩ ih2
          have hcj := pFc_cc (P := S.1) (rc_lt (show j < pNr S.1 t by omega) hc)
          refine aw_iload dX10_heading_59 rfl ?_
          refine aw_iload dX10_heading_61 rfl ?_
          refine aw_icmp_geN dX10_heading_63 rfl rfl (by omega) (by omega) (fun h_63 => absurd h_63 (by omega)) (fun h_63 => ?_)
          refine aw_iload dX10_heading_66 rfl ?_
          refine aw_if_eqB dX10_heading_68 hv (fun h_68 => ?_) (fun h_68 => ?_)
          · skip
            refine aw_ic (nI 0) dX10_heading_88 (by decide) ?_
            refine aw_istore dX10_heading_89 (Nat.le_of_ble_eq_true rfl) ?_
            refine aw_inc (nI (j + 1)) dX10_heading_91 rfl (Nat.le_of_ble_eq_true rfl) (nI_1 j) ?_
            refine aw_goto dX10_heading_94 ?_
            exact ih2 _ _ ⟨hI1, hF, hFr, _, (if_neg (fun z => h_68 (all_s.mp z).1)).symm, rfl⟩
          · skip
            refine aw_aload_n dX10_heading_71 rfl ?_
            refine aw_iload_n dX10_heading_72 rfl ?_
            refine aw_iload dX10_heading_73 rfl ?_
            refine aw_iload_n dX10_heading_75 rfl ?_
            refine cvi3 dX10_heading_76 km10_264 ok_X10_at rfl rfl (by decide) k_176 (Nat.le_of_ble_eq_true rfl) ⟨Nat.le_of_ble_eq_true rfl, Nat.le_of_ble_eq_true rfl⟩ rfl rfl (ctM_at hK hI1 _ _ _) ?_
            intro r8 σ7 hp_a
            obtain ⟨⟨e8, hI7, hFr7⟩, hF7⟩ := hp_a
            obtain rfl : r8 = nI (pFc S.1 t (j * pNc S.1 t + c)) := e8.trans (aAt_v ht (by omega) hc (by omega) (by omega) (by omega))
            replace hFr := hFr.trans hFr7
            replace hI1 := hI7
            replace hF := hF7
            refine aw_iload dX10_heading_79 rfl ?_
            refine aw_icmp_eqN dX10_heading_81 rfl rfl (by omega) (by omega) (fun h_81 => ?_) (fun h_81 => ?_)
            · skip
              refine aw_ic (nI 0) dX10_heading_88 (by decide) ?_
              refine aw_istore dX10_heading_89 (Nat.le_of_ble_eq_true rfl) ?_
              refine aw_inc (nI (j + 1)) dX10_heading_91 rfl (Nat.le_of_ble_eq_true rfl) (nI_1 j) ?_
              refine aw_goto dX10_heading_94 ?_
              exact ih2 _ _ ⟨hI1, hF, hFr, _, (if_neg (fun z => by have z := (all_s.mp z).2; rw [decide_eq_true h_81] at z; exact absurd z (by decide))).symm, rfl⟩
            · skip
              refine aw_ic (nI 1) dX10_heading_84 (by decide) ?_
              refine aw_goto dX10_heading_85 ?_
              refine aw_istore dX10_heading_89 (Nat.le_of_ble_eq_true rfl) ?_
              refine aw_inc (nI (j + 1)) dX10_heading_91 rfl (Nat.le_of_ble_eq_true rfl) (nI_1 j) ?_
              refine aw_goto dX10_heading_94 ?_
              exact ih2 _ _ ⟨hI1, hF, hFr, _, (if_pos (all_s.mpr ⟨h_68, by rw [decide_eq_false h_81]; rfl⟩)).symm, rfl⟩
        · rintro σ3 lv2 ⟨hI1, hF, hFr, v, hv, rfl⟩
          have hv : v = (if isF (pNc S.1 t) (pFc S.1 t) c i = true then 1 else 0) := hv
          refine aw_iload dX10_heading_59 rfl ?_
          refine aw_iload dX10_heading_61 rfl ?_
          refine aw_icmp_geN dX10_heading_63 rfl rfl (by omega) (by omega) (fun h_63 => ?_) (fun h_63 => absurd h_63 (by omega))
          refine aw_iload dX10_heading_97 rfl ?_
          refine aw_if_eqB dX10_heading_99 hv (fun h_99 => ?_) (fun h_99 => ?_)
          · skip
            refine aw_iload dX10_heading_111 rfl ?_
            refine aw_iload dX10_heading_113 rfl ?_
            refine aw_if_eqB dX10_heading_115 hv (fun h_115 => ?_) (fun h_115 => ?_)
            · skip
              refine aw_ic (nI 0) dX10_heading_122 (by decide) ?_
              refine aw_iadd dX10_heading_123 ?_
              refine aw_eq (nI_add _ _) ?_
              refine aw_istore dX10_heading_124 (Nat.le_of_ble_eq_true rfl) ?_
              refine aw_inc (nI (i + 1)) dX10_heading_126 rfl (Nat.le_of_ble_eq_true rfl) (nI_1 i) ?_
              refine aw_goto dX10_heading_129 ?_
              exact ih _ _ ⟨hI1, hF, hFr, fun j hj => by
                by_cases z : j = i
                · rw [z]; show (_ && _) = false; rw [show isF (pNc S.1 t) (pFc S.1 t) c i = false by simpa using h_99, Bool.false_and]
                · exact hf j (by omega), _, _, _, by rw [ctB_no (p := isF (pNc S.1 t) (pFc S.1 t) c) h_115]; rfl⟩
            · skip
              refine aw_ic (nI 1) dX10_heading_118 (by decide) ?_
              refine aw_goto dX10_heading_119 ?_
              refine aw_iadd dX10_heading_123 ?_
              refine aw_eq (nI_add _ _) ?_
              refine aw_istore dX10_heading_124 (Nat.le_of_ble_eq_true rfl) ?_
              refine aw_inc (nI (i + 1)) dX10_heading_126 rfl (Nat.le_of_ble_eq_true rfl) (nI_1 i) ?_
              refine aw_goto dX10_heading_129 ?_
              exact absurd h_115 h_99
          · skip
            refine aw_iload dX10_heading_102 rfl ?_
            refine aw_iload_n dX10_heading_104 rfl ?_
            refine aw_icmp_ne dX10_heading_105 (fun h_105 => ?_) (fun h_105 => ?_)
            · skip
              refine aw_iload dX10_heading_111 rfl ?_
              refine aw_iload dX10_heading_113 rfl ?_
              refine aw_if_eqB dX10_heading_115 hv (fun h_115 => ?_) (fun h_115 => ?_)
              · skip
                refine aw_ic (nI 0) dX10_heading_122 (by decide) ?_
                refine aw_iadd dX10_heading_123 ?_
                refine aw_eq (nI_add _ _) ?_
                refine aw_istore dX10_heading_124 (Nat.le_of_ble_eq_true rfl) ?_
                refine aw_inc (nI (i + 1)) dX10_heading_126 rfl (Nat.le_of_ble_eq_true rfl) (nI_1 i) ?_
                refine aw_goto dX10_heading_129 ?_
                exact absurd h_99 h_115
              · skip
                refine aw_ic (nI 1) dX10_heading_118 (by decide) ?_
                refine aw_goto dX10_heading_119 ?_
                refine aw_iadd dX10_heading_123 ?_
                refine aw_eq (nI_add _ _) ?_
                refine aw_istore dX10_heading_124 (Nat.le_of_ble_eq_true rfl) ?_
                refine aw_inc (nI (i + 1)) dX10_heading_126 rfl (Nat.le_of_ble_eq_true rfl) (nI_1 i) ?_
                refine aw_goto dX10_heading_129 ?_
                exact ih _ _ ⟨hI1, hF, hFr, fun j hj => by
                  by_cases z : j = i
                  · rw [z]; show (_ && _) = false; rw [decide_eq_false h_105, Bool.and_false]
                  · exact hf j (by omega), _, _, _, by rw [ctB_s (p := isF (pNc S.1 t) (pFc S.1 t) c) h_115]; rfl⟩
            · skip
              refine aw_iload dX10_heading_108 rfl ?_
              exact aw_ireti dX10_heading_110 (PoM.mk (by unfold aHeading; rw [e]; dsimp only; rw [e2]; dsimp only; rw [fst_eq (p := (fun r => isF (pNc S.1 t) (pFc S.1 t) c r && decide (nI (ctB (isF (pNc S.1 t) (pFc S.1 t) c) r) = k))) hf (by show (_ && _) = true; rw [h_99, decide_eq_true h_105]; rfl) hi, if_pos hi]) hI1 hFr)
      · rintro σ2 lv2 ⟨hI1, hF, hFr, hf, x, y, z, rfl⟩
        refine aw_iload dX10_heading_33 rfl ?_
        refine aw_aload_n dX10_heading_35 rfl ?_
        refine aw_iload_n dX10_heading_36 rfl ?_
        refine cqi1 dX10_heading_37 km10_241 ok_X10_headsOf rfl rfl (by decide) k_176 (Nat.le_of_ble_eq_true rfl) ⟨Nat.le_of_ble_eq_true rfl, Nat.le_of_ble_eq_true rfl⟩ rfl rfl (ct_headsOf hF hK hV hI1.1.2.2.2.2.2.2 ht) ?_
        refine aw_icmp_geN dX10_heading_40 rfl rfl (by omega) (by omega) (fun h_40 => ?_) (fun h_40 => absurd h_40 (by omega))
        refine aw_bi (-6) dX10_heading_132 (by decide) ?_
        exact aw_ireti dX10_heading_134 (PoM.mk (by unfold aHeading; rw [e]; dsimp only; rw [e2]; dsimp only; rw [fst_none (p := (fun r => isF (pNc S.1 t) (pFc S.1 t) c r && decide (nI (ctB (isF (pNc S.1 t) (pFc S.1 t) c) r) = k))) hf, if_neg (Nat.lt_irrefl _)]) hI1 hFr)

