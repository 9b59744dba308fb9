set_option maxHeartbeats 4000000 in
set_option maxRecDepth 100000 in
theorem ct_isTable {g : GG} {σ : SG} {S : Sp} (hK : FOKs) (hI : InvM σ S) (x : Int32) : Cti g yX10_isTable cX10_isTable 2 (some .boolean) (rmm 6 149) [.ref (ad g 176), .int x] σ (fun r σ' => r = (if ¬ x < 0 ∧ ¬ nI (pT S.1) ≤ x then 1 else 0) ∧ InvM σ' S ∧ FnS σ' S.1 ∧ FrM σ σ') := by
  refine ct_of (own := RX10) (lv := [some (.ref (ad g 176)), some (.int x)]) rfl (by decide) (Nat.le_of_ble_eq_true rfl) (by intro u hu; simp only [List.mem_cons, List.not_mem_nil, or_false] at hu; rcases hu with rfl | rfl <;> rfl) (lv_ok [.ref (ad g 176), .int x] 0) ?_
  have hV := hI.2.1
  have hT6 := pT_le hK hV
  have hM24 := pM_le hV
  have hc24 := hV.1
  have hw20 := hV.2.2.1
  refine aw_aload_n dX10_isTable_0 rfl ?_
  refine cvv0 dX10_isTable_1 km10_195 ok_X10_findAll rfl rfl (by decide) k_176 (Nat.le_of_ble_eq_true rfl) ⟨Nat.le_of_ble_eq_true rfl, Nat.le_of_ble_eq_true rfl⟩ rfl rfl (ct_findAll hK hI) ?_
  intro σ1 hp_fa
  obtain ⟨hI1, hF, hFr⟩ := hp_fa
  obtain ⟨f1, f2, f3, f4, f5, f6, f7, f8, f9, f10⟩ := id hF
  refine aw_iload_n dX10_isTable_4 rfl ?_
  refine aw_i2l dX10_isTable_5 ?_
  refine aw_lconst dX10_isTable_6 ?_
  refine aw_aload_n dX10_isTable_7 rfl ?_
  refine gf10_tableMany dX10_isTable_8 kf10_138 k_176 ?_
  refine aw_eq f5 ?_
  refine aw_ic (nI 1) dX10_isTable_11 (by decide) ?_
  refine aw_isub dX10_isTable_12 ?_
  refine aw_i2l dX10_isTable_13 ?_
  refine csq3 dX10_isTable_14 km10_64 ok_X10_in (Nat.le_of_ble_eq_true rfl) ⟨Nat.le_of_ble_eq_true rfl, Nat.le_of_ble_eq_true rfl⟩ rfl rfl (ct_inN x (pT S.1) (by decide) (i64_m (by omega)) (by omega)) ?_
  exact aw_iretz dX10_isTable_17 (ite_01) (⟨rfl, hI1, hF, hFr⟩)

set_option maxHeartbeats 4000000 in
set_option maxRecDepth 100000 in
theorem ct_isRule {g : GG} {σ : SG} {S : Sp} (hK : FOKs) (hI : InvM σ S) (x : Int32) : Cti g yX10_isRule cX10_isRule 2 (some .boolean) (rmm 6 149) [.ref (ad g 176), .int x] σ (fun r σ' => r = (if ¬ x < 0 ∧ ¬ nI (pM S.1) ≤ x then 1 else 0) ∧ InvM σ' S ∧ FnS σ' S.1 ∧ FrM σ σ') := by
  refine ct_of (own := RX10) (lv := [some (.ref (ad g 176)), some (.int x)]) rfl (by decide) (Nat.le_of_ble_eq_true rfl) (by intro u hu; simp only [List.mem_cons, List.not_mem_nil, or_false] at hu; rcases hu with rfl | rfl <;> rfl) (lv_ok [.ref (ad g 176), .int x] 0) ?_
  have hV := hI.2.1
  have hT6 := pT_le hK hV
  have hM24 := pM_le hV
  have hc24 := hV.1
  have hw20 := hV.2.2.1
  refine aw_aload_n dX10_isRule_0 rfl ?_
  refine cvv0 dX10_isRule_1 km10_195 ok_X10_findAll rfl rfl (by decide) k_176 (Nat.le_of_ble_eq_true rfl) ⟨Nat.le_of_ble_eq_true rfl, Nat.le_of_ble_eq_true rfl⟩ rfl rfl (ct_findAll hK hI) ?_
  intro σ1 hp_fa
  obtain ⟨hI1, hF, hFr⟩ := hp_fa
  obtain ⟨f1, f2, f3, f4, f5, f6, f7, f8, f9, f10⟩ := id hF
  refine aw_iload_n dX10_isRule_4 rfl ?_
  refine aw_i2l dX10_isRule_5 ?_
  refine aw_lconst dX10_isRule_6 ?_
  refine aw_aload_n dX10_isRule_7 rfl ?_
  refine gf10_ruleMany dX10_isRule_8 kf10_105 k_176 ?_
  refine aw_eq f1 ?_
  refine aw_ic (nI 1) dX10_isRule_11 (by decide) ?_
  refine aw_isub dX10_isRule_12 ?_
  refine aw_i2l dX10_isRule_13 ?_
  refine csq3 dX10_isRule_14 km10_64 ok_X10_in (Nat.le_of_ble_eq_true rfl) ⟨Nat.le_of_ble_eq_true rfl, Nat.le_of_ble_eq_true rfl⟩ rfl rfl (ct_inN x (pM S.1) (by decide) (i64_m (by omega)) (by omega)) ?_
  exact aw_iretz dX10_isRule_17 (ite_01) (⟨rfl, hI1, hF, hFr⟩)

set_option maxHeartbeats 4000000 in
set_option maxRecDepth 100000 in
theorem ct_isCell0 {g : GG} {σ : SG} {S : Sp} (hK : FOKs) (hI : InvM σ S) {x : Int32} (h : x < 0 ∨ nI (pT S.1) ≤ x) (c : Int32) : Cti g yX10_isCell cX10_isCell 3 (some .boolean) (rmm 7 170) [.ref (ad g 176), .int x, .int c] σ (fun r σ' => r = 0 ∧ InvM σ' S ∧ FnS σ' S.1 ∧ FrM σ σ') := by
  refine ct_of (own := RX10) (lv := [some (.ref (ad g 176)), some (.int x), some (.int c)]) rfl (by decide) (Nat.le_of_ble_eq_true rfl) (by intro u hu; simp only [List.mem_cons, List.not_mem_nil, or_false] at hu; rcases hu with rfl | rfl | rfl <;> rfl) (lv_ok [.ref (ad g 176), .int x, .int c] 0) ?_
  have hV := hI.2.1
  have hT6 := pT_le hK hV
  have hM24 := pM_le hV
  have hc24 := hV.1
  have hw20 := hV.2.2.1
  refine aw_aload_n dX10_isCell_0 rfl ?_
  refine aw_iload_n dX10_isCell_1 rfl ?_
  refine cvi1 dX10_isCell_2 km10_198 ok_X10_isTable rfl rfl (by decide) k_176 (Nat.le_of_ble_eq_true rfl) ⟨Nat.le_of_ble_eq_true rfl, Nat.le_of_ble_eq_true rfl⟩ rfl rfl (ct_isTable hK hI x) ?_
  intro r9 σ1 hp_t
  obtain ⟨rfl, hI1, hF, hFr⟩ := hp_t
  obtain ⟨f1, f2, f3, f4, f5, f6, f7, f8, f9, f10⟩ := id hF
  have G := FnS.g.mp hF
  obtain ⟨⟨hc1, hp1, hcw1, hw1, hs01, hs11, hs21⟩, -, -, -⟩ := id hI1
  refine aw_if_eqB dX10_isCell_5 rfl (fun h_5 => ?_) (fun h_5 => absurd h_5 (ix_no rfl h))
  refine aw_ic (nI 0) dX10_isCell_39 (by decide) ?_
  exact aw_iretz dX10_isCell_40 (by decide) (⟨rfl, hI1, hF, hFr⟩)

set_option maxHeartbeats 4000000 in
set_option maxRecDepth 100000 in
theorem ct_isCell1 {g : GG} {σ : SG} {S : Sp} (hK : FOKs) (hI : InvM σ S) {t : Nat} (ht : t < pT S.1) (c : Int32) : Cti g yX10_isCell cX10_isCell 3 (some .boolean) (rmm 7 170) [.ref (ad g 176), .int (nI t), .int c] σ (fun r σ' => r = (if ¬ c < 0 ∧ ¬ nI (pCc S.1 t) ≤ c then 1 else 0) ∧ InvM σ' S ∧ FnS σ' S.1 ∧ FrM σ σ') := by
  refine ct_of (own := RX10) (lv := [some (.ref (ad g 176)), some (.int (nI t)), some (.int c)]) rfl (by decide) (Nat.le_of_ble_eq_true rfl) (by intro u hu; simp only [List.mem_cons, List.not_mem_nil, or_false] at hu; rcases hu with rfl | rfl | rfl <;> rfl) (lv_ok [.ref (ad g 176), .int (nI t), .int c] 0) ?_
  have hV := hI.2.1
  have hT6 := pT_le hK hV
  have hM24 := pM_le hV
  have hc24 := hV.1
  have hw20 := hV.2.2.1
  have hl186 := l_186
  have hcc := (pB hK hV ht).2.2.2.2.2.2.1
  refine aw_aload_n dX10_isCell_0 rfl ?_
  refine aw_iload_n dX10_isCell_1 rfl ?_
  refine cvi1 dX10_isCell_2 km10_198 ok_X10_isTable rfl rfl (by decide) k_176 (Nat.le_of_ble_eq_true rfl) ⟨Nat.le_of_ble_eq_true rfl, Nat.le_of_ble_eq_true rfl⟩ rfl rfl (ct_isTable hK hI _) ?_
  intro r9 σ1 hp_t
  obtain ⟨rfl, hI1, hF, hFr⟩ := hp_t
  obtain ⟨f1, f2, f3, f4, f5, f6, f7, f8, f9, f10⟩ := id hF
  have G := FnS.g.mp hF
  obtain ⟨⟨hc1, hp1, hcw1, hw1, hs01, hs11, hs21⟩, -, -, -⟩ := id hI1
  refine aw_if_eqB dX10_isCell_5 rfl (fun h_5 => absurd h_5 (not_not_intro (ix_yes rfl ht (by omega)))) (fun h_5 => ?_)
  refine aw_iload_n dX10_isCell_8 rfl ?_
  refine aw_i2l dX10_isCell_9 ?_
  refine aw_lconst dX10_isCell_10 ?_
  refine aw_aload_n dX10_isCell_11 rfl ?_
  refine gf10_cellFrom dX10_isCell_12 kf10_37 k_176 ?_
  refine aw_eqr (b := 186) rfl ?_
  refine aw_iload_n dX10_isCell_15 rfl ?_
  refine aw_ic (nI 1) dX10_isCell_16 (by decide) ?_
  refine aw_iadd dX10_isCell_17 ?_
  refine aw_eq (nI_add _ _) ?_
  refine aw_ld (t + 1) dX10_isCell_18 k_186 (rfl) (by omega) ?_
  refine aw_eq (f7 (t + 1) ht).2 ?_
  refine aw_aload_n dX10_isCell_19 rfl ?_
  refine gf10_cellFrom dX10_isCell_20 kf10_37 k_176 ?_
  refine aw_eqr (b := 186) rfl ?_
  refine aw_iload_n dX10_isCell_23 rfl ?_
  refine aw_ld (t) dX10_isCell_24 k_186 (rfl) (by omega) ?_
  refine aw_eq (f7 t (by omega)).2 ?_
  refine aw_isub dX10_isCell_25 ?_
  refine aw_eq (show _ = nI (pCc S.1 t) from (pk_sub (Nat.le_add_right _ _)).trans (congrArg nI (Nat.add_sub_cancel_left _ _))) ?_
  refine aw_ic (nI 1) dX10_isCell_26 (by decide) ?_
  refine aw_isub dX10_isCell_27 ?_
  refine aw_i2l dX10_isCell_28 ?_
  refine csq3 dX10_isCell_29 km10_64 ok_X10_in (Nat.le_of_ble_eq_true rfl) ⟨Nat.le_of_ble_eq_true rfl, Nat.le_of_ble_eq_true rfl⟩ rfl rfl (ct_inN c (pCc S.1 t) (by decide) (i64_m (by omega)) (by omega)) ?_
  refine aw_if_eqB dX10_isCell_32 rfl (fun h_32 => ?_) (fun h_32 => ?_)
  · skip
    refine aw_ic (nI 0) dX10_isCell_39 (by decide) ?_
    exact aw_iretz dX10_isCell_40 (by decide) (⟨(if_neg h_32).symm, hI1, hF, hFr⟩)
  · skip
    refine aw_ic (nI 1) dX10_isCell_35 (by decide) ?_
    refine aw_goto dX10_isCell_36 ?_
    exact aw_iretz dX10_isCell_40 (by decide) (⟨(if_pos h_32).symm, hI1, hF, hFr⟩)

set_option maxHeartbeats 4000000 in
set_option maxRecDepth 100000 in
theorem ctM_piece {g : GG} {σ : SG} {S : Sp} (hK : FOKs) (hI : InvM σ S) (x what : Int32) : Cti g yX10_piece cX10_piece 3 (some .int) (rmm 6 149) [.ref (ad g 176), .int x, .int what] σ (PoM σ (aPiece S.1 x what, S)) := by
  refine ct_of (own := RX10) (lv := [some (.ref (ad g 176)), some (.int x), some (.int what)]) rfl (by decide) (Nat.le_of_ble_eq_true rfl) (by intro u hu; simp only [List.mem_cons, List.not_mem_nil, or_false] at hu; rcases hu with rfl | rfl | rfl <;> rfl) (lv_ok [.ref (ad g 176), .int x, .int what] 0) ?_
  have hV := hI.2.1
  have hT6 := pT_le hK hV
  have hM24 := pM_le hV
  have hc24 := hV.1
  have hw20 := hV.2.2.1
  have hl182 := l_182
  rcases ix_cases x (n := S.1.1) (by omega) with ⟨h, e⟩ | ⟨p, hp, rfl, e⟩
  · skip
    refine aw_iload_n dX10_piece_0 rfl ?_
    refine aw_i2l dX10_piece_1 ?_
    refine aw_lconst dX10_piece_2 ?_
    refine aw_aload_n dX10_piece_3 rfl ?_
    refine gf10_drawnMany dX10_piece_4 kf10_80 k_176 ?_
    refine aw_eq hI.1.1 ?_
    refine aw_ic (nI 1) dX10_piece_7 (by decide) ?_
    refine aw_isub dX10_piece_8 ?_
    refine aw_i2l dX10_piece_9 ?_
    refine csq3 dX10_piece_10 km10_64 ok_X10_in (Nat.le_of_ble_eq_true rfl) ⟨Nat.le_of_ble_eq_true rfl, Nat.le_of_ble_eq_true rfl⟩ rfl rfl (ct_inN _ S.1.1 (by decide) (i64_m (by omega)) (by omega)) ?_
    refine aw_if_neB dX10_piece_13 rfl (fun h_13 => absurd h_13 (ix_no rfl h)) (fun h_13 => ?_)
    refine aw_ic (-1) dX10_piece_16 (by decide) ?_
    exact aw_ireti dX10_piece_17 (PoM.mk (by unfold aPiece; rw [e]) hI (FrM.refl σ))
  · skip
    rcases ix_cases what (n := 5) (by decide) with ⟨h, e2⟩ | ⟨w, hw, rfl, e2⟩
    · skip
      refine aw_iload_n dX10_piece_0 rfl ?_
      refine aw_i2l dX10_piece_1 ?_
      refine aw_lconst dX10_piece_2 ?_
      refine aw_aload_n dX10_piece_3 rfl ?_
      refine gf10_drawnMany dX10_piece_4 kf10_80 k_176 ?_
      refine aw_eq hI.1.1 ?_
      refine aw_ic (nI 1) dX10_piece_7 (by decide) ?_
      refine aw_isub dX10_piece_8 ?_
      refine aw_i2l dX10_piece_9 ?_
      refine csq3 dX10_piece_10 km10_64 ok_X10_in (Nat.le_of_ble_eq_true rfl) ⟨Nat.le_of_ble_eq_true rfl, Nat.le_of_ble_eq_true rfl⟩ rfl rfl (ct_inN _ S.1.1 (by decide) (i64_m (by omega)) (by omega)) ?_
      refine aw_if_neB dX10_piece_13 rfl (fun h_13 => ?_) (fun h_13 => absurd h_13 (not_not_intro (ix_yes rfl hp (by omega))))
      refine aw_iload_n dX10_piece_18 rfl ?_
      refine aw_i2l dX10_piece_19 ?_
      refine aw_lconst dX10_piece_20 ?_
      refine aw_ldc2 dX10_piece_21 kl10_201 ?_
      refine csq3 dX10_piece_24 km10_64 ok_X10_in (Nat.le_of_ble_eq_true rfl) ⟨Nat.le_of_ble_eq_true rfl, Nat.le_of_ble_eq_true rfl⟩ rfl rfl (ct_inN _ 5 (by decide) (by decide) (by decide)) ?_
      refine aw_if_neB dX10_piece_27 rfl (fun h_27 => absurd h_27 (ix_no rfl h)) (fun h_27 => ?_)
      refine aw_bi (-2) dX10_piece_30 (by decide) ?_
      exact aw_ireti dX10_piece_32 (PoM.mk (by unfold aPiece; rw [e]; dsimp only; rw [e2]) hI (FrM.refl σ))
    · skip
      by_cases w4 : w = 4
      · skip
        refine aw_iload_n dX10_piece_0 rfl ?_
        refine aw_i2l dX10_piece_1 ?_
        refine aw_lconst dX10_piece_2 ?_
        refine aw_aload_n dX10_piece_3 rfl ?_
        refine gf10_drawnMany dX10_piece_4 kf10_80 k_176 ?_
        refine aw_eq hI.1.1 ?_
        refine aw_ic (nI 1) dX10_piece_7 (by decide) ?_
        refine aw_isub dX10_piece_8 ?_
        refine aw_i2l dX10_piece_9 ?_
        refine csq3 dX10_piece_10 km10_64 ok_X10_in (Nat.le_of_ble_eq_true rfl) ⟨Nat.le_of_ble_eq_true rfl, Nat.le_of_ble_eq_true rfl⟩ rfl rfl (ct_inN _ S.1.1 (by decide) (i64_m (by omega)) (by omega)) ?_
        refine aw_if_neB dX10_piece_13 rfl (fun h_13 => ?_) (fun h_13 => absurd h_13 (not_not_intro (ix_yes rfl hp (by omega))))
        refine aw_iload_n dX10_piece_18 rfl ?_
        refine aw_i2l dX10_piece_19 ?_
        refine aw_lconst dX10_piece_20 ?_
        refine aw_ldc2 dX10_piece_21 kl10_201 ?_
        refine csq3 dX10_piece_24 km10_64 ok_X10_in (Nat.le_of_ble_eq_true rfl) ⟨Nat.le_of_ble_eq_true rfl, Nat.le_of_ble_eq_true rfl⟩ rfl rfl (ct_inN _ 5 (by decide) (by decide) (by decide)) ?_
        refine aw_if_neB dX10_piece_27 rfl (fun h_27 => ?_) (fun h_27 => absurd h_27 (not_not_intro (ix_yes rfl hw (by omega))))
        refine aw_aload_n dX10_piece_33 rfl ?_
        refine cvv0 dX10_piece_34 km10_195 ok_X10_findAll rfl rfl (by decide) k_176 (Nat.le_of_ble_eq_true rfl) ⟨Nat.le_of_ble_eq_true rfl, Nat.le_of_ble_eq_true rfl⟩ rfl rfl (ct_findAll hK hI) ?_
        intro σ1 hp_fa
        obtain ⟨hI1, hF, hFr⟩ := hp_fa
        obtain ⟨f1, f2, f3, f4, f5, f6, f7, f8, f9, f10⟩ := id hF
        refine aw_iload_n dX10_piece_37 rfl ?_
        refine aw_ic (nI 4) dX10_piece_38 (by decide) ?_
        refine aw_icmp_neN dX10_piece_39 rfl (b := 4) rfl (by omega) (by omega) (fun h_39 => absurd h_39 (by omega)) (fun h_39 => ?_)
        refine aw_aload_n dX10_piece_42 rfl ?_
        refine gf10_ruleOf dX10_piece_43 kf10_25 k_176 ?_
        refine aw_eqr (b := 182) rfl ?_
        refine aw_iload_n dX10_piece_46 rfl ?_
        refine aw_ld (p) dX10_piece_47 k_182 (rfl) (by omega) ?_
        refine aw_eq (f4 p hp) ?_
        refine aw_goto dX10_piece_48 ?_
        exact aw_ireti dX10_piece_57 (PoM.mk (by unfold aPiece; rw [e]; dsimp only; rw [e2]; dsimp only; rw [if_neg (by omega)]) hI1 hFr)
      · skip
        refine aw_iload_n dX10_piece_0 rfl ?_
        refine aw_i2l dX10_piece_1 ?_
        refine aw_lconst dX10_piece_2 ?_
        refine aw_aload_n dX10_piece_3 rfl ?_
        refine gf10_drawnMany dX10_piece_4 kf10_80 k_176 ?_
        refine aw_eq hI.1.1 ?_
        refine aw_ic (nI 1) dX10_piece_7 (by decide) ?_
        refine aw_isub dX10_piece_8 ?_
        refine aw_i2l dX10_piece_9 ?_
        refine csq3 dX10_piece_10 km10_64 ok_X10_in (Nat.le_of_ble_eq_true rfl) ⟨Nat.le_of_ble_eq_true rfl, Nat.le_of_ble_eq_true rfl⟩ rfl rfl (ct_inN _ S.1.1 (by decide) (i64_m (by omega)) (by omega)) ?_
        refine aw_if_neB dX10_piece_13 rfl (fun h_13 => ?_) (fun h_13 => absurd h_13 (not_not_intro (ix_yes rfl hp (by omega))))
        refine aw_iload_n dX10_piece_18 rfl ?_
        refine aw_i2l dX10_piece_19 ?_
        refine aw_lconst dX10_piece_20 ?_
        refine aw_ldc2 dX10_piece_21 kl10_201 ?_
        refine csq3 dX10_piece_24 km10_64 ok_X10_in (Nat.le_of_ble_eq_true rfl) ⟨Nat.le_of_ble_eq_true rfl, Nat.le_of_ble_eq_true rfl⟩ rfl rfl (ct_inN _ 5 (by decide) (by decide) (by decide)) ?_
        refine aw_if_neB dX10_piece_27 rfl (fun h_27 => ?_) (fun h_27 => absurd h_27 (not_not_intro (ix_yes rfl hw (by omega))))
        refine aw_aload_n dX10_piece_33 rfl ?_
        refine cvv0 dX10_piece_34 km10_195 ok_X10_findAll rfl rfl (by decide) k_176 (Nat.le_of_ble_eq_true rfl) ⟨Nat.le_of_ble_eq_true rfl, Nat.le_of_ble_eq_true rfl⟩ rfl rfl (ct_findAll hK hI) ?_
        intro σ1 hp_fa
        obtain ⟨hI1, hF, hFr⟩ := hp_fa
        obtain ⟨f1, f2, f3, f4, f5, f6, f7, f8, f9, f10⟩ := id hF
        refine aw_iload_n dX10_piece_37 rfl ?_
        refine aw_ic (nI 4) dX10_piece_38 (by decide) ?_
        refine aw_icmp_neN dX10_piece_39 rfl (b := 4) rfl (by omega) (by omega) (fun h_39 => ?_) (fun h_39 => absurd h_39 (by omega))
        refine aw_aload_n dX10_piece_51 rfl ?_
        refine aw_iload_n dX10_piece_52 rfl ?_
        refine aw_iload_n dX10_piece_53 rfl ?_
        refine cqi2 dX10_piece_54 km10_95 ok_X10_pieceAt rfl rfl (by decide) k_176 (Nat.le_of_ble_eq_true rfl) ⟨Nat.le_of_ble_eq_true rfl, Nat.le_of_ble_eq_true rfl⟩ rfl rfl (ct_pieceAt (r := p) (w := w) (by omega)) ?_
        refine aw_eq (hI1.1.2.1 p w hp (by omega)) ?_
        exact aw_ireti dX10_piece_57 (PoM.mk (by unfold aPiece; rw [e]; dsimp only; rw [e2]; dsimp only; rw [if_pos (by omega)]) hI1 hFr)

set_option maxHeartbeats 4000000 in
set_option maxRecDepth 100000 in
theorem ctM_word {g : GG} {σ : SG} {S : Sp} (hK : FOKs) (hI : InvM σ S) (x what : Int32) : Cti g yX10_word cX10_word 4 (some .int) (rmm 6 149) [.ref (ad g 176), .int x, .int what] σ (PoM σ (aWord S.1 x what, S)) := by
  refine ct_of (own := RX10) (lv := [some (.ref (ad g 176)), some (.int x), some (.int what), none]) rfl (by decide) (Nat.le_of_ble_eq_true rfl) (by intro u hu; simp only [List.mem_cons, List.not_mem_nil, or_false] at hu; rcases hu with rfl | rfl | rfl <;> rfl) (lv_ok [.ref (ad g 176), .int x, .int what] 1) ?_
  have hV := hI.2.1
  have hT6 := pT_le hK hV
  have hM24 := pM_le hV
  have hc24 := hV.1
  have hw20 := hV.2.2.1
  have hl189 := l_189
  have hl190 := l_190
  have hl186 := l_186
  rcases ix_cases x (n := S.1.2.2.1) (by omega) with ⟨h, e⟩ | ⟨p, hp, rfl, e⟩
  · skip
    refine aw_iload_n dX10_word_0 rfl ?_
    refine aw_i2l dX10_word_1 ?_
    refine aw_lconst dX10_word_2 ?_
    refine aw_aload_n dX10_word_3 rfl ?_
    refine gf10_boxMany dX10_word_4 kf10_92 k_176 ?_
    refine aw_eq hI.1.2.2.1 ?_
    refine aw_ic (nI 1) dX10_word_7 (by decide) ?_
    refine aw_isub dX10_word_8 ?_
    refine aw_i2l dX10_word_9 ?_
    refine csq3 dX10_word_10 km10_64 ok_X10_in (Nat.le_of_ble_eq_true rfl) ⟨Nat.le_of_ble_eq_true rfl, Nat.le_of_ble_eq_true rfl⟩ rfl rfl (ct_inN _ S.1.2.2.1 (by decide) (i64_m (by omega)) (by omega)) ?_
    refine aw_if_neB dX10_word_13 rfl (fun h_13 => absurd h_13 (ix_no rfl h)) (fun h_13 => ?_)
    refine aw_ic (-1) dX10_word_16 (by decide) ?_
    exact aw_ireti dX10_word_17 (PoM.mk (by unfold aWord; rw [e]) hI (FrM.refl σ))
  · skip
    rcases ix_cases what (n := 6) (by decide) with ⟨h, e2⟩ | ⟨w, hw, rfl, e2⟩
    · skip
      refine aw_iload_n dX10_word_0 rfl ?_
      refine aw_i2l dX10_word_1 ?_
      refine aw_lconst dX10_word_2 ?_
      refine aw_aload_n dX10_word_3 rfl ?_
      refine gf10_boxMany dX10_word_4 kf10_92 k_176 ?_
      refine aw_eq hI.1.2.2.1 ?_
      refine aw_ic (nI 1) dX10_word_7 (by decide) ?_
      refine aw_isub dX10_word_8 ?_
      refine aw_i2l dX10_word_9 ?_
      refine csq3 dX10_word_10 km10_64 ok_X10_in (Nat.le_of_ble_eq_true rfl) ⟨Nat.le_of_ble_eq_true rfl, Nat.le_of_ble_eq_true rfl⟩ rfl rfl (ct_inN _ S.1.2.2.1 (by decide) (i64_m (by omega)) (by omega)) ?_
      refine aw_if_neB dX10_word_13 rfl (fun h_13 => ?_) (fun h_13 => absurd h_13 (not_not_intro (ix_yes rfl hp (by omega))))
      refine aw_iload_n dX10_word_18 rfl ?_
      refine aw_i2l dX10_word_19 ?_
      refine aw_lconst dX10_word_20 ?_
      refine aw_ldc2 dX10_word_21 kl10_72 ?_
      refine csq3 dX10_word_24 km10_64 ok_X10_in (Nat.le_of_ble_eq_true rfl) ⟨Nat.le_of_ble_eq_true rfl, Nat.le_of_ble_eq_true rfl⟩ rfl rfl (ct_inN _ 6 (by decide) (by decide) (by decide)) ?_
      refine aw_if_neB dX10_word_27 rfl (fun h_27 => absurd h_27 (ix_no rfl h)) (fun h_27 => ?_)
      refine aw_bi (-2) dX10_word_30 (by decide) ?_
      exact aw_ireti dX10_word_32 (PoM.mk (by unfold aWord; rw [e]; dsimp only; rw [e2]) hI (FrM.refl σ))
    · skip
      by_cases w4 : w < 4
      · skip
        refine aw_iload_n dX10_word_0 rfl ?_
        refine aw_i2l dX10_word_1 ?_
        refine aw_lconst dX10_word_2 ?_
        refine aw_aload_n dX10_word_3 rfl ?_
        refine gf10_boxMany dX10_word_4 kf10_92 k_176 ?_
        refine aw_eq hI.1.2.2.1 ?_
        refine aw_ic (nI 1) dX10_word_7 (by decide) ?_
        refine aw_isub dX10_word_8 ?_
        refine aw_i2l dX10_word_9 ?_
        refine csq3 dX10_word_10 km10_64 ok_X10_in (Nat.le_of_ble_eq_true rfl) ⟨Nat.le_of_ble_eq_true rfl, Nat.le_of_ble_eq_true rfl⟩ rfl rfl (ct_inN _ S.1.2.2.1 (by decide) (i64_m (by omega)) (by omega)) ?_
        refine aw_if_neB dX10_word_13 rfl (fun h_13 => ?_) (fun h_13 => absurd h_13 (not_not_intro (ix_yes rfl hp (by omega))))
        refine aw_iload_n dX10_word_18 rfl ?_
        refine aw_i2l dX10_word_19 ?_
        refine aw_lconst dX10_word_20 ?_
        refine aw_ldc2 dX10_word_21 kl10_72 ?_
        refine csq3 dX10_word_24 km10_64 ok_X10_in (Nat.le_of_ble_eq_true rfl) ⟨Nat.le_of_ble_eq_true rfl, Nat.le_of_ble_eq_true rfl⟩ rfl rfl (ct_inN _ 6 (by decide) (by decide) (by decide)) ?_
        refine aw_if_neB dX10_word_27 rfl (fun h_27 => ?_) (fun h_27 => absurd h_27 (not_not_intro (ix_yes rfl hw (by omega))))
        refine aw_aload_n dX10_word_33 rfl ?_
        refine cvv0 dX10_word_34 km10_195 ok_X10_findAll rfl rfl (by decide) k_176 (Nat.le_of_ble_eq_true rfl) ⟨Nat.le_of_ble_eq_true rfl, Nat.le_of_ble_eq_true rfl⟩ rfl rfl (ct_findAll hK hI) ?_
        intro σ1 hp_fa
        obtain ⟨hI1, hF, hFr⟩ := hp_fa
        obtain ⟨f1, f2, f3, f4, f5, f6, f7, f8, f9, f10⟩ := id hF
        refine aw_iload_n dX10_word_37 rfl ?_
        refine aw_ic (nI 4) dX10_word_38 (by decide) ?_
        refine aw_icmp_geN dX10_word_39 rfl (b := 4) rfl (by omega) (by omega) (fun h_39 => absurd h_39 (by omega)) (fun h_39 => ?_)
        refine aw_aload_n dX10_word_42 rfl ?_
        refine aw_iload_n dX10_word_43 rfl ?_
        refine aw_iload_n dX10_word_44 rfl ?_
        refine cqi2 dX10_word_45 km10_177 ok_X10_boxAt rfl rfl (by decide) k_176 (Nat.le_of_ble_eq_true rfl) ⟨Nat.le_of_ble_eq_true rfl, Nat.le_of_ble_eq_true rfl⟩ rfl rfl (ct_boxAt (r := p) (w := w) (by omega)) ?_
        refine aw_eq (hI1.1.2.2.2.1 p w hp w4) ?_
        exact aw_ireti dX10_word_48 (PoM.mk (by unfold aWord; rw [e]; dsimp only; rw [e2]; dsimp only; rw [if_pos w4]) hI1 hFr)
      · skip
        by_cases ht : pWT S.1 p < pT S.1
        · skip
          by_cases w5 : w = 4
          · skip
            refine aw_iload_n dX10_word_0 rfl ?_
            refine aw_i2l dX10_word_1 ?_
            refine aw_lconst dX10_word_2 ?_
            refine aw_aload_n dX10_word_3 rfl ?_
            refine gf10_boxMany dX10_word_4 kf10_92 k_176 ?_
            refine aw_eq hI.1.2.2.1 ?_
            refine aw_ic (nI 1) dX10_word_7 (by decide) ?_
            refine aw_isub dX10_word_8 ?_
            refine aw_i2l dX10_word_9 ?_
            refine csq3 dX10_word_10 km10_64 ok_X10_in (Nat.le_of_ble_eq_true rfl) ⟨Nat.le_of_ble_eq_true rfl, Nat.le_of_ble_eq_true rfl⟩ rfl rfl (ct_inN _ S.1.2.2.1 (by decide) (i64_m (by omega)) (by omega)) ?_
            refine aw_if_neB dX10_word_13 rfl (fun h_13 => ?_) (fun h_13 => absurd h_13 (not_not_intro (ix_yes rfl hp (by omega))))
            refine aw_iload_n dX10_word_18 rfl ?_
            refine aw_i2l dX10_word_19 ?_
            refine aw_lconst dX10_word_20 ?_
            refine aw_ldc2 dX10_word_21 kl10_72 ?_
            refine csq3 dX10_word_24 km10_64 ok_X10_in (Nat.le_of_ble_eq_true rfl) ⟨Nat.le_of_ble_eq_true rfl, Nat.le_of_ble_eq_true rfl⟩ rfl rfl (ct_inN _ 6 (by decide) (by decide) (by decide)) ?_
            refine aw_if_neB dX10_word_27 rfl (fun h_27 => ?_) (fun h_27 => absurd h_27 (not_not_intro (ix_yes rfl hw (by omega))))
            refine aw_aload_n dX10_word_33 rfl ?_
            refine cvv0 dX10_word_34 km10_195 ok_X10_findAll rfl rfl (by decide) k_176 (Nat.le_of_ble_eq_true rfl) ⟨Nat.le_of_ble_eq_true rfl, Nat.le_of_ble_eq_true rfl⟩ rfl rfl (ct_findAll hK hI) ?_
            intro σ1 hp_fa
            obtain ⟨hI1, hF, hFr⟩ := hp_fa
            obtain ⟨f1, f2, f3, f4, f5, f6, f7, f8, f9, f10⟩ := id hF
            refine aw_iload_n dX10_word_37 rfl ?_
            refine aw_ic (nI 4) dX10_word_38 (by decide) ?_
            refine aw_icmp_geN dX10_word_39 rfl (b := 4) rfl (by omega) (by omega) (fun h_39 => ?_) (fun h_39 => absurd h_39 (by omega))
            refine aw_aload_n dX10_word_49 rfl ?_
            refine gf10_wordTable dX10_word_50 kf10_46 k_176 ?_
            refine aw_eqr (b := 189) rfl ?_
            refine aw_iload_n dX10_word_53 rfl ?_
            refine aw_ld (p) dX10_word_54 k_189 (rfl) (by omega) ?_
            refine aw_eq ((f10 p hp).1.trans (if_pos ht)) ?_
            refine aw_istore_n dX10_word_55 (Nat.le_of_ble_eq_true rfl) ?_
            refine aw_iload_n dX10_word_56 rfl ?_
            refine aw_if_lt dX10_word_57 (fun h_57 => absurd h_57 (nI_pos (by omega))) (fun h_57 => ?_)
            refine aw_iload_n dX10_word_60 rfl ?_
            refine aw_ic (nI 4) dX10_word_61 (by decide) ?_
            refine aw_icmp_neN dX10_word_62 rfl (b := 4) rfl (by omega) (by omega) (fun h_62 => absurd h_62 (by omega)) (fun h_62 => ?_)
            refine aw_iload_n dX10_word_65 rfl ?_
            refine aw_goto dX10_word_66 ?_
            exact aw_ireti dX10_word_82 (PoM.mk (by unfold aWord; rw [e]; dsimp only; rw [e2]; dsimp only; rw [if_neg w4, if_pos ht, if_pos w5]) hI1 hFr)
          · skip
            refine aw_iload_n dX10_word_0 rfl ?_
            refine aw_i2l dX10_word_1 ?_
            refine aw_lconst dX10_word_2 ?_
            refine aw_aload_n dX10_word_3 rfl ?_
            refine gf10_boxMany dX10_word_4 kf10_92 k_176 ?_
            refine aw_eq hI.1.2.2.1 ?_
            refine aw_ic (nI 1) dX10_word_7 (by decide) ?_
            refine aw_isub dX10_word_8 ?_
            refine aw_i2l dX10_word_9 ?_
            refine csq3 dX10_word_10 km10_64 ok_X10_in (Nat.le_of_ble_eq_true rfl) ⟨Nat.le_of_ble_eq_true rfl, Nat.le_of_ble_eq_true rfl⟩ rfl rfl (ct_inN _ S.1.2.2.1 (by decide) (i64_m (by omega)) (by omega)) ?_
            refine aw_if_neB dX10_word_13 rfl (fun h_13 => ?_) (fun h_13 => absurd h_13 (not_not_intro (ix_yes rfl hp (by omega))))
            refine aw_iload_n dX10_word_18 rfl ?_
            refine aw_i2l dX10_word_19 ?_
            refine aw_lconst dX10_word_20 ?_
            refine aw_ldc2 dX10_word_21 kl10_72 ?_
            refine csq3 dX10_word_24 km10_64 ok_X10_in (Nat.le_of_ble_eq_true rfl) ⟨Nat.le_of_ble_eq_true rfl, Nat.le_of_ble_eq_true rfl⟩ rfl rfl (ct_inN _ 6 (by decide) (by decide) (by decide)) ?_
            refine aw_if_neB dX10_word_27 rfl (fun h_27 => ?_) (fun h_27 => absurd h_27 (not_not_intro (ix_yes rfl hw (by omega))))
            refine aw_aload_n dX10_word_33 rfl ?_
            refine cvv0 dX10_word_34 km10_195 ok_X10_findAll rfl rfl (by decide) k_176 (Nat.le_of_ble_eq_true rfl) ⟨Nat.le_of_ble_eq_true rfl, Nat.le_of_ble_eq_true rfl⟩ rfl rfl (ct_findAll hK hI) ?_
            intro σ1 hp_fa
            obtain ⟨hI1, hF, hFr⟩ := hp_fa
            obtain ⟨f1, f2, f3, f4, f5, f6, f7, f8, f9, f10⟩ := id hF
            refine aw_iload_n dX10_word_37 rfl ?_
            refine aw_ic (nI 4) dX10_word_38 (by decide) ?_
            refine aw_icmp_geN dX10_word_39 rfl (b := 4) rfl (by omega) (by omega) (fun h_39 => ?_) (fun h_39 => absurd h_39 (by omega))
            refine aw_aload_n dX10_word_49 rfl ?_
            refine gf10_wordTable dX10_word_50 kf10_46 k_176 ?_
            refine aw_eqr (b := 189) rfl ?_
            refine aw_iload_n dX10_word_53 rfl ?_
            refine aw_ld (p) dX10_word_54 k_189 (rfl) (by omega) ?_
            refine aw_eq ((f10 p hp).1.trans (if_pos ht)) ?_
            refine aw_istore_n dX10_word_55 (Nat.le_of_ble_eq_true rfl) ?_
            refine aw_iload_n dX10_word_56 rfl ?_
            refine aw_if_lt dX10_word_57 (fun h_57 => absurd h_57 (nI_pos (by omega))) (fun h_57 => ?_)
            refine aw_iload_n dX10_word_60 rfl ?_
            refine aw_ic (nI 4) dX10_word_61 (by decide) ?_
            refine aw_icmp_neN dX10_word_62 rfl (b := 4) rfl (by omega) (by omega) (fun h_62 => ?_) (fun h_62 => absurd h_62 (by omega))
            refine aw_aload_n dX10_word_69 rfl ?_
            refine gf10_wordCell dX10_word_70 kf10_49 k_176 ?_
            refine aw_eqr (b := 190) rfl ?_
            refine aw_iload_n dX10_word_73 rfl ?_
            refine aw_ld (p) dX10_word_74 k_190 (rfl) (by omega) ?_
            refine aw_eq ((f10 p hp).2.trans (if_pos ht)) ?_
            refine aw_aload_n dX10_word_75 rfl ?_
            refine gf10_cellFrom dX10_word_76 kf10_37 k_176 ?_
            refine aw_eqr (b := 186) rfl ?_
            refine aw_iload_n dX10_word_79 rfl ?_
            refine aw_ld (pWT S.1 p) dX10_word_80 k_186 (rfl) (by omega) ?_
            refine aw_eq (f7 _ (by omega)).2 ?_
            refine aw_isub dX10_word_81 ?_
            refine aw_eq (show _ = nI (pWC S.1 p) from (pk_sub (Nat.le_add_right _ _)).trans (congrArg nI (Nat.add_sub_cancel_left _ _))) ?_
            exact aw_ireti dX10_word_82 (PoM.mk (by unfold aWord; rw [e]; dsimp only; rw [e2]; dsimp only; rw [if_neg w4, if_pos ht, if_neg w5]) hI1 hFr)
        · skip
          refine aw_iload_n dX10_word_0 rfl ?_
          refine aw_i2l dX10_word_1 ?_
          refine aw_lconst dX10_word_2 ?_
          refine aw_aload_n dX10_word_3 rfl ?_
          refine gf10_boxMany dX10_word_4 kf10_92 k_176 ?_
          refine aw_eq hI.1.2.2.1 ?_
          refine aw_ic (nI 1) dX10_word_7 (by decide) ?_
          refine aw_isub dX10_word_8 ?_
          refine aw_i2l dX10_word_9 ?_
          refine csq3 dX10_word_10 km10_64 ok_X10_in (Nat.le_of_ble_eq_true rfl) ⟨Nat.le_of_ble_eq_true rfl, Nat.le_of_ble_eq_true rfl⟩ rfl rfl (ct_inN _ S.1.2.2.1 (by decide) (i64_m (by omega)) (by omega)) ?_
          refine aw_if_neB dX10_word_13 rfl (fun h_13 => ?_) (fun h_13 => absurd h_13 (not_not_intro (ix_yes rfl hp (by omega))))
          refine aw_iload_n dX10_word_18 rfl ?_
          refine aw_i2l dX10_word_19 ?_
          refine aw_lconst dX10_word_20 ?_
          refine aw_ldc2 dX10_word_21 kl10_72 ?_
          refine csq3 dX10_word_24 km10_64 ok_X10_in (Nat.le_of_ble_eq_true rfl) ⟨Nat.le_of_ble_eq_true rfl, Nat.le_of_ble_eq_true rfl⟩ rfl rfl (ct_inN _ 6 (by decide) (by decide) (by decide)) ?_
          refine aw_if_neB dX10_word_27 rfl (fun h_27 => ?_) (fun h_27 => absurd h_27 (not_not_intro (ix_yes rfl hw (by omega))))
          refine aw_aload_n dX10_word_33 rfl ?_
          refine cvv0 dX10_word_34 km10_195 ok_X10_findAll rfl rfl (by decide) k_176 (Nat.le_of_ble_eq_true rfl) ⟨Nat.le_of_ble_eq_true rfl, Nat.le_of_ble_eq_true rfl⟩ rfl rfl (ct_findAll hK hI) ?_
          intro σ1 hp_fa
          obtain ⟨hI1, hF, hFr⟩ := hp_fa
          obtain ⟨f1, f2, f3, f4, f5, f6, f7, f8, f9, f10⟩ := id hF
          refine aw_iload_n dX10_word_37 rfl ?_
          refine aw_ic (nI 4) dX10_word_38 (by decide) ?_
          refine aw_icmp_geN dX10_word_39 rfl (b := 4) rfl (by omega) (by omega) (fun h_39 => ?_) (fun h_39 => absurd h_39 (by omega))
          refine aw_aload_n dX10_word_49 rfl ?_
          refine gf10_wordTable dX10_word_50 kf10_46 k_176 ?_
          refine aw_eqr (b := 189) rfl ?_
          refine aw_iload_n dX10_word_53 rfl ?_
          refine aw_ld (p) dX10_word_54 k_189 (rfl) (by omega) ?_
          refine aw_eq ((f10 p hp).1.trans (if_neg ht)) ?_
          refine aw_istore_n dX10_word_55 (Nat.le_of_ble_eq_true rfl) ?_
          refine aw_iload_n dX10_word_56 rfl ?_
          refine aw_if_lt dX10_word_57 (fun h_57 => ?_) (fun h_57 => absurd h_57 (not_not_intro (by decide)))
          refine aw_iload_n dX10_word_65 rfl ?_
          refine aw_goto dX10_word_66 ?_
          exact aw_ireti dX10_word_82 (PoM.mk (by unfold aWord; rw [e]; dsimp only; rw [e2]; dsimp only; rw [if_neg w4, if_neg ht]) hI1 hFr)

set_option maxHeartbeats 4000000 in
set_option maxRecDepth 100000 in
theorem ctM_rule {g : GG} {σ : SG} {S : Sp} (hK : FOKs) (hI : InvM σ S) (x what : Int32) : Cti g yX10_rule cX10_rule 5 (some .int) (rmm 7 170) [.ref (ad g 176), .int x, .int what] σ (PoM σ (aRule S.1 x what, S)) := by
  refine ct_of (own := RX10) (lv := [some (.ref (ad g 176)), some (.int x), some (.int what), none, none]) rfl (by decide) (Nat.le_of_ble_eq_true rfl) (by intro u hu; simp only [List.mem_cons, List.not_mem_nil, or_false] at hu; rcases hu with rfl | rfl | rfl <;> rfl) (lv_ok [.ref (ad g 176), .int x, .int what] 2) ?_
  have hV := hI.2.1
  have hT6 := pT_le hK hV
  have hM24 := pM_le hV
  have hc24 := hV.1
  have hw20 := hV.2.2.1
  rcases ix_cases x (n := pM S.1) (by omega) with ⟨h, e⟩ | ⟨k, hk, rfl, e⟩
  · skip
    refine aw_aload_n dX10_rule_0 rfl ?_
    refine aw_iload_n dX10_rule_1 rfl ?_
    refine cvi1 dX10_rule_2 km10_203 ok_X10_isRule rfl rfl (by decide) k_176 (Nat.le_of_ble_eq_true rfl) ⟨Nat.le_of_ble_eq_true rfl, Nat.le_of_ble_eq_true rfl⟩ rfl rfl (ct_isRule hK hI _) ?_
    intro r9 σ1 hp_t
    obtain ⟨rfl, hI1, hF, hFr⟩ := hp_t
    obtain ⟨f1, f2, f3, f4, f5, f6, f7, f8, f9, f10⟩ := id hF
    have G := FnS.g.mp hF
    obtain ⟨⟨hc1, hp1, hcw1, hw1, hs01, hs11, hs21⟩, -, -, -⟩ := id hI1
    refine aw_if_neB dX10_rule_5 rfl (fun h_5 => absurd h_5 (ix_no rfl h)) (fun h_5 => ?_)
    refine aw_ic (-1) dX10_rule_8 (by decide) ?_
    exact aw_ireti dX10_rule_9 (PoM.mk (by unfold aRule; rw [e]) hI1 hFr)
  · skip
    rcases ix_cases what (n := 8) (by decide) with ⟨h, e2⟩ | ⟨w, hw, rfl, e2⟩
    · skip
      refine aw_aload_n dX10_rule_0 rfl ?_
      refine aw_iload_n dX10_rule_1 rfl ?_
      refine cvi1 dX10_rule_2 km10_203 ok_X10_isRule rfl rfl (by decide) k_176 (Nat.le_of_ble_eq_true rfl) ⟨Nat.le_of_ble_eq_true rfl, Nat.le_of_ble_eq_true rfl⟩ rfl rfl (ct_isRule hK hI _) ?_
      intro r9 σ1 hp_t
      obtain ⟨rfl, hI1, hF, hFr⟩ := hp_t
      obtain ⟨f1, f2, f3, f4, f5, f6, f7, f8, f9, f10⟩ := id hF
      have G := FnS.g.mp hF
      obtain ⟨⟨hc1, hp1, hcw1, hw1, hs01, hs11, hs21⟩, -, -, -⟩ := id hI1
      refine aw_if_neB dX10_rule_5 rfl (fun h_5 => ?_) (fun h_5 => absurd h_5 (not_not_intro (ix_yes rfl hk (by omega))))
      refine aw_iload_n dX10_rule_10 rfl ?_
      refine aw_i2l dX10_rule_11 ?_
      refine aw_lconst dX10_rule_12 ?_
      refine aw_ldc2 dX10_rule_13 kl10_206 ?_
      refine csq3 dX10_rule_16 km10_64 ok_X10_in (Nat.le_of_ble_eq_true rfl) ⟨Nat.le_of_ble_eq_true rfl, Nat.le_of_ble_eq_true rfl⟩ rfl rfl (ct_inN _ 8 (by decide) (by decide) (by decide)) ?_
      refine aw_if_neB dX10_rule_19 rfl (fun h_19 => absurd h_19 (ix_no rfl h)) (fun h_19 => ?_)
      refine aw_bi (-2) dX10_rule_22 (by decide) ?_
      exact aw_ireti dX10_rule_24 (PoM.mk (by unfold aRule; rw [e]; dsimp only; rw [e2]) hI1 hFr)
    · skip
      by_cases w6 : w = 6
      · skip
        refine aw_aload_n dX10_rule_0 rfl ?_
        refine aw_iload_n dX10_rule_1 rfl ?_
        refine cvi1 dX10_rule_2 km10_203 ok_X10_isRule rfl rfl (by decide) k_176 (Nat.le_of_ble_eq_true rfl) ⟨Nat.le_of_ble_eq_true rfl, Nat.le_of_ble_eq_true rfl⟩ rfl rfl (ct_isRule hK hI _) ?_
        intro r9 σ1 hp_t
        obtain ⟨rfl, hI1, hF, hFr⟩ := hp_t
        obtain ⟨f1, f2, f3, f4, f5, f6, f7, f8, f9, f10⟩ := id hF
        have G := FnS.g.mp hF
        obtain ⟨⟨hc1, hp1, hcw1, hw1, hs01, hs11, hs21⟩, -, -, -⟩ := id hI1
        refine aw_if_neB dX10_rule_5 rfl (fun h_5 => ?_) (fun h_5 => absurd h_5 (not_not_intro (ix_yes rfl hk (by omega))))
        refine aw_iload_n dX10_rule_10 rfl ?_
        refine aw_i2l dX10_rule_11 ?_
        refine aw_lconst dX10_rule_12 ?_
        refine aw_ldc2 dX10_rule_13 kl10_206 ?_
        refine csq3 dX10_rule_16 km10_64 ok_X10_in (Nat.le_of_ble_eq_true rfl) ⟨Nat.le_of_ble_eq_true rfl, Nat.le_of_ble_eq_true rfl⟩ rfl rfl (ct_inN _ 8 (by decide) (by decide) (by decide)) ?_
        refine aw_if_neB dX10_rule_19 rfl (fun h_19 => ?_) (fun h_19 => absurd h_19 (not_not_intro (ix_yes rfl hw (by omega))))
        refine aw_iload_n dX10_rule_25 rfl ?_
        refine aw_bi (nI 6) dX10_rule_26 (by decide) ?_
        refine aw_icmp_eqN dX10_rule_28 rfl (b := 6) rfl (by omega) (by omega) (fun h_28 => ?_) (fun h_28 => absurd h_28 (by omega))
        refine aw_ic (nI 0) dX10_rule_49 (by decide) ?_
        refine aw_istore_n dX10_rule_50 (Nat.le_of_ble_eq_true rfl) ?_
        refine aw_ic (nI 0) dX10_rule_51 (by decide) ?_
        refine aw_istore dX10_rule_52 (Nat.le_of_ble_eq_true rfl) ?_
        refine for_ux (fun i σ' lv' => σ1 = σ' ∧ lv' = [some (.ref (ad g 176)), some (.int (nI k)), some (.int (nI w)), some (.int (nI (ctB (fun x => crossN (pR S.1 k) (pR S.1 x) (rcP S.1)) i))), some (.int (nI i))]) (pM S.1) ?_ ?_ (0) _ _ (by omega) (⟨rfl, rfl⟩)
        · rintro i σ2 lv2 hi ⟨rfl, rfl⟩ ih
          refine aw_iload dX10_rule_54 rfl ?_
          refine aw_aload_n dX10_rule_56 rfl ?_
          refine gf10_ruleMany dX10_rule_57 kf10_105 k_176 ?_
          refine aw_eq f1 ?_
          refine aw_icmp_geN dX10_rule_60 rfl rfl (by omega) (by omega) (fun h_60 => absurd h_60 (by omega)) (fun h_60 => ?_)
          refine aw_iload_n dX10_rule_63 rfl ?_
          refine aw_aload_n dX10_rule_64 rfl ?_
          refine aw_iload_n dX10_rule_65 rfl ?_
          refine aw_iload dX10_rule_66 rfl ?_
          refine cqi2 dX10_rule_68 km10_135 ok_X10_isCross rfl rfl (by decide) k_176 (Nat.le_of_ble_eq_true rfl) ⟨Nat.le_of_ble_eq_true rfl, Nat.le_of_ble_eq_true rfl⟩ rfl rfl (ct_isCross (m := pM S.1) (R := pR S.1) (rc := rcP S.1) f2 (fun r k _ hk => pR_B hV r k hk) hM24 hs21 hV.2.2.2.2.2.1 hk hi) ?_
          refine aw_if_eqB dX10_rule_71 rfl (fun h_71 => ?_) (fun h_71 => ?_)
          · skip
            refine aw_ic (nI 0) dX10_rule_78 (by decide) ?_
            refine aw_iadd dX10_rule_79 ?_
            refine aw_eq (nI_add _ _) ?_
            refine aw_istore_n dX10_rule_80 (Nat.le_of_ble_eq_true rfl) ?_
            refine aw_inc (nI (i + 1)) dX10_rule_81 rfl (Nat.le_of_ble_eq_true rfl) (nI_1 i) ?_
            refine aw_goto dX10_rule_84 ?_
            exact ih _ _ ⟨rfl, by rw [ctB_no (p := (fun x => crossN (pR S.1 k) (pR S.1 x) (rcP S.1))) h_71]; rfl⟩
          · skip
            refine aw_ic (nI 1) dX10_rule_74 (by decide) ?_
            refine aw_goto dX10_rule_75 ?_
            refine aw_iadd dX10_rule_79 ?_
            refine aw_eq (nI_add _ _) ?_
            refine aw_istore_n dX10_rule_80 (Nat.le_of_ble_eq_true rfl) ?_
            refine aw_inc (nI (i + 1)) dX10_rule_81 rfl (Nat.le_of_ble_eq_true rfl) (nI_1 i) ?_
            refine aw_goto dX10_rule_84 ?_
            exact ih _ _ ⟨rfl, by rw [ctB_s (p := (fun x => crossN (pR S.1 k) (pR S.1 x) (rcP S.1))) h_71]; rfl⟩
        · rintro σ2 lv2 ⟨rfl, rfl⟩
          refine aw_iload dX10_rule_54 rfl ?_
          refine aw_aload_n dX10_rule_56 rfl ?_
          refine gf10_ruleMany dX10_rule_57 kf10_105 k_176 ?_
          refine aw_eq f1 ?_
          refine aw_icmp_geN dX10_rule_60 rfl rfl (by omega) (by omega) (fun h_60 => ?_) (fun h_60 => absurd h_60 (by omega))
          refine aw_iload_n dX10_rule_87 rfl ?_
          exact aw_ireti dX10_rule_88 (PoM.mk (by unfold aRule; rw [e]; dsimp only; rw [e2]; dsimp only; unfold ruT; rw [if_neg (by omega), if_pos w6]; rfl) hI1 hFr)
      · skip
        by_cases w7 : w = 7
        · skip
          refine aw_aload_n dX10_rule_0 rfl ?_
          refine aw_iload_n dX10_rule_1 rfl ?_
          refine cvi1 dX10_rule_2 km10_203 ok_X10_isRule rfl rfl (by decide) k_176 (Nat.le_of_ble_eq_true rfl) ⟨Nat.le_of_ble_eq_true rfl, Nat.le_of_ble_eq_true rfl⟩ rfl rfl (ct_isRule hK hI _) ?_
          intro r9 σ1 hp_t
          obtain ⟨rfl, hI1, hF, hFr⟩ := hp_t
          obtain ⟨f1, f2, f3, f4, f5, f6, f7, f8, f9, f10⟩ := id hF
          have G := FnS.g.mp hF
          obtain ⟨⟨hc1, hp1, hcw1, hw1, hs01, hs11, hs21⟩, -, -, -⟩ := id hI1
          refine aw_if_neB dX10_rule_5 rfl (fun h_5 => ?_) (fun h_5 => absurd h_5 (not_not_intro (ix_yes rfl hk (by omega))))
          refine aw_iload_n dX10_rule_10 rfl ?_
          refine aw_i2l dX10_rule_11 ?_
          refine aw_lconst dX10_rule_12 ?_
          refine aw_ldc2 dX10_rule_13 kl10_206 ?_
          refine csq3 dX10_rule_16 km10_64 ok_X10_in (Nat.le_of_ble_eq_true rfl) ⟨Nat.le_of_ble_eq_true rfl, Nat.le_of_ble_eq_true rfl⟩ rfl rfl (ct_inN _ 8 (by decide) (by decide) (by decide)) ?_
          refine aw_if_neB dX10_rule_19 rfl (fun h_19 => ?_) (fun h_19 => absurd h_19 (not_not_intro (ix_yes rfl hw (by omega))))
          refine aw_iload_n dX10_rule_25 rfl ?_
          refine aw_bi (nI 6) dX10_rule_26 (by decide) ?_
          refine aw_icmp_eqN dX10_rule_28 rfl (b := 6) rfl (by omega) (by omega) (fun h_28 => absurd h_28 (by omega)) (fun h_28 => ?_)
          refine aw_aload_n dX10_rule_31 rfl ?_
          refine aw_iload_n dX10_rule_32 rfl ?_
          refine aw_iload_n dX10_rule_33 rfl ?_
          refine aw_bi (nI 7) dX10_rule_34 (by decide) ?_
          refine aw_icmp_neN dX10_rule_36 rfl (b := 7) rfl (by omega) (by omega) (fun h_36 => absurd h_36 (by omega)) (fun h_36 => ?_)
          refine aw_bi (nI 6) dX10_rule_39 (by decide) ?_
          refine aw_goto dX10_rule_41 ?_
          refine cqi2 dX10_rule_45 km10_108 ok_X10_ruleAt rfl rfl (by decide) k_176 (Nat.le_of_ble_eq_true rfl) ⟨Nat.le_of_ble_eq_true rfl, Nat.le_of_ble_eq_true rfl⟩ rfl rfl (ct_ruleAt (r := k) (w := 6) (by omega)) ?_
          refine aw_eq (f3 k hk) ?_
          exact aw_ireti dX10_rule_48 (PoM.mk (by unfold aRule; rw [e]; dsimp only; rw [e2]; dsimp only; unfold ruT; rw [if_neg (by omega), if_neg w6]) hI1 hFr)
        · skip
          refine aw_aload_n dX10_rule_0 rfl ?_
          refine aw_iload_n dX10_rule_1 rfl ?_
          refine cvi1 dX10_rule_2 km10_203 ok_X10_isRule rfl rfl (by decide) k_176 (Nat.le_of_ble_eq_true rfl) ⟨Nat.le_of_ble_eq_true rfl, Nat.le_of_ble_eq_true rfl⟩ rfl rfl (ct_isRule hK hI _) ?_
          intro r9 σ1 hp_t
          obtain ⟨rfl, hI1, hF, hFr⟩ := hp_t
          obtain ⟨f1, f2, f3, f4, f5, f6, f7, f8, f9, f10⟩ := id hF
          have G := FnS.g.mp hF
          obtain ⟨⟨hc1, hp1, hcw1, hw1, hs01, hs11, hs21⟩, -, -, -⟩ := id hI1
          refine aw_if_neB dX10_rule_5 rfl (fun h_5 => ?_) (fun h_5 => absurd h_5 (not_not_intro (ix_yes rfl hk (by omega))))
          refine aw_iload_n dX10_rule_10 rfl ?_
          refine aw_i2l dX10_rule_11 ?_
          refine aw_lconst dX10_rule_12 ?_
          refine aw_ldc2 dX10_rule_13 kl10_206 ?_
          refine csq3 dX10_rule_16 km10_64 ok_X10_in (Nat.le_of_ble_eq_true rfl) ⟨Nat.le_of_ble_eq_true rfl, Nat.le_of_ble_eq_true rfl⟩ rfl rfl (ct_inN _ 8 (by decide) (by decide) (by decide)) ?_
          refine aw_if_neB dX10_rule_19 rfl (fun h_19 => ?_) (fun h_19 => absurd h_19 (not_not_intro (ix_yes rfl hw (by omega))))
          refine aw_iload_n dX10_rule_25 rfl ?_
          refine aw_bi (nI 6) dX10_rule_26 (by decide) ?_
          refine aw_icmp_eqN dX10_rule_28 rfl (b := 6) rfl (by omega) (by omega) (fun h_28 => absurd h_28 (by omega)) (fun h_28 => ?_)
          refine aw_aload_n dX10_rule_31 rfl ?_
          refine aw_iload_n dX10_rule_32 rfl ?_
          refine aw_iload_n dX10_rule_33 rfl ?_
          refine aw_bi (nI 7) dX10_rule_34 (by decide) ?_
          refine aw_icmp_neN dX10_rule_36 rfl (b := 7) rfl (by omega) (by omega) (fun h_36 => ?_) (fun h_36 => absurd h_36 (by omega))
          refine aw_iload_n dX10_rule_44 rfl ?_
          refine cqi2 dX10_rule_45 km10_108 ok_X10_ruleAt rfl rfl (by decide) k_176 (Nat.le_of_ble_eq_true rfl) ⟨Nat.le_of_ble_eq_true rfl, Nat.le_of_ble_eq_true rfl⟩ rfl rfl (ct_ruleAt (r := k) (w := w) (by omega)) ?_
          refine aw_eq (f2 k w hk (by omega)) ?_
          exact aw_ireti dX10_rule_48 (PoM.mk (by unfold aRule; rw [e]; dsimp only; rw [e2]; dsimp only; unfold ruT; rw [if_pos (by omega)]) hI1 hFr)

set_option maxHeartbeats 4000000 in
set_option maxRecDepth 100000 in
theorem ctM_cross {g : GG} {σ : SG} {S : Sp} (hK : FOKs) (hI : InvM σ S) (x y : Int32) : Cti g yX10_cross cX10_cross 3 (some .int) (rmm 7 170) [.ref (ad g 176), .int x, .int y] σ (PoM σ (aCross S.1 x y, S)) := by
  refine ct_of (own := RX10) (lv := [some (.ref (ad g 176)), some (.int x), some (.int y)]) rfl (by decide) (Nat.le_of_ble_eq_true rfl) (by intro u hu; simp only [List.mem_cons, List.not_mem_nil, or_false] at hu; rcases hu with rfl | rfl | rfl <;> rfl) (lv_ok [.ref (ad g 176), .int x, .int y] 0) ?_
  have hV := hI.2.1
  have hT6 := pT_le hK hV
  have hM24 := pM_le hV
  have hc24 := hV.1
  have hw20 := hV.2.2.1
  rcases ix_cases x (n := pM S.1) (by omega) with ⟨h, e⟩ | ⟨k, hk, rfl, e⟩
  · skip
    refine aw_aload_n dX10_cross_0 rfl ?_
    refine aw_iload_n dX10_cross_1 rfl ?_
    refine cvi1 dX10_cross_2 km10_203 ok_X10_isRule rfl rfl (by decide) k_176 (Nat.le_of_ble_eq_true rfl) ⟨Nat.le_of_ble_eq_true rfl, Nat.le_of_ble_eq_true rfl⟩ rfl rfl (ct_isRule hK hI _) ?_
    intro r9 σ1 hp_t
    obtain ⟨rfl, hI1, hF, hFr⟩ := hp_t
    obtain ⟨f1, f2, f3, f4, f5, f6, f7, f8, f9, f10⟩ := id hF
    have G := FnS.g.mp hF
    obtain ⟨⟨hc1, hp1, hcw1, hw1, hs01, hs11, hs21⟩, -, -, -⟩ := id hI1
    refine aw_if_eqB dX10_cross_5 rfl (fun h_5 => ?_) (fun h_5 => absurd h_5 (ix_no rfl h))
    refine aw_ic (-1) dX10_cross_33 (by decide) ?_
    exact aw_ireti dX10_cross_34 (PoM.mk (by unfold aCross; rw [e]) hI1 hFr)
  · skip
    rcases ix_cases y (n := pM S.1) (by omega) with ⟨h, e2⟩ | ⟨j, hj, rfl, e2⟩
    · skip
      refine aw_aload_n dX10_cross_0 rfl ?_
      refine aw_iload_n dX10_cross_1 rfl ?_
      refine cvi1 dX10_cross_2 km10_203 ok_X10_isRule rfl rfl (by decide) k_176 (Nat.le_of_ble_eq_true rfl) ⟨Nat.le_of_ble_eq_true rfl, Nat.le_of_ble_eq_true rfl⟩ rfl rfl (ct_isRule hK hI _) ?_
      intro r9 σ1 hp_t
      obtain ⟨rfl, hI1, hF, hFr⟩ := hp_t
      obtain ⟨f1, f2, f3, f4, f5, f6, f7, f8, f9, f10⟩ := id hF
      have G := FnS.g.mp hF
      obtain ⟨⟨hc1, hp1, hcw1, hw1, hs01, hs11, hs21⟩, -, -, -⟩ := id hI1
      refine aw_if_eqB dX10_cross_5 rfl (fun h_5 => absurd h_5 (not_not_intro (ix_yes rfl hk (by omega)))) (fun h_5 => ?_)
      refine aw_aload_n dX10_cross_8 rfl ?_
      refine aw_iload_n dX10_cross_9 rfl ?_
      refine cvi1 dX10_cross_10 km10_203 ok_X10_isRule rfl rfl (by decide) k_176 (Nat.le_of_ble_eq_true rfl) ⟨Nat.le_of_ble_eq_true rfl, Nat.le_of_ble_eq_true rfl⟩ rfl rfl (ct_isRule hK hI1 _) ?_
      intro r8 σ2 hp_u
      obtain ⟨rfl, hI2, hF, hFr2⟩ := hp_u
      obtain ⟨f1, f2, f3, f4, f5, f6, f7, f8, f9, f10⟩ := id hF
      have G := FnS.g.mp hF
      obtain ⟨⟨hc1, hp1, hcw1, hw1, hs01, hs11, hs21⟩, -, -, -⟩ := id hI2
      refine aw_if_eqB dX10_cross_13 rfl (fun h_13 => ?_) (fun h_13 => absurd h_13 (ix_no rfl h))
      refine aw_ic (-1) dX10_cross_33 (by decide) ?_
      exact aw_ireti dX10_cross_34 (PoM.mk (by unfold aCross; rw [e, e2]) hI2 (hFr.trans hFr2))
    · skip
      refine aw_aload_n dX10_cross_0 rfl ?_
      refine aw_iload_n dX10_cross_1 rfl ?_
      refine cvi1 dX10_cross_2 km10_203 ok_X10_isRule rfl rfl (by decide) k_176 (Nat.le_of_ble_eq_true rfl) ⟨Nat.le_of_ble_eq_true rfl, Nat.le_of_ble_eq_true rfl⟩ rfl rfl (ct_isRule hK hI _) ?_
      intro r9 σ1 hp_t
      obtain ⟨rfl, hI1, hF, hFr⟩ := hp_t
      obtain ⟨f1, f2, f3, f4, f5, f6, f7, f8, f9, f10⟩ := id hF
      have G := FnS.g.mp hF
      obtain ⟨⟨hc1, hp1, hcw1, hw1, hs01, hs11, hs21⟩, -, -, -⟩ := id hI1
      refine aw_if_eqB dX10_cross_5 rfl (fun h_5 => absurd h_5 (not_not_intro (ix_yes rfl hk (by omega)))) (fun h_5 => ?_)
      refine aw_aload_n dX10_cross_8 rfl ?_
      refine aw_iload_n dX10_cross_9 rfl ?_
      refine cvi1 dX10_cross_10 km10_203 ok_X10_isRule rfl rfl (by decide) k_176 (Nat.le_of_ble_eq_true rfl) ⟨Nat.le_of_ble_eq_true rfl, Nat.le_of_ble_eq_true rfl⟩ rfl rfl (ct_isRule hK hI1 _) ?_
      intro r8 σ2 hp_u
      obtain ⟨rfl, hI2, hF, hFr2⟩ := hp_u
      obtain ⟨f1, f2, f3, f4, f5, f6, f7, f8, f9, f10⟩ := id hF
      have G := FnS.g.mp hF
      obtain ⟨⟨hc1, hp1, hcw1, hw1, hs01, hs11, hs21⟩, -, -, -⟩ := id hI2
      refine aw_if_eqB dX10_cross_13 rfl (fun h_13 => absurd h_13 (not_not_intro (ix_yes rfl hj (by omega)))) (fun h_13 => ?_)
      refine aw_aload_n dX10_cross_16 rfl ?_
      refine aw_iload_n dX10_cross_17 rfl ?_
      refine aw_iload_n dX10_cross_18 rfl ?_
      refine cqi2 dX10_cross_19 km10_135 ok_X10_isCross rfl rfl (by decide) k_176 (Nat.le_of_ble_eq_true rfl) ⟨Nat.le_of_ble_eq_true rfl, Nat.le_of_ble_eq_true rfl⟩ rfl rfl (ct_isCross (m := pM S.1) (R := pR S.1) (rc := rcP S.1) f2 (fun r k _ hk => pR_B hV r k hk) hM24 hs21 hV.2.2.2.2.2.1 hk hj) ?_
      refine aw_if_eqB dX10_cross_22 rfl (fun h_22 => ?_) (fun h_22 => ?_)
      · skip
        refine aw_ic (nI 0) dX10_cross_29 (by decide) ?_
        refine aw_goto dX10_cross_30 ?_
        exact aw_ireti dX10_cross_34 (PoM.mk (by unfold aCross; rw [e, e2]; dsimp only; rw [if_neg h_22]; rfl) hI2 (hFr.trans hFr2))
      · skip
        refine aw_ic (nI 1) dX10_cross_25 (by decide) ?_
        refine aw_goto dX10_cross_26 ?_
        exact aw_ireti dX10_cross_34 (PoM.mk (by unfold aCross; rw [e, e2]; dsimp only; rw [if_pos h_22]; rfl) hI2 (hFr.trans hFr2))

theorem pN_le {P : Pg} {t w : Nat} (hK : FOKs) (hV : PgV P) (ht : t < pT P) (hw : w < 2) : pN P t w ≤ 22 ∧ 2 ≤ pN P t w := gN_le (hK P hV) ht hw
set_option maxHeartbeats 4000000 in
set_option maxRecDepth 100000 in
theorem ctM_edge {g : GG} {σ : SG} {S : Sp} (hK : FOKs) (hI : InvM σ S) (x way line : Int32) : Cti g yX10_edge cX10_edge 4 (some .int) (rmm 7 170) [.ref (ad g 176), .int x, .int way, .int line] σ (PoM σ (aEdge S.1 x way line, S)) := by
  refine ct_of (own := RX10) (lv := [some (.ref (ad g 176)), some (.int x), some (.int way), some (.int line)]) rfl (by decide) (Nat.le_of_ble_eq_true rfl) (by intro u hu; simp only [List.mem_cons, List.not_mem_nil, or_false] at hu; rcases hu with rfl | rfl | rfl | rfl <;> rfl) (lv_ok [.ref (ad g 176), .int x, .int way, .int line] 0) ?_
  have hV := hI.2.1
  have hT6 := pT_le hK hV
  have hM24 := pM_le hV
  have hc24 := hV.1
  have hw20 := hV.2.2.1
  have hl184 := l_184
  rcases ix_cases x (n := pT S.1) (by omega) with ⟨h, e⟩ | ⟨t, ht, rfl, e⟩
  · skip
    refine aw_aload_n dX10_edge_0 rfl ?_
    refine aw_iload_n dX10_edge_1 rfl ?_
    refine cvi1 dX10_edge_2 km10_198 ok_X10_isTable rfl rfl (by decide) k_176 (Nat.le_of_ble_eq_true rfl) ⟨Nat.le_of_ble_eq_true rfl, Nat.le_of_ble_eq_true rfl⟩ rfl rfl (ct_isTable hK hI _) ?_
    intro r9 σ1 hp_t
    obtain ⟨rfl, hI1, hF, hFr⟩ := hp_t
    obtain ⟨f1, f2, f3, f4, f5, f6, f7, f8, f9, f10⟩ := id hF
    have G := FnS.g.mp hF
    obtain ⟨⟨hc1, hp1, hcw1, hw1, hs01, hs11, hs21⟩, -, -, -⟩ := id hI1
    refine aw_if_neB dX10_edge_5 rfl (fun h_5 => absurd h_5 (ix_no rfl h)) (fun h_5 => ?_)
    refine aw_ic (-1) dX10_edge_8 (by decide) ?_
    exact aw_ireti dX10_edge_9 (PoM.mk (by unfold aEdge; rw [e]) hI1 hFr)
  · skip
    rcases ix_cases way (n := 2) (by decide) with ⟨h, e2⟩ | ⟨w, hw, rfl, e2⟩
    · skip
      refine aw_aload_n dX10_edge_0 rfl ?_
      refine aw_iload_n dX10_edge_1 rfl ?_
      refine cvi1 dX10_edge_2 km10_198 ok_X10_isTable rfl rfl (by decide) k_176 (Nat.le_of_ble_eq_true rfl) ⟨Nat.le_of_ble_eq_true rfl, Nat.le_of_ble_eq_true rfl⟩ rfl rfl (ct_isTable hK hI _) ?_
      intro r9 σ1 hp_t
      obtain ⟨rfl, hI1, hF, hFr⟩ := hp_t
      obtain ⟨f1, f2, f3, f4, f5, f6, f7, f8, f9, f10⟩ := id hF
      have G := FnS.g.mp hF
      obtain ⟨⟨hc1, hp1, hcw1, hw1, hs01, hs11, hs21⟩, -, -, -⟩ := id hI1
      refine aw_if_neB dX10_edge_5 rfl (fun h_5 => ?_) (fun h_5 => absurd h_5 (not_not_intro (ix_yes rfl ht (by omega))))
      refine aw_iload_n dX10_edge_10 rfl ?_
      refine aw_i2l dX10_edge_11 ?_
      refine aw_lconst dX10_edge_12 ?_
      refine aw_lconst dX10_edge_13 ?_
      refine csq3 dX10_edge_14 km10_64 ok_X10_in (Nat.le_of_ble_eq_true rfl) ⟨Nat.le_of_ble_eq_true rfl, Nat.le_of_ble_eq_true rfl⟩ rfl rfl (ct_inN _ 2 (by decide) (by decide) (by decide)) ?_
      refine aw_if_neB dX10_edge_17 rfl (fun h_17 => absurd h_17 (ix_no rfl h)) (fun h_17 => ?_)
      refine aw_bi (-2) dX10_edge_20 (by decide) ?_
      exact aw_ireti dX10_edge_22 (PoM.mk (by unfold aEdge; rw [e]; dsimp only; rw [e2]) hI1 hFr)
    · skip
      have hn := pN_le hK hV ht hw
      rcases ix_cases line (n := pN S.1 t w) (by omega) with ⟨h, e3⟩ | ⟨l, hl, rfl, e3⟩
      · skip
        refine aw_aload_n dX10_edge_0 rfl ?_
        refine aw_iload_n dX10_edge_1 rfl ?_
        refine cvi1 dX10_edge_2 km10_198 ok_X10_isTable rfl rfl (by decide) k_176 (Nat.le_of_ble_eq_true rfl) ⟨Nat.le_of_ble_eq_true rfl, Nat.le_of_ble_eq_true rfl⟩ rfl rfl (ct_isTable hK hI _) ?_
        intro r9 σ1 hp_t
        obtain ⟨rfl, hI1, hF, hFr⟩ := hp_t
        obtain ⟨f1, f2, f3, f4, f5, f6, f7, f8, f9, f10⟩ := id hF
        have G := FnS.g.mp hF
        obtain ⟨⟨hc1, hp1, hcw1, hw1, hs01, hs11, hs21⟩, -, -, -⟩ := id hI1
        refine aw_if_neB dX10_edge_5 rfl (fun h_5 => ?_) (fun h_5 => absurd h_5 (not_not_intro (ix_yes rfl ht (by omega))))
        refine aw_iload_n dX10_edge_10 rfl ?_
        refine aw_i2l dX10_edge_11 ?_
        refine aw_lconst dX10_edge_12 ?_
        refine aw_lconst dX10_edge_13 ?_
        refine csq3 dX10_edge_14 km10_64 ok_X10_in (Nat.le_of_ble_eq_true rfl) ⟨Nat.le_of_ble_eq_true rfl, Nat.le_of_ble_eq_true rfl⟩ rfl rfl (ct_inN _ 2 (by decide) (by decide) (by decide)) ?_
        refine aw_if_neB dX10_edge_17 rfl (fun h_17 => ?_) (fun h_17 => absurd h_17 (not_not_intro (ix_yes rfl hw (by omega))))
        refine aw_iload_n dX10_edge_23 rfl ?_
        refine aw_i2l dX10_edge_24 ?_
        refine aw_lconst dX10_edge_25 ?_
        refine aw_aload_n dX10_edge_26 rfl ?_
        refine gf10_lineMany dX10_edge_27 kf10_31 k_176 ?_
        refine aw_eqr (b := 184) rfl ?_
        refine aw_ic (nI 2) dX10_edge_30 (by decide) ?_
        refine aw_iload_n dX10_edge_31 rfl ?_
        refine aw_imul dX10_edge_32 ?_
        refine aw_eq (pk_mul _ _) ?_
        refine aw_iload_n dX10_edge_33 rfl ?_
        refine aw_iadd dX10_edge_34 ?_
        refine aw_eq (nI_add _ _) ?_
        refine aw_ld (2 * t + w) dX10_edge_35 k_184 (rfl) (by omega) ?_
        refine aw_eq (f6 t w ht hw).1 ?_
        refine aw_ic (nI 1) dX10_edge_36 (by decide) ?_
        refine aw_isub dX10_edge_37 ?_
        refine aw_i2l dX10_edge_38 ?_
        refine csq3 dX10_edge_39 km10_64 ok_X10_in (Nat.le_of_ble_eq_true rfl) ⟨Nat.le_of_ble_eq_true rfl, Nat.le_of_ble_eq_true rfl⟩ rfl rfl (ct_inN _ (pN S.1 t w) (by decide) (i64_m (by omega)) (by omega)) ?_
        refine aw_if_eqB dX10_edge_42 rfl (fun h_42 => ?_) (fun h_42 => absurd h_42 (ix_no rfl h))
        refine aw_bi (-6) dX10_edge_55 (by decide) ?_
        exact aw_ireti dX10_edge_57 (PoM.mk (by unfold aEdge; rw [e]; dsimp only; rw [e2]; dsimp only; rw [e3]) hI1 hFr)
      · skip
        refine aw_aload_n dX10_edge_0 rfl ?_
        refine aw_iload_n dX10_edge_1 rfl ?_
        refine cvi1 dX10_edge_2 km10_198 ok_X10_isTable rfl rfl (by decide) k_176 (Nat.le_of_ble_eq_true rfl) ⟨Nat.le_of_ble_eq_true rfl, Nat.le_of_ble_eq_true rfl⟩ rfl rfl (ct_isTable hK hI _) ?_
        intro r9 σ1 hp_t
        obtain ⟨rfl, hI1, hF, hFr⟩ := hp_t
        obtain ⟨f1, f2, f3, f4, f5, f6, f7, f8, f9, f10⟩ := id hF
        have G := FnS.g.mp hF
        obtain ⟨⟨hc1, hp1, hcw1, hw1, hs01, hs11, hs21⟩, -, -, -⟩ := id hI1
        refine aw_if_neB dX10_edge_5 rfl (fun h_5 => ?_) (fun h_5 => absurd h_5 (not_not_intro (ix_yes rfl ht (by omega))))
        refine aw_iload_n dX10_edge_10 rfl ?_
        refine aw_i2l dX10_edge_11 ?_
        refine aw_lconst dX10_edge_12 ?_
        refine aw_lconst dX10_edge_13 ?_
        refine csq3 dX10_edge_14 km10_64 ok_X10_in (Nat.le_of_ble_eq_true rfl) ⟨Nat.le_of_ble_eq_true rfl, Nat.le_of_ble_eq_true rfl⟩ rfl rfl (ct_inN _ 2 (by decide) (by decide) (by decide)) ?_
        refine aw_if_neB dX10_edge_17 rfl (fun h_17 => ?_) (fun h_17 => absurd h_17 (not_not_intro (ix_yes rfl hw (by omega))))
        refine aw_iload_n dX10_edge_23 rfl ?_
        refine aw_i2l dX10_edge_24 ?_
        refine aw_lconst dX10_edge_25 ?_
        refine aw_aload_n dX10_edge_26 rfl ?_
        refine gf10_lineMany dX10_edge_27 kf10_31 k_176 ?_
        refine aw_eqr (b := 184) rfl ?_
        refine aw_ic (nI 2) dX10_edge_30 (by decide) ?_
        refine aw_iload_n dX10_edge_31 rfl ?_
        refine aw_imul dX10_edge_32 ?_
        refine aw_eq (pk_mul _ _) ?_
        refine aw_iload_n dX10_edge_33 rfl ?_
        refine aw_iadd dX10_edge_34 ?_
        refine aw_eq (nI_add _ _) ?_
        refine aw_ld (2 * t + w) dX10_edge_35 k_184 (rfl) (by omega) ?_
        refine aw_eq (f6 t w ht hw).1 ?_
        refine aw_ic (nI 1) dX10_edge_36 (by decide) ?_
        refine aw_isub dX10_edge_37 ?_
        refine aw_i2l dX10_edge_38 ?_
        refine csq3 dX10_edge_39 km10_64 ok_X10_in (Nat.le_of_ble_eq_true rfl) ⟨Nat.le_of_ble_eq_true rfl, Nat.le_of_ble_eq_true rfl⟩ rfl rfl (ct_inN _ (pN S.1 t w) (by decide) (i64_m (by omega)) (by omega)) ?_
        refine aw_if_eqB dX10_edge_42 rfl (fun h_42 => absurd h_42 (not_not_intro (ix_yes rfl hl (by omega)))) (fun h_42 => ?_)
        refine aw_aload_n dX10_edge_45 rfl ?_
        refine aw_iload_n dX10_edge_46 rfl ?_
        refine aw_iload_n dX10_edge_47 rfl ?_
        refine aw_iload_n dX10_edge_48 rfl ?_
        refine cqi3 dX10_edge_49 km10_155 ok_X10_lineAt rfl rfl (by decide) k_176 (Nat.le_of_ble_eq_true rfl) ⟨Nat.le_of_ble_eq_true rfl, Nat.le_of_ble_eq_true rfl⟩ rfl rfl (ct_lineAt (t := t) (w := w) (k := l) (by omega)) ?_
        refine aw_eq ((f6 t w ht hw).2 l hl) ?_
        refine aw_goto dX10_edge_52 ?_
        exact aw_ireti dX10_edge_57 (PoM.mk (by unfold aEdge; rw [e]; dsimp only; rw [e2]; dsimp only; rw [e3]) hI1 hFr)

set_option maxHeartbeats 4000000 in
set_option maxRecDepth 100000 in
theorem ctM_ruled {g : GG} {σ : SG} {S : Sp} (hK : FOKs) (hI : InvM σ S) (x way row col : Int32) : Cti g yX10_ruled cX10_ruled 5 (some .int) (rmm 7 170) [.ref (ad g 176), .int x, .int way, .int row, .int col] σ (PoM σ (aRuled S.1 x way row col, S)) := by
  refine ct_of (own := RX10) (lv := [some (.ref (ad g 176)), some (.int x), some (.int way), some (.int row), some (.int col)]) rfl (by decide) (Nat.le_of_ble_eq_true rfl) (by intro u hu; simp only [List.mem_cons, List.not_mem_nil, or_false] at hu; rcases hu with rfl | rfl | rfl | rfl | rfl <;> rfl) (lv_ok [.ref (ad g 176), .int x, .int way, .int row, .int col] 0) ?_
  have hV := hI.2.1
  have hT6 := pT_le hK hV
  have hM24 := pM_le hV
  have hc24 := hV.1
  have hw20 := hV.2.2.1
  rcases ix_cases x (n := pT S.1) (by omega) with ⟨h, e⟩ | ⟨t, ht, rfl, e⟩
  · skip
    refine aw_aload_n dX10_ruled_0 rfl ?_
    refine aw_iload_n dX10_ruled_1 rfl ?_
    refine cvi1 dX10_ruled_2 km10_198 ok_X10_isTable rfl rfl (by decide) k_176 (Nat.le_of_ble_eq_true rfl) ⟨Nat.le_of_ble_eq_true rfl, Nat.le_of_ble_eq_true rfl⟩ rfl rfl (ct_isTable hK hI _) ?_
    intro r9 σ1 hp_t
    obtain ⟨rfl, hI1, hF, hFr⟩ := hp_t
    obtain ⟨f1, f2, f3, f4, f5, f6, f7, f8, f9, f10⟩ := id hF
    have G := FnS.g.mp hF
    obtain ⟨⟨hc1, hp1, hcw1, hw1, hs01, hs11, hs21⟩, -, -, -⟩ := id hI1
    refine aw_if_neB dX10_ruled_5 rfl (fun h_5 => absurd h_5 (ix_no rfl h)) (fun h_5 => ?_)
    refine aw_ic (-1) dX10_ruled_8 (by decide) ?_
    exact aw_ireti dX10_ruled_9 (PoM.mk (by unfold aRuled; rw [e]) hI1 hFr)
  · skip
    rcases ix_cases way (n := 2) (by decide) with ⟨h, e2⟩ | ⟨w, hw, rfl, e2⟩
    · skip
      refine aw_aload_n dX10_ruled_0 rfl ?_
      refine aw_iload_n dX10_ruled_1 rfl ?_
      refine cvi1 dX10_ruled_2 km10_198 ok_X10_isTable rfl rfl (by decide) k_176 (Nat.le_of_ble_eq_true rfl) ⟨Nat.le_of_ble_eq_true rfl, Nat.le_of_ble_eq_true rfl⟩ rfl rfl (ct_isTable hK hI _) ?_
      intro r9 σ1 hp_t
      obtain ⟨rfl, hI1, hF, hFr⟩ := hp_t
      obtain ⟨f1, f2, f3, f4, f5, f6, f7, f8, f9, f10⟩ := id hF
      have G := FnS.g.mp hF
      obtain ⟨⟨hc1, hp1, hcw1, hw1, hs01, hs11, hs21⟩, -, -, -⟩ := id hI1
      refine aw_if_neB dX10_ruled_5 rfl (fun h_5 => ?_) (fun h_5 => absurd h_5 (not_not_intro (ix_yes rfl ht (by omega))))
      refine aw_iload_n dX10_ruled_10 rfl ?_
      refine aw_i2l dX10_ruled_11 ?_
      refine aw_lconst dX10_ruled_12 ?_
      refine aw_lconst dX10_ruled_13 ?_
      refine csq3 dX10_ruled_14 km10_64 ok_X10_in (Nat.le_of_ble_eq_true rfl) ⟨Nat.le_of_ble_eq_true rfl, Nat.le_of_ble_eq_true rfl⟩ rfl rfl (ct_inN _ 2 (by decide) (by decide) (by decide)) ?_
      refine aw_if_neB dX10_ruled_17 rfl (fun h_17 => absurd h_17 (ix_no rfl h)) (fun h_17 => ?_)
      refine aw_bi (-2) dX10_ruled_20 (by decide) ?_
      exact aw_ireti dX10_ruled_22 (PoM.mk (by unfold aRuled; rw [e]; dsimp only; rw [e2]) hI1 hFr)
    · skip
      obtain ⟨n0, n1, a1, a2, a3, a4, -⟩ := pB hK hV ht
      rcases ix_cases row (n := pNr S.1 t + 1 - w) (by omega) with ⟨h, e3⟩ | ⟨r, hr, rfl, e3⟩
      · skip
        refine aw_aload_n dX10_ruled_0 rfl ?_
        refine aw_iload_n dX10_ruled_1 rfl ?_
        refine cvi1 dX10_ruled_2 km10_198 ok_X10_isTable rfl rfl (by decide) k_176 (Nat.le_of_ble_eq_true rfl) ⟨Nat.le_of_ble_eq_true rfl, Nat.le_of_ble_eq_true rfl⟩ rfl rfl (ct_isTable hK hI _) ?_
        intro r9 σ1 hp_t
        obtain ⟨rfl, hI1, hF, hFr⟩ := hp_t
        obtain ⟨f1, f2, f3, f4, f5, f6, f7, f8, f9, f10⟩ := id hF
        have G := FnS.g.mp hF
        obtain ⟨⟨hc1, hp1, hcw1, hw1, hs01, hs11, hs21⟩, -, -, -⟩ := id hI1
        refine aw_if_neB dX10_ruled_5 rfl (fun h_5 => ?_) (fun h_5 => absurd h_5 (not_not_intro (ix_yes rfl ht (by omega))))
        refine aw_iload_n dX10_ruled_10 rfl ?_
        refine aw_i2l dX10_ruled_11 ?_
        refine aw_lconst dX10_ruled_12 ?_
        refine aw_lconst dX10_ruled_13 ?_
        refine csq3 dX10_ruled_14 km10_64 ok_X10_in (Nat.le_of_ble_eq_true rfl) ⟨Nat.le_of_ble_eq_true rfl, Nat.le_of_ble_eq_true rfl⟩ rfl rfl (ct_inN _ 2 (by decide) (by decide) (by decide)) ?_
        refine aw_if_neB dX10_ruled_17 rfl (fun h_17 => ?_) (fun h_17 => absurd h_17 (not_not_intro (ix_yes rfl hw (by omega))))
        refine aw_aload_n dX10_ruled_23 rfl ?_
        refine aw_iload_n dX10_ruled_24 rfl ?_
        refine aw_iload_n dX10_ruled_25 rfl ?_
        refine aw_iload_n dX10_ruled_26 rfl ?_
        refine aw_iload dX10_ruled_27 rfl ?_
        refine cqi4 dX10_ruled_29 km10_247 ok_X10_isSide rfl rfl (by decide) k_176 (Nat.le_of_ble_eq_true rfl) ⟨Nat.le_of_ble_eq_true rfl, Nat.le_of_ble_eq_true rfl⟩ rfl rfl (ct_isSide (G.tbf hK hV hs21 ht).2.1.2.2 (G.tbf hK hV hs21 ht).2.2.2.2.2.2.1 (G.tbf hK hV hs21 ht).2.2.2.2.2.2.2 (G.tbf hK hV hs21 ht).2.2.2.1.1 (G.tbf hK hV hs21 ht).2.2.2.1.2 hw _ _) ?_
        refine aw_if_neB dX10_ruled_32 rfl (fun h_32 => absurd h_32 (fun z => ix_no rfl h z.1)) (fun h_32 => ?_)
        refine aw_ic (-1) dX10_ruled_35 (by decide) ?_
        refine aw_goto dX10_ruled_36 ?_
        exact aw_ireti dX10_ruled_56 (PoM.mk (by unfold aRuled; rw [e]; dsimp only; rw [e2]; dsimp only; rw [e3]) hI1 hFr)
      · skip
        rcases ix_cases col (n := pNc S.1 t + w) (by omega) with ⟨h, e4⟩ | ⟨c, hc, rfl, e4⟩
        · skip
          refine aw_aload_n dX10_ruled_0 rfl ?_
          refine aw_iload_n dX10_ruled_1 rfl ?_
          refine cvi1 dX10_ruled_2 km10_198 ok_X10_isTable rfl rfl (by decide) k_176 (Nat.le_of_ble_eq_true rfl) ⟨Nat.le_of_ble_eq_true rfl, Nat.le_of_ble_eq_true rfl⟩ rfl rfl (ct_isTable hK hI _) ?_
          intro r9 σ1 hp_t
          obtain ⟨rfl, hI1, hF, hFr⟩ := hp_t
          obtain ⟨f1, f2, f3, f4, f5, f6, f7, f8, f9, f10⟩ := id hF
          have G := FnS.g.mp hF
          obtain ⟨⟨hc1, hp1, hcw1, hw1, hs01, hs11, hs21⟩, -, -, -⟩ := id hI1
          refine aw_if_neB dX10_ruled_5 rfl (fun h_5 => ?_) (fun h_5 => absurd h_5 (not_not_intro (ix_yes rfl ht (by omega))))
          refine aw_iload_n dX10_ruled_10 rfl ?_
          refine aw_i2l dX10_ruled_11 ?_
          refine aw_lconst dX10_ruled_12 ?_
          refine aw_lconst dX10_ruled_13 ?_
          refine csq3 dX10_ruled_14 km10_64 ok_X10_in (Nat.le_of_ble_eq_true rfl) ⟨Nat.le_of_ble_eq_true rfl, Nat.le_of_ble_eq_true rfl⟩ rfl rfl (ct_inN _ 2 (by decide) (by decide) (by decide)) ?_
          refine aw_if_neB dX10_ruled_17 rfl (fun h_17 => ?_) (fun h_17 => absurd h_17 (not_not_intro (ix_yes rfl hw (by omega))))
          refine aw_aload_n dX10_ruled_23 rfl ?_
          refine aw_iload_n dX10_ruled_24 rfl ?_
          refine aw_iload_n dX10_ruled_25 rfl ?_
          refine aw_iload_n dX10_ruled_26 rfl ?_
          refine aw_iload dX10_ruled_27 rfl ?_
          refine cqi4 dX10_ruled_29 km10_247 ok_X10_isSide rfl rfl (by decide) k_176 (Nat.le_of_ble_eq_true rfl) ⟨Nat.le_of_ble_eq_true rfl, Nat.le_of_ble_eq_true rfl⟩ rfl rfl (ct_isSide (G.tbf hK hV hs21 ht).2.1.2.2 (G.tbf hK hV hs21 ht).2.2.2.2.2.2.1 (G.tbf hK hV hs21 ht).2.2.2.2.2.2.2 (G.tbf hK hV hs21 ht).2.2.2.1.1 (G.tbf hK hV hs21 ht).2.2.2.1.2 hw _ _) ?_
          refine aw_if_neB dX10_ruled_32 rfl (fun h_32 => absurd h_32 (fun z => ix_no rfl h z.2)) (fun h_32 => ?_)
          refine aw_ic (-1) dX10_ruled_35 (by decide) ?_
          refine aw_goto dX10_ruled_36 ?_
          exact aw_ireti dX10_ruled_56 (PoM.mk (by unfold aRuled; rw [e]; dsimp only; rw [e2]; dsimp only; rw [e3, e4]) hI1 hFr)
        · skip
          refine aw_aload_n dX10_ruled_0 rfl ?_
          refine aw_iload_n dX10_ruled_1 rfl ?_
          refine cvi1 dX10_ruled_2 km10_198 ok_X10_isTable rfl rfl (by decide) k_176 (Nat.le_of_ble_eq_true rfl) ⟨Nat.le_of_ble_eq_true rfl, Nat.le_of_ble_eq_true rfl⟩ rfl rfl (ct_isTable hK hI _) ?_
          intro r9 σ1 hp_t
          obtain ⟨rfl, hI1, hF, hFr⟩ := hp_t
          obtain ⟨f1, f2, f3, f4, f5, f6, f7, f8, f9, f10⟩ := id hF
          have G := FnS.g.mp hF
          obtain ⟨⟨hc1, hp1, hcw1, hw1, hs01, hs11, hs21⟩, -, -, -⟩ := id hI1
          refine aw_if_neB dX10_ruled_5 rfl (fun h_5 => ?_) (fun h_5 => absurd h_5 (not_not_intro (ix_yes rfl ht (by omega))))
          refine aw_iload_n dX10_ruled_10 rfl ?_
          refine aw_i2l dX10_ruled_11 ?_
          refine aw_lconst dX10_ruled_12 ?_
          refine aw_lconst dX10_ruled_13 ?_
          refine csq3 dX10_ruled_14 km10_64 ok_X10_in (Nat.le_of_ble_eq_true rfl) ⟨Nat.le_of_ble_eq_true rfl, Nat.le_of_ble_eq_true rfl⟩ rfl rfl (ct_inN _ 2 (by decide) (by decide) (by decide)) ?_
          refine aw_if_neB dX10_ruled_17 rfl (fun h_17 => ?_) (fun h_17 => absurd h_17 (not_not_intro (ix_yes rfl hw (by omega))))
          refine aw_aload_n dX10_ruled_23 rfl ?_
          refine aw_iload_n dX10_ruled_24 rfl ?_
          refine aw_iload_n dX10_ruled_25 rfl ?_
          refine aw_iload_n dX10_ruled_26 rfl ?_
          refine aw_iload dX10_ruled_27 rfl ?_
          refine cqi4 dX10_ruled_29 km10_247 ok_X10_isSide rfl rfl (by decide) k_176 (Nat.le_of_ble_eq_true rfl) ⟨Nat.le_of_ble_eq_true rfl, Nat.le_of_ble_eq_true rfl⟩ rfl rfl (ct_isSide (G.tbf hK hV hs21 ht).2.1.2.2 (G.tbf hK hV hs21 ht).2.2.2.2.2.2.1 (G.tbf hK hV hs21 ht).2.2.2.2.2.2.2 (G.tbf hK hV hs21 ht).2.2.2.1.1 (G.tbf hK hV hs21 ht).2.2.2.1.2 hw _ _) ?_
          refine aw_if_neB dX10_ruled_32 rfl (fun h_32 => ?_) (fun h_32 => absurd h_32 (not_not_intro ⟨ix_yes rfl hr (by omega), ix_yes rfl hc (by omega)⟩))
          refine aw_aload_n dX10_ruled_39 rfl ?_
          refine aw_iload_n dX10_ruled_40 rfl ?_
          refine aw_iload_n dX10_ruled_41 rfl ?_
          refine aw_iload_n dX10_ruled_42 rfl ?_
          refine aw_iload dX10_ruled_43 rfl ?_
          refine cqi4 dX10_ruled_45 km10_163 ok_X10_isRuled rfl rfl (by decide) k_176 (Nat.le_of_ble_eq_true rfl) ⟨Nat.le_of_ble_eq_true rfl, Nat.le_of_ble_eq_true rfl⟩ rfl rfl (ct_ruledF (w := w) (r := r) (c := c) (G.tbf hK hV hs21 ht) (by rcases (by omega : w = 0 ∨ w = 1) with rfl | rfl; exact Or.inl ⟨rfl, by omega, by omega⟩; exact Or.inr ⟨rfl, by omega, by omega⟩)) ?_
          refine aw_if_eqB dX10_ruled_48 rfl (fun h_48 => ?_) (fun h_48 => ?_)
          · skip
            refine aw_ic (nI 0) dX10_ruled_55 (by decide) ?_
            exact aw_ireti dX10_ruled_56 (PoM.mk (by unfold aRuled; rw [e]; dsimp only; rw [e2]; dsimp only; rw [e3, e4]; dsimp only; exact congrArg (fun z => (z, S)) (if_neg h_48)) hI1 hFr)
          · skip
            refine aw_ic (nI 1) dX10_ruled_51 (by decide) ?_
            refine aw_goto dX10_ruled_52 ?_
            exact aw_ireti dX10_ruled_56 (PoM.mk (by unfold aRuled; rw [e]; dsimp only; rw [e2]; dsimp only; rw [e3, e4]; dsimp only; exact congrArg (fun z => (z, S)) (if_pos h_48)) hI1 hFr)

set_option maxHeartbeats 4000000 in
set_option maxRecDepth 100000 in
theorem ctM_at {g : GG} {σ : SG} {S : Sp} (hK : FOKs) (hI : InvM σ S) (x row col : Int32) : Cti g yX10_at cX10_at 4 (some .int) (rmm 7 170) [.ref (ad g 176), .int x, .int row, .int col] σ (fun r9 σ' => PoM σ (aAt S.1 x row col, S) r9 σ' ∧ FnS σ' S.1) := by
  refine ct_of (own := RX10) (lv := [some (.ref (ad g 176)), some (.int x), some (.int row), some (.int col)]) rfl (by decide) (Nat.le_of_ble_eq_true rfl) (by intro u hu; simp only [List.mem_cons, List.not_mem_nil, or_false] at hu; rcases hu with rfl | rfl | rfl | rfl <;> rfl) (lv_ok [.ref (ad g 176), .int x, .int row, .int col] 0) ?_
  have hV := hI.2.1
  have hT6 := pT_le hK hV
  have hM24 := pM_le hV
  have hc24 := hV.1
  have hw20 := hV.2.2.1
  have hl185 := l_185
  have hl186 := l_186
  have hl187 := l_187
  rcases ix_cases x (n := pT S.1) (by omega) with ⟨h, e⟩ | ⟨t, ht, rfl, e⟩
  · skip
    refine aw_aload_n dX10_at_0 rfl ?_
    refine aw_iload_n dX10_at_1 rfl ?_
    refine cvi1 dX10_at_2 km10_198 ok_X10_isTable rfl rfl (by decide) k_176 (Nat.le_of_ble_eq_true rfl) ⟨Nat.le_of_ble_eq_true rfl, Nat.le_of_ble_eq_true rfl⟩ rfl rfl (ct_isTable hK hI _) ?_
    intro r9 σ1 hp_t
    obtain ⟨rfl, hI1, hF, hFr⟩ := hp_t
    obtain ⟨f1, f2, f3, f4, f5, f6, f7, f8, f9, f10⟩ := id hF
    have G := FnS.g.mp hF
    obtain ⟨⟨hc1, hp1, hcw1, hw1, hs01, hs11, hs21⟩, -, -, -⟩ := id hI1
    refine aw_if_eqB dX10_at_5 rfl (fun h_5 => ?_) (fun h_5 => absurd h_5 (ix_no rfl h))
    refine aw_ic (-1) dX10_at_42 (by decide) ?_
    exact aw_ireti dX10_at_43 (⟨PoM.mk (by unfold aAt; rw [e]) hI1 hFr, hF⟩)
  · skip
    obtain ⟨n0, n1, a1, a2, a3, a4, -⟩ := pB hK hV ht
    have hff := pFF_le hK hV (show t + 1 ≤ pT S.1 from ht)
    have hfs : pFF S.1 (t + 1) = pFF S.1 t + pNr S.1 t * pNc S.1 t := rfl
    rcases ix_cases row (n := pNr S.1 t) (by omega) with ⟨h, e3⟩ | ⟨r, hr, rfl, e3⟩
    · skip
      refine aw_aload_n dX10_at_0 rfl ?_
      refine aw_iload_n dX10_at_1 rfl ?_
      refine cvi1 dX10_at_2 km10_198 ok_X10_isTable rfl rfl (by decide) k_176 (Nat.le_of_ble_eq_true rfl) ⟨Nat.le_of_ble_eq_true rfl, Nat.le_of_ble_eq_true rfl⟩ rfl rfl (ct_isTable hK hI _) ?_
      intro r9 σ1 hp_t
      obtain ⟨rfl, hI1, hF, hFr⟩ := hp_t
      obtain ⟨f1, f2, f3, f4, f5, f6, f7, f8, f9, f10⟩ := id hF
      have G := FnS.g.mp hF
      obtain ⟨⟨hc1, hp1, hcw1, hw1, hs01, hs11, hs21⟩, -, -, -⟩ := id hI1
      refine aw_if_eqB dX10_at_5 rfl (fun h_5 => absurd h_5 (not_not_intro (ix_yes rfl ht (by omega)))) (fun h_5 => ?_)
      refine aw_iload_n dX10_at_8 rfl ?_
      refine aw_i2l dX10_at_9 ?_
      refine aw_lconst dX10_at_10 ?_
      refine aw_aload_n dX10_at_11 rfl ?_
      refine aw_iload_n dX10_at_12 rfl ?_
      refine cqi1 dX10_at_13 km10_148 ok_X10_rowsOf rfl rfl (by decide) k_176 (Nat.le_of_ble_eq_true rfl) ⟨Nat.le_of_ble_eq_true rfl, Nat.le_of_ble_eq_true rfl⟩ rfl rfl (ct_rowsF (G.tbf hK hV hs21 ht)) ?_
      refine aw_eq (show _ = nI (pNr S.1 t) by rw [Nat.add_sub_cancel]) ?_
      refine aw_ic (nI 1) dX10_at_16 (by decide) ?_
      refine aw_isub dX10_at_17 ?_
      refine aw_i2l dX10_at_18 ?_
      refine csq3 dX10_at_19 km10_64 ok_X10_in (Nat.le_of_ble_eq_true rfl) ⟨Nat.le_of_ble_eq_true rfl, Nat.le_of_ble_eq_true rfl⟩ rfl rfl (ct_inN _ (pNr S.1 t) (by decide) (i64_m (by omega)) (by omega)) ?_
      refine aw_if_eqB dX10_at_22 rfl (fun h_22 => ?_) (fun h_22 => absurd h_22 (ix_no rfl h))
      refine aw_ic (-1) dX10_at_42 (by decide) ?_
      exact aw_ireti dX10_at_43 (⟨PoM.mk (by unfold aAt; rw [e]; dsimp only; rw [e3]) hI1 hFr, hF⟩)
    · skip
      rcases ix_cases col (n := pNc S.1 t) (by omega) with ⟨h, e4⟩ | ⟨c, hc, rfl, e4⟩
      · skip
        refine aw_aload_n dX10_at_0 rfl ?_
        refine aw_iload_n dX10_at_1 rfl ?_
        refine cvi1 dX10_at_2 km10_198 ok_X10_isTable rfl rfl (by decide) k_176 (Nat.le_of_ble_eq_true rfl) ⟨Nat.le_of_ble_eq_true rfl, Nat.le_of_ble_eq_true rfl⟩ rfl rfl (ct_isTable hK hI _) ?_
        intro r9 σ1 hp_t
        obtain ⟨rfl, hI1, hF, hFr⟩ := hp_t
        obtain ⟨f1, f2, f3, f4, f5, f6, f7, f8, f9, f10⟩ := id hF
        have G := FnS.g.mp hF
        obtain ⟨⟨hc1, hp1, hcw1, hw1, hs01, hs11, hs21⟩, -, -, -⟩ := id hI1
        refine aw_if_eqB dX10_at_5 rfl (fun h_5 => absurd h_5 (not_not_intro (ix_yes rfl ht (by omega)))) (fun h_5 => ?_)
        refine aw_iload_n dX10_at_8 rfl ?_
        refine aw_i2l dX10_at_9 ?_
        refine aw_lconst dX10_at_10 ?_
        refine aw_aload_n dX10_at_11 rfl ?_
        refine aw_iload_n dX10_at_12 rfl ?_
        refine cqi1 dX10_at_13 km10_148 ok_X10_rowsOf rfl rfl (by decide) k_176 (Nat.le_of_ble_eq_true rfl) ⟨Nat.le_of_ble_eq_true rfl, Nat.le_of_ble_eq_true rfl⟩ rfl rfl (ct_rowsF (G.tbf hK hV hs21 ht)) ?_
        refine aw_eq (show _ = nI (pNr S.1 t) by rw [Nat.add_sub_cancel]) ?_
        refine aw_ic (nI 1) dX10_at_16 (by decide) ?_
        refine aw_isub dX10_at_17 ?_
        refine aw_i2l dX10_at_18 ?_
        refine csq3 dX10_at_19 km10_64 ok_X10_in (Nat.le_of_ble_eq_true rfl) ⟨Nat.le_of_ble_eq_true rfl, Nat.le_of_ble_eq_true rfl⟩ rfl rfl (ct_inN _ (pNr S.1 t) (by decide) (i64_m (by omega)) (by omega)) ?_
        refine aw_if_eqB dX10_at_22 rfl (fun h_22 => absurd h_22 (not_not_intro (ix_yes rfl hr (by omega)))) (fun h_22 => ?_)
        refine aw_iload_n dX10_at_25 rfl ?_
        refine aw_i2l dX10_at_26 ?_
        refine aw_lconst dX10_at_27 ?_
        refine aw_aload_n dX10_at_28 rfl ?_
        refine aw_iload_n dX10_at_29 rfl ?_
        refine cqi1 dX10_at_30 km10_152 ok_X10_columnsOf rfl rfl (by decide) k_176 (Nat.le_of_ble_eq_true rfl) ⟨Nat.le_of_ble_eq_true rfl, Nat.le_of_ble_eq_true rfl⟩ rfl rfl (ct_columnsF (G.tbf hK hV hs21 ht)) ?_
        refine aw_eq (show _ = nI (pNc S.1 t) by rw [Nat.add_sub_cancel]) ?_
        refine aw_ic (nI 1) dX10_at_33 (by decide) ?_
        refine aw_isub dX10_at_34 ?_
        refine aw_i2l dX10_at_35 ?_
        refine csq3 dX10_at_36 km10_64 ok_X10_in (Nat.le_of_ble_eq_true rfl) ⟨Nat.le_of_ble_eq_true rfl, Nat.le_of_ble_eq_true rfl⟩ rfl rfl (ct_inN _ (pNc S.1 t) (by decide) (i64_m (by omega)) (by omega)) ?_
        refine aw_if_neB dX10_at_39 rfl (fun h_39 => absurd h_39 (ix_no rfl h)) (fun h_39 => ?_)
        refine aw_ic (-1) dX10_at_42 (by decide) ?_
        exact aw_ireti dX10_at_43 (⟨PoM.mk (by unfold aAt; rw [e]; dsimp only; rw [e3, e4]) hI1 hFr, hF⟩)
      · skip
        have hrc := rc_lt hr hc
        refine aw_aload_n dX10_at_0 rfl ?_
        refine aw_iload_n dX10_at_1 rfl ?_
        refine cvi1 dX10_at_2 km10_198 ok_X10_isTable rfl rfl (by decide) k_176 (Nat.le_of_ble_eq_true rfl) ⟨Nat.le_of_ble_eq_true rfl, Nat.le_of_ble_eq_true rfl⟩ rfl rfl (ct_isTable hK hI _) ?_
        intro r9 σ1 hp_t
        obtain ⟨rfl, hI1, hF, hFr⟩ := hp_t
        obtain ⟨f1, f2, f3, f4, f5, f6, f7, f8, f9, f10⟩ := id hF
        have G := FnS.g.mp hF
        obtain ⟨⟨hc1, hp1, hcw1, hw1, hs01, hs11, hs21⟩, -, -, -⟩ := id hI1
        refine aw_if_eqB dX10_at_5 rfl (fun h_5 => absurd h_5 (not_not_intro (ix_yes rfl ht (by omega)))) (fun h_5 => ?_)
        refine aw_iload_n dX10_at_8 rfl ?_
        refine aw_i2l dX10_at_9 ?_
        refine aw_lconst dX10_at_10 ?_
        refine aw_aload_n dX10_at_11 rfl ?_
        refine aw_iload_n dX10_at_12 rfl ?_
        refine cqi1 dX10_at_13 km10_148 ok_X10_rowsOf rfl rfl (by decide) k_176 (Nat.le_of_ble_eq_true rfl) ⟨Nat.le_of_ble_eq_true rfl, Nat.le_of_ble_eq_true rfl⟩ rfl rfl (ct_rowsF (G.tbf hK hV hs21 ht)) ?_
        refine aw_eq (show _ = nI (pNr S.1 t) by rw [Nat.add_sub_cancel]) ?_
        refine aw_ic (nI 1) dX10_at_16 (by decide) ?_
        refine aw_isub dX10_at_17 ?_
        refine aw_i2l dX10_at_18 ?_
        refine csq3 dX10_at_19 km10_64 ok_X10_in (Nat.le_of_ble_eq_true rfl) ⟨Nat.le_of_ble_eq_true rfl, Nat.le_of_ble_eq_true rfl⟩ rfl rfl (ct_inN _ (pNr S.1 t) (by decide) (i64_m (by omega)) (by omega)) ?_
        refine aw_if_eqB dX10_at_22 rfl (fun h_22 => absurd h_22 (not_not_intro (ix_yes rfl hr (by omega)))) (fun h_22 => ?_)
        refine aw_iload_n dX10_at_25 rfl ?_
        refine aw_i2l dX10_at_26 ?_
        refine aw_lconst dX10_at_27 ?_
        refine aw_aload_n dX10_at_28 rfl ?_
        refine aw_iload_n dX10_at_29 rfl ?_
        refine cqi1 dX10_at_30 km10_152 ok_X10_columnsOf rfl rfl (by decide) k_176 (Nat.le_of_ble_eq_true rfl) ⟨Nat.le_of_ble_eq_true rfl, Nat.le_of_ble_eq_true rfl⟩ rfl rfl (ct_columnsF (G.tbf hK hV hs21 ht)) ?_
        refine aw_eq (show _ = nI (pNc S.1 t) by rw [Nat.add_sub_cancel]) ?_
        refine aw_ic (nI 1) dX10_at_33 (by decide) ?_
        refine aw_isub dX10_at_34 ?_
        refine aw_i2l dX10_at_35 ?_
        refine csq3 dX10_at_36 km10_64 ok_X10_in (Nat.le_of_ble_eq_true rfl) ⟨Nat.le_of_ble_eq_true rfl, Nat.le_of_ble_eq_true rfl⟩ rfl rfl (ct_inN _ (pNc S.1 t) (by decide) (i64_m (by omega)) (by omega)) ?_
        refine aw_if_neB dX10_at_39 rfl (fun h_39 => ?_) (fun h_39 => absurd h_39 (not_not_intro (ix_yes rfl hc (by omega))))
        refine aw_aload_n dX10_at_44 rfl ?_
        refine gf10_cellOf dX10_at_45 kf10_40 k_176 ?_
        refine aw_eqr (b := 187) rfl ?_
        refine aw_aload_n dX10_at_48 rfl ?_
        refine gf10_fieldFrom dX10_at_49 kf10_34 k_176 ?_
        refine aw_eqr (b := 185) rfl ?_
        refine aw_iload_n dX10_at_52 rfl ?_
        refine aw_ld (t) dX10_at_53 k_185 (rfl) (by omega) ?_
        refine aw_eq (f7 t (by omega)).1 ?_
        refine aw_iload_n dX10_at_54 rfl ?_
        refine aw_aload_n dX10_at_55 rfl ?_
        refine aw_iload_n dX10_at_56 rfl ?_
        refine cqi1 dX10_at_57 km10_152 ok_X10_columnsOf rfl rfl (by decide) k_176 (Nat.le_of_ble_eq_true rfl) ⟨Nat.le_of_ble_eq_true rfl, Nat.le_of_ble_eq_true rfl⟩ rfl rfl (ct_columnsF (G.tbf hK hV hs21 ht)) ?_
        refine aw_eq (show _ = nI (pNc S.1 t) by rw [Nat.add_sub_cancel]) ?_
        refine aw_imul dX10_at_60 ?_
        refine aw_eq (pk_mul _ _) ?_
        refine aw_iadd dX10_at_61 ?_
        refine aw_eq (nI_add _ _) ?_
        refine aw_iload_n dX10_at_62 rfl ?_
        refine aw_iadd dX10_at_63 ?_
        refine aw_eq (show _ = nI (pFF S.1 t + (r * pNc S.1 t + c)) by rw [nI_add, Nat.add_assoc]) ?_
        refine aw_ld (pFF S.1 t + (r * pNc S.1 t + c)) dX10_at_64 k_187 (rfl) (by omega) ?_
        refine aw_eq (f8 t _ ht hrc) ?_
        refine aw_aload_n dX10_at_65 rfl ?_
        refine gf10_cellFrom dX10_at_66 kf10_37 k_176 ?_
        refine aw_eqr (b := 186) rfl ?_
        refine aw_iload_n dX10_at_69 rfl ?_
        refine aw_ld (t) dX10_at_70 k_186 (rfl) (by omega) ?_
        refine aw_eq (f7 t (by omega)).2 ?_
        refine aw_isub dX10_at_71 ?_
        refine aw_eq (show _ = nI (pFc S.1 t (r * pNc S.1 t + c)) from (pk_sub (Nat.le_add_right _ _)).trans (congrArg nI (Nat.add_sub_cancel_left _ _))) ?_
        exact aw_ireti dX10_at_72 (⟨PoM.mk (by unfold aAt; rw [e]; dsimp only; rw [e3, e4]) hI1 hFr, hF⟩)

