set_option maxHeartbeats 4000000 in
set_option maxRecDepth 100000 in
theorem ct_Rows_has {g : GG} {σ : SG} {o : Nat} (hk : kd o = 5) (row : Int32) : Cti g yX5_has cX5_has 2 (some .boolean) (rmm 0 0) [.ref (ad g o), .int row] σ (fun r σ' => r = (if ¬ row < 0 ∧ ¬ σ.1 162 o ≤ row then 1 else 0) ∧ σ' = σ) := by
  refine ct_of (own := RX5) (lv := [some (.ref (ad g o)), some (.int row)]) rfl (by decide) (Nat.le_of_ble_eq_true rfl) (by intro u hu; simp only [List.mem_cons, List.not_mem_nil, or_false] at hu; rcases hu with rfl | rfl <;> rfl) (lv_ok [.ref (ad g o), .int row] 0) ?_
  refine aw_iload_n dX5_has_0 rfl ?_
  refine aw_if_lt dX5_has_1 (fun h_1 => ?_) (fun h_1 => ?_)
  · skip
    refine aw_ic (nI 0) dX5_has_16 (by decide) ?_
    exact aw_iretz dX5_has_17 (by decide) (by first | exact ⟨(if_pos (by simp_all)).symm, rfl⟩ | exact ⟨(if_neg (by simp_all)).symm, rfl⟩)
  · skip
    refine aw_iload_n dX5_has_4 rfl ?_
    refine aw_aload_n dX5_has_5 rfl ?_
    refine gf5_count dX5_has_6 kf5_25 hk ?_
    refine aw_icmp_ge dX5_has_9 (fun h_9 => ?_) (fun h_9 => ?_)
    · skip
      refine aw_ic (nI 0) dX5_has_16 (by decide) ?_
      exact aw_iretz dX5_has_17 (by decide) (by first | exact ⟨(if_pos (by simp_all)).symm, rfl⟩ | exact ⟨(if_neg (by simp_all)).symm, rfl⟩)
    · skip
      refine aw_ic (nI 1) dX5_has_12 (by decide) ?_
      refine aw_goto dX5_has_13 ?_
      exact aw_iretz dX5_has_17 (by decide) (by first | exact ⟨(if_pos (by simp_all)).symm, rfl⟩ | exact ⟨(if_neg (by simp_all)).symm, rfl⟩)

set_option maxHeartbeats 4000000 in
set_option maxRecDepth 100000 in
theorem ct_Rows_isFull {g : GG} {σ : SG} {o : Nat} (hk : kd o = 5) : Cti g yX5_isFull cX5_isFull 1 (some .boolean) (rmm 0 0) [.ref (ad g o)] σ (fun r σ' => r = (if ¬ σ.1 162 o < σ.1 161 o then 1 else 0) ∧ σ' = σ) := by
  refine ct_of (own := RX5) (lv := [some (.ref (ad g o))]) rfl (by decide) (Nat.le_of_ble_eq_true rfl) (by intro u hu; simp only [List.mem_cons, List.not_mem_nil, or_false] at hu; rcases hu with rfl <;> rfl) (lv_ok [.ref (ad g o)] 0) ?_
  refine aw_aload_n dX5_isFull_0 rfl ?_
  refine gf5_count dX5_isFull_1 kf5_25 hk ?_
  refine aw_aload_n dX5_isFull_4 rfl ?_
  refine gf5_most dX5_isFull_5 kf5_15 hk ?_
  refine aw_icmp_lt dX5_isFull_8 (fun h_8 => ?_) (fun h_8 => ?_)
  · skip
    refine aw_ic (nI 0) dX5_isFull_15 (by decide) ?_
    exact aw_iretz dX5_isFull_16 (by decide) (by first | exact ⟨(if_pos (by simp_all)).symm, rfl⟩ | exact ⟨(if_neg (by simp_all)).symm, rfl⟩)
  · skip
    refine aw_ic (nI 1) dX5_isFull_11 (by decide) ?_
    refine aw_goto dX5_isFull_12 ?_
    exact aw_iretz dX5_isFull_16 (by decide) (by first | exact ⟨(if_pos (by simp_all)).symm, rfl⟩ | exact ⟨(if_neg (by simp_all)).symm, rfl⟩)

set_option maxHeartbeats 4000000 in
set_option maxRecDepth 100000 in
theorem ct_Rows_number {g : GG} {σ : SG} {o c r w : Nat} (hk : kd o = 5) (hc : σ.1 162 o = nI c) (hcl : 4 * c ≤ ln (o + 1)) (hr : r < c) (hw : w < 4) : Cti g yX5_number cX5_number 4 (some .int) (rmm 0 0) [.ref (ad g o), .int (nI r), .int (nI w)] σ (fun v σ' => v = σ.2.1 (o + 1) (4 * r + w) ∧ σ' = σ) := by
  refine ct_of (own := RX5) (lv := [some (.ref (ad g o)), some (.int (nI r)), some (.int (nI w)), none]) rfl (by decide) (Nat.le_of_ble_eq_true rfl) (by intro u hu; simp only [List.mem_cons, List.not_mem_nil, or_false] at hu; rcases hu with rfl | rfl | rfl <;> rfl) (lv_ok [.ref (ad g o), .int (nI r), .int (nI w)] 1) ?_
  have hln := ln_lt (o + 1)
  refine aw_iload_n dX5_number_0 rfl ?_
  refine aw_if_lt dX5_number_1 (fun h_1 => absurd h_1 (nI_pos (by omega))) (fun h_1 => ?_)
  refine aw_iload_n dX5_number_4 rfl ?_
  refine aw_aload_n dX5_number_5 rfl ?_
  refine gf5_count dX5_number_6 kf5_25 hk ?_
  refine aw_eq hc ?_
  refine aw_icmp_geN dX5_number_9 rfl rfl (by omega) (by omega) (fun h_9 => absurd h_9 (by omega)) (fun h_9 => ?_)
  refine aw_iload_n dX5_number_12 rfl ?_
  refine aw_if_lt dX5_number_13 (fun h_13 => absurd h_13 (nI_pos (by omega))) (fun h_13 => ?_)
  refine aw_iload_n dX5_number_16 rfl ?_
  refine aw_ic (nI 4) dX5_number_17 (by decide) ?_
  refine aw_icmp_geN dX5_number_18 rfl rfl (by omega) (by omega) (fun h_18 => absurd h_18 (by omega)) (fun h_18 => ?_)
  refine aw_ic (nI 1) dX5_number_21 (by decide) ?_
  refine aw_goto dX5_number_22 ?_
  refine aw_istore_n dX5_number_26 (Nat.le_of_ble_eq_true rfl) ?_
  refine aw_iload_n dX5_number_27 rfl ?_
  refine aw_if_eqN dX5_number_28 (a := 1) rfl (by omega) (fun h_28 => absurd h_28 (by omega)) (fun h_28 => ?_)
  refine aw_aload_n dX5_number_31 rfl ?_
  refine gf5_numbers dX5_number_32 kf5_21 hk ?_
  refine aw_iload_n dX5_number_35 rfl ?_
  refine aw_ic (nI 4) dX5_number_36 (by decide) ?_
  refine aw_imul dX5_number_37 ?_
  refine aw_iload_n dX5_number_38 rfl ?_
  refine aw_iadd dX5_number_39 ?_
  refine aw_ld (4 * r + w) dX5_number_40 (kf_5_numbers hk) (by rw [pk_mul, nI_add, Nat.mul_comm]) (by omega) ?_
  refine aw_goto dX5_number_41 ?_
  exact aw_ireti dX5_number_46 (⟨rfl, rfl⟩)

set_option maxHeartbeats 4000000 in
set_option maxRecDepth 100000 in
theorem ct_Rows_add {g : GG} {σ : SG} {o c : Nat} (hk : kd o = 5) (hc : σ.1 162 o = nI c) (hcl : 4 * c + 4 ≤ ln (o + 1)) (hm : σ.1 162 o < σ.1 161 o) (x1 x2 x3 x4 : Int32) : Ctv g yX5_add cX5_add 6 (rmm 1 20) [.ref (ad g o), .int x1, .int x2, .int x3, .int x4] σ (fun σ' => σ' = (uI σ.1 162 o (nI (c + 1)), uA σ.2.1 (o + 1) (upd (upd (upd (upd (σ.2.1 (o + 1)) (4 * c) x1) (4 * c + 1) x2) (4 * c + 2) x3) (4 * c + 3) x4), σ.2.2)) := by
  refine ct_of (own := RX5) (lv := [some (.ref (ad g o)), some (.int x1), some (.int x2), some (.int x3), some (.int x4), none]) rfl (by decide) (Nat.le_of_ble_eq_true rfl) (by intro u hu; simp only [List.mem_cons, List.not_mem_nil, or_false] at hu; rcases hu with rfl | rfl | rfl | rfl | rfl <;> rfl) (lv_ok [.ref (ad g o), .int x1, .int x2, .int x3, .int x4] 1) ?_
  have hln := ln_lt (o + 1)
  refine aw_aload_n dX5_add_0 rfl ?_
  refine cqi0 dX5_add_1 km5_28 ok_X5_isFull rfl rfl (by decide) hk (Nat.le_of_ble_eq_true rfl) ⟨Nat.le_of_ble_eq_true rfl, Nat.le_of_ble_eq_true rfl⟩ rfl rfl (ct_Rows_isFull hk) ?_
  refine aw_if_eqB dX5_add_4 rfl (fun h_4 => ?_) (fun h_4 => absurd h_4 (not_not_intro hm))
  refine aw_aload_n dX5_add_8 rfl ?_
  refine gf5_count dX5_add_9 kf5_25 hk ?_
  refine aw_eq hc ?_
  refine aw_ic (nI 4) dX5_add_12 (by decide) ?_
  refine aw_imul dX5_add_13 ?_
  refine aw_eq (show _ = nI (4 * c) by rw [pk_mul, Nat.mul_comm]) ?_
  refine aw_istore dX5_add_14 (Nat.le_of_ble_eq_true rfl) ?_
  refine aw_aload_n dX5_add_16 rfl ?_
  refine gf5_numbers dX5_add_17 kf5_21 hk ?_
  refine aw_iload dX5_add_20 rfl ?_
  refine aw_iload_n dX5_add_22 rfl ?_
  refine aw_sto (4 * c) dX5_add_23 (kf_5_numbers hk) (rfl) (by omega) ?_
  refine aw_aload_n dX5_add_24 rfl ?_
  refine gf5_numbers dX5_add_25 kf5_21 hk ?_
  refine aw_iload dX5_add_28 rfl ?_
  refine aw_ic (nI 1) dX5_add_30 (by decide) ?_
  refine aw_iadd dX5_add_31 ?_
  refine aw_iload_n dX5_add_32 rfl ?_
  refine aw_sto (4 * c + 1) dX5_add_33 (kf_5_numbers hk) (by rw [nI_add]) (by omega) ?_
  refine aw_sg (show _ = (σ.1, uA σ.2.1 (o + 1) (upd (upd (σ.2.1 (o + 1)) (4 * c) x1) (4 * c + 1) x2), σ.2.2) by rw [uA_s, uA_uA]) ?_
  refine aw_aload_n dX5_add_34 rfl ?_
  refine gf5_numbers dX5_add_35 kf5_21 hk ?_
  refine aw_iload dX5_add_38 rfl ?_
  refine aw_ic (nI 2) dX5_add_40 (by decide) ?_
  refine aw_iadd dX5_add_41 ?_
  refine aw_iload_n dX5_add_42 rfl ?_
  refine aw_sto (4 * c + 2) dX5_add_43 (kf_5_numbers hk) (by rw [nI_add]) (by omega) ?_
  refine aw_sg (show _ = (σ.1, uA σ.2.1 (o + 1) (upd (upd (upd (σ.2.1 (o + 1)) (4 * c) x1) (4 * c + 1) x2) (4 * c + 2) x3), σ.2.2) by rw [uA_s, uA_uA]) ?_
  refine aw_aload_n dX5_add_44 rfl ?_
  refine gf5_numbers dX5_add_45 kf5_21 hk ?_
  refine aw_iload dX5_add_48 rfl ?_
  refine aw_ic (nI 3) dX5_add_50 (by decide) ?_
  refine aw_iadd dX5_add_51 ?_
  refine aw_iload dX5_add_52 rfl ?_
  refine aw_sto (4 * c + 3) dX5_add_54 (kf_5_numbers hk) (by rw [nI_add]) (by omega) ?_
  refine aw_sg (show _ = (σ.1, uA σ.2.1 (o + 1) (upd (upd (upd (upd (σ.2.1 (o + 1)) (4 * c) x1) (4 * c + 1) x2) (4 * c + 2) x3) (4 * c + 3) x4), σ.2.2) by rw [uA_s, uA_uA]) ?_
  refine aw_aload_n dX5_add_55 rfl ?_
  refine aw_dup dX5_add_56 rfl ?_
  refine gf5_count dX5_add_57 kf5_25 hk ?_
  refine aw_eq hc ?_
  refine aw_ic (nI 1) dX5_add_60 (by decide) ?_
  refine aw_iadd dX5_add_61 ?_
  refine aw_eq (show _ = nI (c + 1) by rw [nI_add]) ?_
  refine pf5_count dX5_add_62 kf5_25 hk ?_
  exact aw_ret dX5_add_65 (rfl)

set_option maxHeartbeats 4000000 in
set_option maxRecDepth 100000 in
theorem ct_Rows_remove {g : GG} {σ : SG} {o c r : Nat} (hk : kd o = 5) (hc : σ.1 162 o = nI c) (hcl : 4 * c ≤ ln (o + 1)) (hr : r < c) : Ctv g yX5_remove cX5_remove 4 (rmm 1 21) [.ref (ad g o), .int (nI r)] σ (fun σ' => σ' = (uI σ.1 162 o (nI (c - 1)), uA σ.2.1 (o + 1) (sh4 (σ.2.1 (o + 1)) (4 * r) (4 * (c - 1))), σ.2.2)) := by
  refine ct_of (own := RX5) (lv := [some (.ref (ad g o)), some (.int (nI r)), none, none]) rfl (by decide) (Nat.le_of_ble_eq_true rfl) (by intro u hu; simp only [List.mem_cons, List.not_mem_nil, or_false] at hu; rcases hu with rfl | rfl <;> rfl) (lv_ok [.ref (ad g o), .int (nI r)] 2) ?_
  have hln := ln_lt (o + 1)
  refine aw_aload_n dX5_remove_0 rfl ?_
  refine aw_iload_n dX5_remove_1 rfl ?_
  refine cqi1 dX5_remove_2 km5_32 ok_X5_has rfl rfl (by decide) hk (Nat.le_of_ble_eq_true rfl) ⟨Nat.le_of_ble_eq_true rfl, Nat.le_of_ble_eq_true rfl⟩ rfl rfl (ct_Rows_has hk (nI r)) ?_
  refine aw_if_neB dX5_remove_5 rfl (fun h_5 => ?_) (fun h_5 => absurd h_5 (not_not_intro ⟨nI_pos (by omega), by rw [hc]; exact nI_ge hr (by omega)⟩))
  refine aw_aload_n dX5_remove_9 rfl ?_
  refine gf5_count dX5_remove_10 kf5_25 hk ?_
  refine aw_eq hc ?_
  refine aw_ic (nI 1) dX5_remove_13 (by decide) ?_
  refine aw_isub dX5_remove_14 ?_
  refine aw_eq (show _ = nI (c - 1) from pk_sub (by omega)) ?_
  refine aw_ic (nI 4) dX5_remove_15 (by decide) ?_
  refine aw_imul dX5_remove_16 ?_
  refine aw_eq (show _ = nI (4 * (c - 1)) by rw [pk_mul, Nat.mul_comm]) ?_
  refine aw_istore_n dX5_remove_17 (Nat.le_of_ble_eq_true rfl) ?_
  refine aw_iload_n dX5_remove_18 rfl ?_
  refine aw_ic (nI 4) dX5_remove_19 (by decide) ?_
  refine aw_imul dX5_remove_20 ?_
  refine aw_eq (show _ = nI (4 * r) by rw [pk_mul, Nat.mul_comm]) ?_
  refine aw_istore_n dX5_remove_21 (Nat.le_of_ble_eq_true rfl) ?_
  refine for_up (fun i σ' => 4 * r ≤ i ∧ σ' = (σ.1, uA σ.2.1 (o + 1) (sh4 (σ.2.1 (o + 1)) (4 * r) i), σ.2.2)) (fun i => [some (.ref (ad g o)), some (.int (nI r)), some (.int (nI (4 * (c - 1)))), some (.int (nI i))]) (4 * (c - 1)) ?_ ?_ (4 * r) σ (by omega) ⟨Nat.le_refl _, by rw [sh4_0, uA_same]⟩
  · rintro i σ2 hi ⟨hi2, rfl⟩ ih
    refine aw_iload_n dX5_remove_22 rfl ?_
    refine aw_iload_n dX5_remove_23 rfl ?_
    refine aw_icmp_geN dX5_remove_24 rfl rfl (by omega) (by omega) (fun h_24 => absurd h_24 (by omega)) (fun h_24 => ?_)
    refine aw_aload_n dX5_remove_27 rfl ?_
    refine gf5_numbers dX5_remove_28 kf5_21 hk ?_
    refine aw_iload_n dX5_remove_31 rfl ?_
    refine aw_aload_n dX5_remove_32 rfl ?_
    refine gf5_numbers dX5_remove_33 kf5_21 hk ?_
    refine aw_iload_n dX5_remove_36 rfl ?_
    refine aw_ic (nI 4) dX5_remove_37 (by decide) ?_
    refine aw_iadd dX5_remove_38 ?_
    refine aw_ld (i + 4) dX5_remove_39 (kf_5_numbers hk) (by rw [nI_add]) (by omega) ?_
    refine aw_sto (i) dX5_remove_40 (kf_5_numbers hk) (rfl) (by omega) ?_
    refine aw_inc (nI (i + 1)) dX5_remove_41 rfl (Nat.le_of_ble_eq_true rfl) (nI_1 i) ?_
    refine aw_goto dX5_remove_44 ?_
    exact ih _ ⟨by omega, by rw [uA_s, uA_uA, sh4_s hi2]⟩
  · rintro σ2 ⟨hi2, rfl⟩
    refine aw_iload_n dX5_remove_22 rfl ?_
    refine aw_iload_n dX5_remove_23 rfl ?_
    refine aw_icmp_geN dX5_remove_24 rfl rfl (by omega) (by omega) (fun h_24 => ?_) (fun h_24 => absurd h_24 (by omega))
    refine aw_aload_n dX5_remove_47 rfl ?_
    refine aw_dup dX5_remove_48 rfl ?_
    refine gf5_count dX5_remove_49 kf5_25 hk ?_
    refine aw_eq hc ?_
    refine aw_ic (nI 1) dX5_remove_52 (by decide) ?_
    refine aw_isub dX5_remove_53 ?_
    refine aw_eq (show _ = nI (c - 1) from pk_sub (by omega)) ?_
    refine pf5_count dX5_remove_54 kf5_25 hk ?_
    exact aw_ret dX5_remove_57 (rfl)

set_option maxHeartbeats 4000000 in
set_option maxRecDepth 100000 in
theorem ct_Rows_take {g : GG} {σ : SG} {o o2 c : Nat} (hk : kd o = 5) (hk2 : kd o2 = 5) (hne0 : o2 ≠ o) (hm : σ.1 161 o2 = σ.1 161 o) (hc : σ.1 162 o2 = nI c) (hcl : 4 * c ≤ ln (o + 1)) (hcl2 : 4 * c ≤ ln (o2 + 1)) : Ctv g yX5_take cX5_take 3 (rmm 0 0) [.ref (ad g o), .ref (ad g o2)] σ (fun σ' => σ' = (uI σ.1 162 o (nI c), uA σ.2.1 (o + 1) (cp_ (σ.2.1 (o + 1)) (σ.2.1 (o2 + 1)) (4 * c)), σ.2.2)) := by
  refine ct_of (own := RX5) (lv := [some (.ref (ad g o)), some (.ref (ad g o2)), none]) rfl (by decide) (Nat.le_of_ble_eq_true rfl) (by intro u hu; simp only [List.mem_cons, List.not_mem_nil, or_false] at hu; rcases hu with rfl | rfl <;> rfl) (lv_ok [.ref (ad g o), .ref (ad g o2)] 1) ?_
  have hln := ln_lt (o + 1)
  have hne : o2 + 1 ≠ o + 1 := by omega
  refine aw_aload_n dX5_take_0 rfl ?_
  refine gf5_most dX5_take_1 kf5_15 hk2 ?_
  refine aw_aload_n dX5_take_4 rfl ?_
  refine gf5_most dX5_take_5 kf5_15 hk ?_
  refine aw_icmp_eq dX5_take_8 (fun _ => ?_) (fun h => absurd hm h)
  refine aw_aload_n dX5_take_12 rfl ?_
  refine aw_aload_n dX5_take_13 rfl ?_
  refine gf5_count dX5_take_14 kf5_25 hk2 ?_
  refine aw_eq hc ?_
  refine pf5_count dX5_take_17 kf5_25 hk ?_
  refine aw_ic (nI 0) dX5_take_20 (by decide) ?_
  refine aw_istore_n dX5_take_21 (Nat.le_of_ble_eq_true rfl) ?_
  refine for_up (fun i σ' => σ' = (uI σ.1 162 o (nI c), uA σ.2.1 (o + 1) (cp_ (σ.2.1 (o + 1)) (σ.2.1 (o2 + 1)) i), σ.2.2)) (fun i => [some (.ref (ad g o)), some (.ref (ad g o2)), some (.int (nI i))]) (4 * c) ?_ ?_ 0 _ (Nat.zero_le _) (by rw [cp_0, uA_same])
  · rintro i σ2 hi rfl ih
    refine aw_iload_n dX5_take_22 rfl ?_
    refine aw_aload_n dX5_take_23 rfl ?_
    refine gf5_count dX5_take_24 kf5_25 hk ?_
    refine aw_eq (uI_s _ _ _ _) ?_
    refine aw_ic (nI 4) dX5_take_27 (by decide) ?_
    refine aw_imul dX5_take_28 ?_
    refine aw_eq (show _ = nI (4 * c) by rw [pk_mul, Nat.mul_comm]) ?_
    refine aw_icmp_geN dX5_take_29 rfl rfl (by omega) (by omega) (fun h_29 => absurd h_29 (by omega)) (fun h_29 => ?_)
    refine aw_aload_n dX5_take_32 rfl ?_
    refine gf5_numbers dX5_take_33 kf5_21 hk ?_
    refine aw_iload_n dX5_take_36 rfl ?_
    refine aw_aload_n dX5_take_37 rfl ?_
    refine gf5_numbers dX5_take_38 kf5_21 hk2 ?_
    refine aw_iload_n dX5_take_41 rfl ?_
    refine aw_ld (i) dX5_take_42 (kf_5_numbers hk2) (rfl) (by omega) ?_
    refine aw_eq (show _ = σ.2.1 (o2 + 1) i by rw [uA_n hne]) ?_
    refine aw_sto (i) dX5_take_43 (kf_5_numbers hk) (rfl) (by omega) ?_
    refine aw_inc (nI (i + 1)) dX5_take_44 rfl (Nat.le_of_ble_eq_true rfl) (nI_1 i) ?_
    refine aw_goto dX5_take_47 ?_
    exact ih _ (by rw [uA_s, uA_uA, cp_s])
  · rintro σ2 rfl
    refine aw_iload_n dX5_take_22 rfl ?_
    refine aw_aload_n dX5_take_23 rfl ?_
    refine gf5_count dX5_take_24 kf5_25 hk ?_
    refine aw_eq (uI_s _ _ _ _) ?_
    refine aw_ic (nI 4) dX5_take_27 (by decide) ?_
    refine aw_imul dX5_take_28 ?_
    refine aw_eq (show _ = nI (4 * c) by rw [pk_mul, Nat.mul_comm]) ?_
    refine aw_icmp_geN dX5_take_29 rfl rfl (by omega) (by omega) (fun h_29 => ?_) (fun h_29 => absurd h_29 (by omega))
    exact aw_ret dX5_take_50 (rfl)

