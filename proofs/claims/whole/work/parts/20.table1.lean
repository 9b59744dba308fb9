theorem rc_inj {n r c r' c' : Nat} (hc : c < n) (hc' : c' < n) (h : r * n + c = r' * n + c') : r = r' ∧ c = c' := by
  have h1 : (r * n + c) / n = r := by rw [Nat.mul_comm, Nat.mul_add_div (by omega), Nat.div_eq_of_lt hc, Nat.add_zero]
  have h2 : (r' * n + c') / n = r' := by rw [Nat.mul_comm, Nat.mul_add_div (by omega), Nat.div_eq_of_lt hc', Nat.add_zero]
  have h3 : r = r' := by rw [← h1, h, h2]
  subst h3
  exact ⟨rfl, by omega⟩
theorem rc_lt {n m r c : Nat} (hr : r < m) (hc : c < n) : r * n + c < m * n := by
  have : (r + 1) * n ≤ m * n := Nat.mul_le_mul_right n hr
  rw [Nat.succ_mul] at this
  omega
/-- the place of a side among the sides -/
def sidx (nr nc w r c : Nat) : Nat := if w = 0 then r * nc + c else (nr + 1) * nc + (r * (nc + 1) + c)
/-- there is such a side -/
def sdIn (nr nc w r c : Nat) : Prop := (w = 0 ∧ r ≤ nr ∧ c < nc) ∨ (w = 1 ∧ r < nr ∧ c ≤ nc)
theorem sidx_lt {nr nc w r c : Nat} (h : sdIn nr nc w r c) : sidx nr nc w r c < (nr + 1) * nc + nr * (nc + 1) := by
  unfold sidx
  rcases h with ⟨rfl, h1, h2⟩ | ⟨rfl, h1, h2⟩
  · rw [if_pos rfl]
    have := rc_lt (show r < nr + 1 by omega) h2
    omega
  · rw [if_neg (by decide)]
    have := rc_lt h1 (show c < nc + 1 by omega)
    omega
theorem sidx_inj {nr nc w r c w' r' c' : Nat} (h : sdIn nr nc w r c) (h' : sdIn nr nc w' r' c') (e : sidx nr nc w r c = sidx nr nc w' r' c') : w = w' ∧ r = r' ∧ c = c' := by
  unfold sidx at e
  rcases h with ⟨rfl, h1, h2⟩ | ⟨rfl, h1, h2⟩
  · have l1 := rc_lt (show r < nr + 1 by omega) h2
    rcases h' with ⟨rfl, h3, h4⟩ | ⟨rfl, h3, h4⟩
    · rw [if_pos rfl, if_pos rfl] at e
      exact ⟨rfl, rc_inj h2 h4 e⟩
    · rw [if_pos rfl, if_neg (by decide)] at e
      omega
  · rcases h' with ⟨rfl, h3, h4⟩ | ⟨rfl, h3, h4⟩
    · have l1 := rc_lt (show r' < nr + 1 by omega) h4
      rw [if_neg (by decide), if_pos rfl] at e
      omega
    · rw [if_neg (by decide), if_neg (by decide)] at e
      exact ⟨rfl, rc_inj (show c < nc + 1 by omega) (show c' < nc + 1 by omega) (by omega)⟩
/-- a table with so many rows and columns, and its room -/
def TaD (σ : SG) (o nr nc : Nat) : Prop := kd o = 8 ∧ σ.1 258 o = nI nr ∧ σ.1 259 o = nI nc ∧ 1 ≤ nr ∧ 1 ≤ nc ∧ nr ≤ 21 ∧ nc ≤ 21 ∧ (nr + 1) * nc + nr * (nc + 1) ≤ ln (o + 6) ∧ nr * nc ≤ ln (o + 7)
theorem ln_t6 {o : Nat} (h : kd o = 8) : ln (o + 6) ≤ 264 := kd_all (P := fun o => ln (o + 6) ≤ 264) 8 (by decide) (by decide +kernel) h
theorem ln_t7 {o : Nat} (h : kd o = 8) : ln (o + 7) ≤ 121 := kd_all (P := fun o => ln (o + 7) ≤ 121) 8 (by decide) (by decide +kernel) h
theorem ln_t8 {o : Nat} (h : kd o = 8) : ln (o + 8) = 7 ∧ ln (o + 16) = 3 := kd_all (P := fun o => ln (o + 8) = 7 ∧ ln (o + 16) = 3) 8 (by decide) (by decide +kernel) h
theorem ln_t9 {o j : Nat} (h : kd o = 8) (hj : j < 7) : ln (o + 8 + 1 + j) = ln (o + 7) ∧ kd (o + 8 + 1 + j) = 11 := kd_all (P := fun o => ∀ j, j < 7 → ln (o + 8 + 1 + j) = ln (o + 7) ∧ kd (o + 8 + 1 + j) = 11) 8 (by decide) (by decide +kernel) h j hj
theorem ln_t17 {o j : Nat} (h : kd o = 8) (hj : j < 3) : ln (o + 16 + 1 + j) = ln (o + 7) ∧ kd (o + 16 + 1 + j) = 11 := kd_all (P := fun o => ∀ j, j < 3 → ln (o + 16 + 1 + j) = ln (o + 7) ∧ kd (o + 16 + 1 + j) = 11) 8 (by decide) (by decide +kernel) h j hj
set_option maxHeartbeats 4000000 in
set_option maxRecDepth 100000 in
theorem ct_sideOf0 {g : GG} {σ : SG} {o nr nc r c : Nat} (hT : TaD σ o nr nc) (h1 : r ≤ nr) (h2 : c < nc) : Cti g yX8_sideOf cX8_sideOf 7 (some .int) (rmm 0 0) [.ref (ad g o), .int (nI 0), .int (nI r), .int (nI c)] σ (fun x σ' => x = nI (sidx nr nc 0 r c) ∧ σ' = σ) := by
  refine ct_of (own := RX8) (lv := [some (.ref (ad g o)), some (.int (nI 0)), some (.int (nI r)), some (.int (nI c)), none, none, none]) rfl (by decide) (Nat.le_of_ble_eq_true rfl) (by intro u hu; simp only [List.mem_cons, List.not_mem_nil, or_false] at hu; rcases hu with rfl | rfl | rfl | rfl <;> rfl) (lv_ok [.ref (ad g o), .int (nI 0), .int (nI r), .int (nI c)] 3) ?_
  obtain ⟨hk, hr, hc, r1, c1, r2, c2, cap6, cap7⟩ := hT
  have hl6 := ln_t6 hk
  have hl7 := ln_t7 hk
  have hrr : r < 2 ^ 31 := by omega
  have hcc : c < 2 ^ 31 := by omega
  refine aw_iload_n dX8_sideOf_0 rfl ?_
  refine aw_if_neN dX8_sideOf_1 (a := 0) rfl (by omega) (fun h_1 => absurd h_1 (by omega)) (fun h_1 => ?_)
  refine aw_aload_n dX8_sideOf_4 rfl ?_
  refine gf8_rows dX8_sideOf_5 kf8_110 hk ?_
  refine aw_eq hr ?_
  refine aw_goto dX8_sideOf_8 ?_
  refine aw_istore dX8_sideOf_17 (Nat.le_of_ble_eq_true rfl) ?_
  refine aw_iload_n dX8_sideOf_19 rfl ?_
  refine aw_ic (nI 1) dX8_sideOf_20 (by decide) ?_
  refine aw_icmp_neN dX8_sideOf_21 rfl rfl (by omega) (by omega) (fun h_21 => ?_) (fun h_21 => absurd h_21 (by omega))
  refine aw_aload_n dX8_sideOf_31 rfl ?_
  refine gf8_columns dX8_sideOf_32 kf8_113 hk ?_
  refine aw_eq hc ?_
  refine aw_ic (nI 1) dX8_sideOf_35 (by decide) ?_
  refine aw_isub dX8_sideOf_36 ?_
  refine aw_eq (show _ = nI (nc - 1) from pk_sub (by omega)) ?_
  refine aw_istore dX8_sideOf_37 (Nat.le_of_ble_eq_true rfl) ?_
  refine aw_iload_n dX8_sideOf_39 rfl ?_
  refine aw_if_lt dX8_sideOf_40 (fun h_40 => absurd h_40 (nI_pos hrr)) (fun h_40 => ?_)
  refine aw_iload_n dX8_sideOf_43 rfl ?_
  refine aw_iload dX8_sideOf_44 rfl ?_
  refine aw_icmp_gtN dX8_sideOf_46 rfl rfl (by omega) (by omega) (fun h_46 => absurd h_46 (by omega)) (fun h_46 => ?_)
  refine aw_iload_n dX8_sideOf_49 rfl ?_
  refine aw_if_lt dX8_sideOf_50 (fun h_50 => absurd h_50 (nI_pos hcc)) (fun h_50 => ?_)
  refine aw_iload_n dX8_sideOf_53 rfl ?_
  refine aw_iload dX8_sideOf_54 rfl ?_
  refine aw_icmp_leN dX8_sideOf_56 rfl rfl (by omega) (by omega) (fun h_56 => ?_) (fun h_56 => absurd h_56 (by omega))
  refine aw_iload_n dX8_sideOf_62 rfl ?_
  refine aw_if_neN dX8_sideOf_63 (a := 0) rfl (by omega) (fun h_63 => absurd h_63 (by omega)) (fun h_63 => ?_)
  refine aw_ic (nI 0) dX8_sideOf_66 (by decide) ?_
  refine aw_goto dX8_sideOf_67 ?_
  refine aw_istore dX8_sideOf_81 (Nat.le_of_ble_eq_true rfl) ?_
  refine aw_iload dX8_sideOf_83 rfl ?_
  refine aw_iload_n dX8_sideOf_85 rfl ?_
  refine aw_iload dX8_sideOf_86 rfl ?_
  refine aw_ic (nI 1) dX8_sideOf_88 (by decide) ?_
  refine aw_iadd dX8_sideOf_89 ?_
  refine aw_eq (show _ = nI (nc - 1 + 1) by rw [nI_add]) ?_
  refine aw_imul dX8_sideOf_90 ?_
  refine aw_eq (pk_mul r _) ?_
  refine aw_iadd dX8_sideOf_91 ?_
  refine aw_eq (nI_add _ _) ?_
  refine aw_iload_n dX8_sideOf_92 rfl ?_
  refine aw_iadd dX8_sideOf_93 ?_
  refine aw_eq (nI_add _ _) ?_
  exact aw_ireti dX8_sideOf_94 (⟨by unfold sidx; rw [if_pos rfl, Nat.zero_add, Nat.sub_add_cancel c1], rfl⟩)

set_option maxHeartbeats 4000000 in
set_option maxRecDepth 100000 in
theorem ct_sideNo0 {g : GG} {σ : SG} {o nr nc : Nat} (hT : TaD σ o nr nc) (row col : Int32) (hout : row < 0 ∨ nI (nr) < row ∨ col < 0 ∨ nI (nc - 1) < col) : Cti g yX8_sideOf cX8_sideOf 7 (some .int) (rmm 0 0) [.ref (ad g o), .int (nI 0), .int row, .int col] σ (fun x σ' => x = -6 ∧ σ' = σ) := by
  refine ct_of (own := RX8) (lv := [some (.ref (ad g o)), some (.int (nI 0)), some (.int row), some (.int col), none, none, none]) rfl (by decide) (Nat.le_of_ble_eq_true rfl) (by intro u hu; simp only [List.mem_cons, List.not_mem_nil, or_false] at hu; rcases hu with rfl | rfl | rfl | rfl <;> rfl) (lv_ok [.ref (ad g o), .int (nI 0), .int row, .int col] 3) ?_
  obtain ⟨hk, hr, hc, r1, c1, r2, c2, cap6, cap7⟩ := hT
  have hl6 := ln_t6 hk
  have hl7 := ln_t7 hk
  
  refine aw_iload_n dX8_sideOf_0 rfl ?_
  refine aw_if_neN dX8_sideOf_1 (a := 0) rfl (by omega) (fun h_1 => absurd h_1 (by omega)) (fun h_1 => ?_)
  refine aw_aload_n dX8_sideOf_4 rfl ?_
  refine gf8_rows dX8_sideOf_5 kf8_110 hk ?_
  refine aw_eq hr ?_
  refine aw_goto dX8_sideOf_8 ?_
  refine aw_istore dX8_sideOf_17 (Nat.le_of_ble_eq_true rfl) ?_
  refine aw_iload_n dX8_sideOf_19 rfl ?_
  refine aw_ic (nI 1) dX8_sideOf_20 (by decide) ?_
  refine aw_icmp_neN dX8_sideOf_21 rfl rfl (by omega) (by omega) (fun h_21 => ?_) (fun h_21 => absurd h_21 (by omega))
  refine aw_aload_n dX8_sideOf_31 rfl ?_
  refine gf8_columns dX8_sideOf_32 kf8_113 hk ?_
  refine aw_eq hc ?_
  refine aw_ic (nI 1) dX8_sideOf_35 (by decide) ?_
  refine aw_isub dX8_sideOf_36 ?_
  refine aw_eq (show _ = nI (nc - 1) from pk_sub (by omega)) ?_
  refine aw_istore dX8_sideOf_37 (Nat.le_of_ble_eq_true rfl) ?_
  refine aw_iload_n dX8_sideOf_39 rfl ?_
  refine aw_if_lt dX8_sideOf_40 (fun h_40 => ?_) (fun h_40 => ?_)
  · skip
    refine aw_bi (-6) dX8_sideOf_59 (by decide) ?_
    exact aw_ireti dX8_sideOf_61 (⟨rfl, rfl⟩)
  · skip
    refine aw_iload_n dX8_sideOf_43 rfl ?_
    refine aw_iload dX8_sideOf_44 rfl ?_
    refine aw_icmp_gt dX8_sideOf_46 (fun h_46 => ?_) (fun h_46 => ?_)
    · skip
      refine aw_bi (-6) dX8_sideOf_59 (by decide) ?_
      exact aw_ireti dX8_sideOf_61 (⟨rfl, rfl⟩)
    · skip
      refine aw_iload_n dX8_sideOf_49 rfl ?_
      refine aw_if_lt dX8_sideOf_50 (fun h_50 => ?_) (fun h_50 => ?_)
      · skip
        refine aw_bi (-6) dX8_sideOf_59 (by decide) ?_
        exact aw_ireti dX8_sideOf_61 (⟨rfl, rfl⟩)
      · skip
        refine aw_iload_n dX8_sideOf_53 rfl ?_
        refine aw_iload dX8_sideOf_54 rfl ?_
        refine aw_icmp_le dX8_sideOf_56 (fun h_56 => absurd h_56 (fun q => by
          rcases hout with z | z | z | z
          · exact h_40 z
          · exact h_46 z
          · exact h_50 z
          · exact absurd z (Int32.not_lt.mpr q))) (fun h_56 => ?_)
        refine aw_bi (-6) dX8_sideOf_59 (by decide) ?_
        exact aw_ireti dX8_sideOf_61 (⟨rfl, rfl⟩)

set_option maxHeartbeats 4000000 in
set_option maxRecDepth 100000 in
theorem ct_sideOf1 {g : GG} {σ : SG} {o nr nc r c : Nat} (hT : TaD σ o nr nc) (h1 : r < nr) (h2 : c ≤ nc) : Cti g yX8_sideOf cX8_sideOf 7 (some .int) (rmm 0 0) [.ref (ad g o), .int (nI 1), .int (nI r), .int (nI c)] σ (fun x σ' => x = nI (sidx nr nc 1 r c) ∧ σ' = σ) := by
  refine ct_of (own := RX8) (lv := [some (.ref (ad g o)), some (.int (nI 1)), some (.int (nI r)), some (.int (nI c)), none, none, none]) rfl (by decide) (Nat.le_of_ble_eq_true rfl) (by intro u hu; simp only [List.mem_cons, List.not_mem_nil, or_false] at hu; rcases hu with rfl | rfl | rfl | rfl <;> rfl) (lv_ok [.ref (ad g o), .int (nI 1), .int (nI r), .int (nI c)] 3) ?_
  obtain ⟨hk, hr, hc, r1, c1, r2, c2, cap6, cap7⟩ := hT
  have hl6 := ln_t6 hk
  have hl7 := ln_t7 hk
  have hrr : r < 2 ^ 31 := by omega
  have hcc : c < 2 ^ 31 := by omega
  refine aw_iload_n dX8_sideOf_0 rfl ?_
  refine aw_if_neN dX8_sideOf_1 (a := 1) rfl (by omega) (fun h_1 => ?_) (fun h_1 => absurd h_1 (by omega))
  refine aw_aload_n dX8_sideOf_11 rfl ?_
  refine gf8_rows dX8_sideOf_12 kf8_110 hk ?_
  refine aw_eq hr ?_
  refine aw_ic (nI 1) dX8_sideOf_15 (by decide) ?_
  refine aw_isub dX8_sideOf_16 ?_
  refine aw_eq (show _ = nI (nr - 1) from pk_sub (by omega)) ?_
  refine aw_istore dX8_sideOf_17 (Nat.le_of_ble_eq_true rfl) ?_
  refine aw_iload_n dX8_sideOf_19 rfl ?_
  refine aw_ic (nI 1) dX8_sideOf_20 (by decide) ?_
  refine aw_icmp_neN dX8_sideOf_21 rfl rfl (by omega) (by omega) (fun h_21 => absurd h_21 (by omega)) (fun h_21 => ?_)
  refine aw_aload_n dX8_sideOf_24 rfl ?_
  refine gf8_columns dX8_sideOf_25 kf8_113 hk ?_
  refine aw_eq hc ?_
  refine aw_goto dX8_sideOf_28 ?_
  refine aw_istore dX8_sideOf_37 (Nat.le_of_ble_eq_true rfl) ?_
  refine aw_iload_n dX8_sideOf_39 rfl ?_
  refine aw_if_lt dX8_sideOf_40 (fun h_40 => absurd h_40 (nI_pos hrr)) (fun h_40 => ?_)
  refine aw_iload_n dX8_sideOf_43 rfl ?_
  refine aw_iload dX8_sideOf_44 rfl ?_
  refine aw_icmp_gtN dX8_sideOf_46 rfl rfl (by omega) (by omega) (fun h_46 => absurd h_46 (by omega)) (fun h_46 => ?_)
  refine aw_iload_n dX8_sideOf_49 rfl ?_
  refine aw_if_lt dX8_sideOf_50 (fun h_50 => absurd h_50 (nI_pos hcc)) (fun h_50 => ?_)
  refine aw_iload_n dX8_sideOf_53 rfl ?_
  refine aw_iload dX8_sideOf_54 rfl ?_
  refine aw_icmp_leN dX8_sideOf_56 rfl rfl (by omega) (by omega) (fun h_56 => ?_) (fun h_56 => absurd h_56 (by omega))
  refine aw_iload_n dX8_sideOf_62 rfl ?_
  refine aw_if_neN dX8_sideOf_63 (a := 1) rfl (by omega) (fun h_63 => ?_) (fun h_63 => absurd h_63 (by omega))
  refine aw_aload_n dX8_sideOf_70 rfl ?_
  refine gf8_rows dX8_sideOf_71 kf8_110 hk ?_
  refine aw_eq hr ?_
  refine aw_ic (nI 1) dX8_sideOf_74 (by decide) ?_
  refine aw_iadd dX8_sideOf_75 ?_
  refine aw_eq (nI_1 nr) ?_
  refine aw_aload_n dX8_sideOf_76 rfl ?_
  refine gf8_columns dX8_sideOf_77 kf8_113 hk ?_
  refine aw_eq hc ?_
  refine aw_imul dX8_sideOf_80 ?_
  refine aw_eq (pk_mul (nr + 1) nc) ?_
  refine aw_istore dX8_sideOf_81 (Nat.le_of_ble_eq_true rfl) ?_
  refine aw_iload dX8_sideOf_83 rfl ?_
  refine aw_iload_n dX8_sideOf_85 rfl ?_
  refine aw_iload dX8_sideOf_86 rfl ?_
  refine aw_ic (nI 1) dX8_sideOf_88 (by decide) ?_
  refine aw_iadd dX8_sideOf_89 ?_
  refine aw_eq (show _ = nI (nc + 1) by rw [nI_add]) ?_
  refine aw_imul dX8_sideOf_90 ?_
  refine aw_eq (pk_mul r _) ?_
  refine aw_iadd dX8_sideOf_91 ?_
  refine aw_eq (nI_add _ _) ?_
  refine aw_iload_n dX8_sideOf_92 rfl ?_
  refine aw_iadd dX8_sideOf_93 ?_
  refine aw_eq (nI_add _ _) ?_
  exact aw_ireti dX8_sideOf_94 (⟨by unfold sidx; rw [if_neg (by decide), Nat.add_assoc], rfl⟩)

set_option maxHeartbeats 4000000 in
set_option maxRecDepth 100000 in
theorem ct_sideNo1 {g : GG} {σ : SG} {o nr nc : Nat} (hT : TaD σ o nr nc) (row col : Int32) (hout : row < 0 ∨ nI (nr - 1) < row ∨ col < 0 ∨ nI (nc) < col) : Cti g yX8_sideOf cX8_sideOf 7 (some .int) (rmm 0 0) [.ref (ad g o), .int (nI 1), .int row, .int col] σ (fun x σ' => x = -6 ∧ σ' = σ) := by
  refine ct_of (own := RX8) (lv := [some (.ref (ad g o)), some (.int (nI 1)), some (.int row), some (.int col), none, none, none]) rfl (by decide) (Nat.le_of_ble_eq_true rfl) (by intro u hu; simp only [List.mem_cons, List.not_mem_nil, or_false] at hu; rcases hu with rfl | rfl | rfl | rfl <;> rfl) (lv_ok [.ref (ad g o), .int (nI 1), .int row, .int col] 3) ?_
  obtain ⟨hk, hr, hc, r1, c1, r2, c2, cap6, cap7⟩ := hT
  have hl6 := ln_t6 hk
  have hl7 := ln_t7 hk
  
  refine aw_iload_n dX8_sideOf_0 rfl ?_
  refine aw_if_neN dX8_sideOf_1 (a := 1) rfl (by omega) (fun h_1 => ?_) (fun h_1 => absurd h_1 (by omega))
  refine aw_aload_n dX8_sideOf_11 rfl ?_
  refine gf8_rows dX8_sideOf_12 kf8_110 hk ?_
  refine aw_eq hr ?_
  refine aw_ic (nI 1) dX8_sideOf_15 (by decide) ?_
  refine aw_isub dX8_sideOf_16 ?_
  refine aw_eq (show _ = nI (nr - 1) from pk_sub (by omega)) ?_
  refine aw_istore dX8_sideOf_17 (Nat.le_of_ble_eq_true rfl) ?_
  refine aw_iload_n dX8_sideOf_19 rfl ?_
  refine aw_ic (nI 1) dX8_sideOf_20 (by decide) ?_
  refine aw_icmp_neN dX8_sideOf_21 rfl rfl (by omega) (by omega) (fun h_21 => absurd h_21 (by omega)) (fun h_21 => ?_)
  refine aw_aload_n dX8_sideOf_24 rfl ?_
  refine gf8_columns dX8_sideOf_25 kf8_113 hk ?_
  refine aw_eq hc ?_
  refine aw_goto dX8_sideOf_28 ?_
  refine aw_istore dX8_sideOf_37 (Nat.le_of_ble_eq_true rfl) ?_
  refine aw_iload_n dX8_sideOf_39 rfl ?_
  refine aw_if_lt dX8_sideOf_40 (fun h_40 => ?_) (fun h_40 => ?_)
  · skip
    refine aw_bi (-6) dX8_sideOf_59 (by decide) ?_
    exact aw_ireti dX8_sideOf_61 (⟨rfl, rfl⟩)
  · skip
    refine aw_iload_n dX8_sideOf_43 rfl ?_
    refine aw_iload dX8_sideOf_44 rfl ?_
    refine aw_icmp_gt dX8_sideOf_46 (fun h_46 => ?_) (fun h_46 => ?_)
    · skip
      refine aw_bi (-6) dX8_sideOf_59 (by decide) ?_
      exact aw_ireti dX8_sideOf_61 (⟨rfl, rfl⟩)
    · skip
      refine aw_iload_n dX8_sideOf_49 rfl ?_
      refine aw_if_lt dX8_sideOf_50 (fun h_50 => ?_) (fun h_50 => ?_)
      · skip
        refine aw_bi (-6) dX8_sideOf_59 (by decide) ?_
        exact aw_ireti dX8_sideOf_61 (⟨rfl, rfl⟩)
      · skip
        refine aw_iload_n dX8_sideOf_53 rfl ?_
        refine aw_iload dX8_sideOf_54 rfl ?_
        refine aw_icmp_le dX8_sideOf_56 (fun h_56 => absurd h_56 (fun q => by
          rcases hout with z | z | z | z
          · exact h_40 z
          · exact h_46 z
          · exact h_50 z
          · exact absurd z (Int32.not_lt.mpr q))) (fun h_56 => ?_)
        refine aw_bi (-6) dX8_sideOf_59 (by decide) ?_
        exact aw_ireti dX8_sideOf_61 (⟨rfl, rfl⟩)

theorem ct_sideOf {g : GG} {σ : SG} {o nr nc w r c : Nat} (hT : TaD σ o nr nc) (h : sdIn nr nc w r c) : Cti g yX8_sideOf cX8_sideOf 7 (some .int) (rmm 0 0) [.ref (ad g o), .int (nI w), .int (nI r), .int (nI c)] σ (fun x σ' => x = nI (sidx nr nc w r c) ∧ σ' = σ) := by
  rcases h with ⟨rfl, h1, h2⟩ | ⟨rfl, h1, h2⟩
  · exact ct_sideOf0 hT h1 h2
  · exact ct_sideOf1 hT h1 h2
/-- which sides are ruled -/
def SdN (σ : SG) (o nr nc : Nat) (sd : Nat → Nat → Nat → Bool) : Prop := ∀ w r c, sdIn nr nc w r c → σ.2.1 (o + 6) (sidx nr nc w r c) = (if sd w r c = true then 1 else 0)
set_option maxHeartbeats 4000000 in
set_option maxRecDepth 100000 in
theorem ct_hasRuled {g : GG} {σ : SG} {o nr nc w r c : Nat} {sd : Nat → Nat → Nat → Bool} (hT : TaD σ o nr nc) (hS : SdN σ o nr nc sd) (hi : sdIn nr nc w r c) : Cti g yX8_hasRuled cX8_hasRuled 5 (some .boolean) (rmm 1 26) [.ref (ad g o), .int (nI w), .int (nI r), .int (nI c)] σ (fun x σ' => x = (if sd w r c = true then 1 else 0) ∧ σ' = σ) := by
  refine ct_of (own := RX8) (lv := [some (.ref (ad g o)), some (.int (nI w)), some (.int (nI r)), some (.int (nI c)), none]) rfl (by decide) (Nat.le_of_ble_eq_true rfl) (by intro u hu; simp only [List.mem_cons, List.not_mem_nil, or_false] at hu; rcases hu with rfl | rfl | rfl | rfl <;> rfl) (lv_ok [.ref (ad g o), .int (nI w), .int (nI r), .int (nI c)] 1) ?_
  have hT0 := hT
  have hix := sidx_lt hi
  obtain ⟨hk, hr, hc, r1, c1, r2, c2, cap6, cap7⟩ := hT
  have hl6 := ln_t6 hk
  have hl7 := ln_t7 hk
  
  refine aw_aload_n dX8_hasRuled_0 rfl ?_
  refine aw_iload_n dX8_hasRuled_1 rfl ?_
  refine aw_iload_n dX8_hasRuled_2 rfl ?_
  refine aw_iload_n dX8_hasRuled_3 rfl ?_
  refine cqi3 dX8_hasRuled_4 km8_127 ok_X8_sideOf rfl rfl (by decide) hk (Nat.le_of_ble_eq_true rfl) ⟨Nat.le_of_ble_eq_true rfl, Nat.le_of_ble_eq_true rfl⟩ rfl rfl (ct_sideOf hT0 hi) ?_
  refine aw_istore dX8_hasRuled_7 (Nat.le_of_ble_eq_true rfl) ?_
  refine aw_iload dX8_hasRuled_9 rfl ?_
  refine aw_if_lt dX8_hasRuled_11 (fun h_11 => absurd h_11 (nI_pos (by omega))) (fun h_11 => ?_)
  refine aw_aload_n dX8_hasRuled_14 rfl ?_
  refine gf8_sides dX8_hasRuled_15 kf8_26 hk ?_
  refine aw_iload dX8_hasRuled_18 rfl ?_
  refine aw_zld (sidx nr nc w r c) dX8_hasRuled_20 (kf_8_sides hk) (rfl) (by omega) ?_
  refine aw_eq (hS w r c hi) ?_
  refine aw_if_eqB dX8_hasRuled_21 rfl (fun h_21 => ?_) (fun h_21 => ?_)
  · skip
    refine aw_ic (nI 0) dX8_hasRuled_28 (by decide) ?_
    exact aw_iretz dX8_hasRuled_29 (by decide) (by first | exact ⟨(if_pos h_21).symm, rfl⟩ | exact ⟨(if_neg h_21).symm, rfl⟩)
  · skip
    refine aw_ic (nI 1) dX8_hasRuled_24 (by decide) ?_
    refine aw_goto dX8_hasRuled_25 ?_
    exact aw_iretz dX8_hasRuled_29 (by decide) (by first | exact ⟨(if_pos h_21).symm, rfl⟩ | exact ⟨(if_neg h_21).symm, rfl⟩)

set_option maxHeartbeats 4000000 in
set_option maxRecDepth 100000 in
theorem ct_hasCell {g : GG} {σ : SG} {o : Nat} (hk : kd o = 8) (x : Int32) : Cti g yX8_hasCell cX8_hasCell 2 (some .boolean) (rmm 0 0) [.ref (ad g o), .int x] σ (fun r σ' => r = (if ¬ x < 0 ∧ ¬ σ.1 263 o ≤ x then 1 else 0) ∧ σ' = σ) := by
  refine ct_of (own := RX8) (lv := [some (.ref (ad g o)), some (.int x)]) rfl (by decide) (Nat.le_of_ble_eq_true rfl) (by intro u hu; simp only [List.mem_cons, List.not_mem_nil, or_false] at hu; rcases hu with rfl | rfl <;> rfl) (lv_ok [.ref (ad g o), .int x] 0) ?_
  refine aw_iload_n dX8_hasCell_0 rfl ?_
  refine aw_if_lt dX8_hasCell_1 (fun h_1 => ?_) (fun h_1 => ?_)
  · skip
    refine aw_ic (nI 0) dX8_hasCell_16 (by decide) ?_
    exact aw_iretz dX8_hasCell_17 (by decide) (by first | exact ⟨(if_pos (by simp_all)).symm, rfl⟩ | exact ⟨(if_neg (by simp_all)).symm, rfl⟩)
  · skip
    refine aw_iload_n dX8_hasCell_4 rfl ?_
    refine aw_aload_n dX8_hasCell_5 rfl ?_
    refine gf8_cellCount dX8_hasCell_6 kf8_149 hk ?_
    refine aw_icmp_ge dX8_hasCell_9 (fun h_9 => ?_) (fun h_9 => ?_)
    · skip
      refine aw_ic (nI 0) dX8_hasCell_16 (by decide) ?_
      exact aw_iretz dX8_hasCell_17 (by decide) (by first | exact ⟨(if_pos (by simp_all)).symm, rfl⟩ | exact ⟨(if_neg (by simp_all)).symm, rfl⟩)
    · skip
      refine aw_ic (nI 1) dX8_hasCell_12 (by decide) ?_
      refine aw_goto dX8_hasCell_13 ?_
      exact aw_iretz dX8_hasCell_17 (by decide) (by first | exact ⟨(if_pos (by simp_all)).symm, rfl⟩ | exact ⟨(if_neg (by simp_all)).symm, rfl⟩)

