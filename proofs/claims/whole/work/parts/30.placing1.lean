/-- a word, as words are read: 0 its middle from above, 1 its left, 5 its number -/
def Qw (wd : Nat → Nat → Nat) (i : Nat) : Nat → Nat := fun k => if k = 0 then wd i 1 + wd i 3 else if k = 1 then wd i 0 else if k = 5 then i else 0
def rbN (wd : Nat → Nat → Nat) (i j : Nat) : Bool := if wd i 1 + wd i 3 = wd j 1 + wd j 3 then decide (wd i 0 < wd j 0) else decide (wd i 1 + wd i 3 < wd j 1 + wd j 3)
theorem rb_bef {wd : Nat → Nat → Nat} {i j : Nat} (h : j < i) : rbN wd i j = befN (Qw wd i) (Qw wd j) := by
  unfold rbN befN Qw
  simp only [if_true, show ¬ ((1 : Nat) = 0) by decide, show ¬ ((2 : Nat) = 0) by decide, show ¬ ((2 : Nat) = 1) by decide, show ¬ ((2 : Nat) = 5) by decide, show ¬ ((3 : Nat) = 0) by decide, show ¬ ((3 : Nat) = 1) by decide, show ¬ ((3 : Nat) = 5) by decide, show ¬ ((5 : Nat) = 0) by decide, show ¬ ((5 : Nat) = 1) by decide, if_false]
  by_cases e : wd i 1 + wd i 3 = wd j 1 + wd j 3
  · rw [if_pos e, if_pos e]
    by_cases e2 : wd i 0 = wd j 0
    · rw [if_pos e2, e2]
      simp
      omega
    · rw [if_neg e2]
  · rw [if_neg e, if_neg e]
set_option maxHeartbeats 4000000 in
set_option maxRecDepth 100000 in
theorem ct_isReadBefore {g : GG} {σ : SG} {c i j : Nat} {wd : Nat → Nat → Nat} (hR : RowN σ 4 c wd) (hi : i < c) (hj : j < c) : Cti g yX4_isReadBefore cX4_isReadBefore 5 (some .boolean) (rmm 1 23) [.int (nI i), .int (nI j), .ref (ad g 4)] σ (fun r σ' => r = (if rbN wd i j = true then 1 else 0) ∧ σ' = σ) := by
  refine ct_of (own := RX4) (lv := [some (.int (nI i)), some (.int (nI j)), some (.ref (ad g 4)), none, none]) rfl (by decide) (Nat.le_of_ble_eq_true rfl) (by intro u hu; simp only [List.mem_cons, List.not_mem_nil, or_false] at hu; rcases hu with rfl | rfl | rfl <;> rfl) (lv_ok [.int (nI i), .int (nI j), .ref (ad g 4)] 2) ?_
  have i0 := (hR.2.2.2 i 0 hi (by decide)).2
  have i1 := (hR.2.2.2 i 1 hi (by decide)).2
  have i3 := (hR.2.2.2 i 3 hi (by decide)).2
  have j0 := (hR.2.2.2 j 0 hj (by decide)).2
  have j1 := (hR.2.2.2 j 1 hj (by decide)).2
  have j3 := (hR.2.2.2 j 3 hj (by decide)).2
  refine aw_aload_n dX4_isReadBefore_0 rfl ?_
  refine aw_iload_n dX4_isReadBefore_1 rfl ?_
  refine aw_ic (nI 1) dX4_isReadBefore_2 (by decide) ?_
  refine cqi2 dX4_isReadBefore_3 km4_39 ok_X5_number rfl rfl (by decide) k_4 (Nat.le_of_ble_eq_true rfl) ⟨Nat.le_of_ble_eq_true rfl, Nat.le_of_ble_eq_true rfl⟩ rfl rfl (ct_num hR hi (by decide)) ?_
  refine aw_aload_n dX4_isReadBefore_6 rfl ?_
  refine aw_iload_n dX4_isReadBefore_7 rfl ?_
  refine aw_ic (nI 3) dX4_isReadBefore_8 (by decide) ?_
  refine cqi2 dX4_isReadBefore_9 km4_39 ok_X5_number rfl rfl (by decide) k_4 (Nat.le_of_ble_eq_true rfl) ⟨Nat.le_of_ble_eq_true rfl, Nat.le_of_ble_eq_true rfl⟩ rfl rfl (ct_num hR hi (by decide)) ?_
  refine aw_iadd dX4_isReadBefore_12 ?_
  refine aw_eq (nI_add _ _) ?_
  refine aw_istore_n dX4_isReadBefore_13 (Nat.le_of_ble_eq_true rfl) ?_
  refine aw_aload_n dX4_isReadBefore_14 rfl ?_
  refine aw_iload_n dX4_isReadBefore_15 rfl ?_
  refine aw_ic (nI 1) dX4_isReadBefore_16 (by decide) ?_
  refine cqi2 dX4_isReadBefore_17 km4_39 ok_X5_number rfl rfl (by decide) k_4 (Nat.le_of_ble_eq_true rfl) ⟨Nat.le_of_ble_eq_true rfl, Nat.le_of_ble_eq_true rfl⟩ rfl rfl (ct_num hR hj (by decide)) ?_
  refine aw_aload_n dX4_isReadBefore_20 rfl ?_
  refine aw_iload_n dX4_isReadBefore_21 rfl ?_
  refine aw_ic (nI 3) dX4_isReadBefore_22 (by decide) ?_
  refine cqi2 dX4_isReadBefore_23 km4_39 ok_X5_number rfl rfl (by decide) k_4 (Nat.le_of_ble_eq_true rfl) ⟨Nat.le_of_ble_eq_true rfl, Nat.le_of_ble_eq_true rfl⟩ rfl rfl (ct_num hR hj (by decide)) ?_
  refine aw_iadd dX4_isReadBefore_26 ?_
  refine aw_eq (nI_add _ _) ?_
  refine aw_istore dX4_isReadBefore_27 (Nat.le_of_ble_eq_true rfl) ?_
  refine aw_iload_n dX4_isReadBefore_29 rfl ?_
  refine aw_iload dX4_isReadBefore_30 rfl ?_
  refine aw_icmp_eqN dX4_isReadBefore_32 rfl rfl (by omega) (by omega) (fun h_32 => ?_) (fun h_32 => ?_)
  · skip
    refine aw_aload_n dX4_isReadBefore_47 rfl ?_
    refine aw_iload_n dX4_isReadBefore_48 rfl ?_
    refine aw_ic (nI 0) dX4_isReadBefore_49 (by decide) ?_
    refine cqi2 dX4_isReadBefore_50 km4_39 ok_X5_number rfl rfl (by decide) k_4 (Nat.le_of_ble_eq_true rfl) ⟨Nat.le_of_ble_eq_true rfl, Nat.le_of_ble_eq_true rfl⟩ rfl rfl (ct_num hR hi (by decide)) ?_
    refine aw_aload_n dX4_isReadBefore_53 rfl ?_
    refine aw_iload_n dX4_isReadBefore_54 rfl ?_
    refine aw_ic (nI 0) dX4_isReadBefore_55 (by decide) ?_
    refine cqi2 dX4_isReadBefore_56 km4_39 ok_X5_number rfl rfl (by decide) k_4 (Nat.le_of_ble_eq_true rfl) ⟨Nat.le_of_ble_eq_true rfl, Nat.le_of_ble_eq_true rfl⟩ rfl rfl (ct_num hR hj (by decide)) ?_
    refine aw_icmp_geN dX4_isReadBefore_59 rfl rfl (by omega) (by omega) (fun h_59 => ?_) (fun h_59 => ?_)
    · skip
      refine aw_ic (nI 0) dX4_isReadBefore_66 (by decide) ?_
      exact aw_iretz dX4_isReadBefore_67 (by decide) (by
          refine ⟨?_, rfl⟩
          unfold rbN
          rw [if_pos h_32]
          first
            | (rw [if_pos (by simp; omega)]; rfl)
            | (rw [if_neg (by simp; omega)]; rfl))
    · skip
      refine aw_ic (nI 1) dX4_isReadBefore_62 (by decide) ?_
      refine aw_goto dX4_isReadBefore_63 ?_
      exact aw_iretz dX4_isReadBefore_67 (by decide) (by
          refine ⟨?_, rfl⟩
          unfold rbN
          rw [if_pos h_32]
          first
            | (rw [if_pos (by simp; omega)]; rfl)
            | (rw [if_neg (by simp; omega)]; rfl))
  · skip
    refine aw_iload_n dX4_isReadBefore_35 rfl ?_
    refine aw_iload dX4_isReadBefore_36 rfl ?_
    refine aw_icmp_geN dX4_isReadBefore_38 rfl rfl (by omega) (by omega) (fun h_38 => ?_) (fun h_38 => ?_)
    · skip
      refine aw_ic (nI 0) dX4_isReadBefore_45 (by decide) ?_
      exact aw_iretz dX4_isReadBefore_46 (by decide) (by
          refine ⟨?_, rfl⟩
          unfold rbN
          rw [if_neg h_32]
          first
            | (rw [if_pos (by simp; omega)]; rfl)
            | (rw [if_neg (by simp; omega)]; rfl))
    · skip
      refine aw_ic (nI 1) dX4_isReadBefore_41 (by decide) ?_
      refine aw_goto dX4_isReadBefore_42 ?_
      exact aw_iretz dX4_isReadBefore_46 (by decide) (by
          refine ⟨?_, rfl⟩
          unfold rbN
          rw [if_neg h_32]
          first
            | (rw [if_pos (by simp; omega)]; rfl)
            | (rw [if_neg (by simp; omega)]; rfl))

set_option maxHeartbeats 4000000 in
set_option maxRecDepth 100000 in
theorem ct_isIn {g : GG} {σ : SG} {i : Nat} (hi : i < 20) (t q : Int32) : Cti g yX4_isIn cX4_isIn 4 (some .boolean) (rmm 0 0) [.ref (ad g 172), .int (nI i), .int t, .int q] σ (fun r σ' => r = (if σ.2.1 173 i = t ∧ σ.2.1 174 i = q then 1 else 0) ∧ σ' = σ) := by
  refine ct_of (own := RX4) (lv := [some (.ref (ad g 172)), some (.int (nI i)), some (.int t), some (.int q)]) rfl (by decide) (Nat.le_of_ble_eq_true rfl) (by intro u hu; simp only [List.mem_cons, List.not_mem_nil, or_false] at hu; rcases hu with rfl | rfl | rfl | rfl <;> rfl) (lv_ok [.ref (ad g 172), .int (nI i), .int t, .int q] 0) ?_
  have l3 := l_173
  have l4 := l_174
  refine aw_aload_n dX4_isIn_0 rfl ?_
  refine gf4_tables dX4_isIn_1 kf4_9 k_172 ?_
  refine aw_eqr (b := 173) rfl ?_
  refine aw_iload_n dX4_isIn_4 rfl ?_
  refine aw_ld (i) dX4_isIn_5 k_173 (rfl) (by omega) ?_
  refine aw_iload_n dX4_isIn_6 rfl ?_
  refine aw_icmp_ne dX4_isIn_7 (fun h_7 => ?_) (fun h_7 => ?_)
  · skip
    refine aw_ic (nI 0) dX4_isIn_24 (by decide) ?_
    exact aw_iretz dX4_isIn_25 (by decide) (by first | exact ⟨(if_pos (by simp_all)).symm, rfl⟩ | exact ⟨(if_neg (by simp_all)).symm, rfl⟩)
  · skip
    refine aw_aload_n dX4_isIn_10 rfl ?_
    refine gf4_cells dX4_isIn_11 kf4_15 k_172 ?_
    refine aw_eqr (b := 174) rfl ?_
    refine aw_iload_n dX4_isIn_14 rfl ?_
    refine aw_ld (i) dX4_isIn_15 k_174 (rfl) (by omega) ?_
    refine aw_iload_n dX4_isIn_16 rfl ?_
    refine aw_icmp_ne dX4_isIn_17 (fun h_17 => ?_) (fun h_17 => ?_)
    · skip
      refine aw_ic (nI 0) dX4_isIn_24 (by decide) ?_
      exact aw_iretz dX4_isIn_25 (by decide) (by first | exact ⟨(if_pos (by simp_all)).symm, rfl⟩ | exact ⟨(if_neg (by simp_all)).symm, rfl⟩)
    · skip
      refine aw_ic (nI 1) dX4_isIn_20 (by decide) ?_
      refine aw_goto dX4_isIn_21 ?_
      exact aw_iretz dX4_isIn_25 (by decide) (by first | exact ⟨(if_pos (by simp_all)).symm, rfl⟩ | exact ⟨(if_neg (by simp_all)).symm, rfl⟩)

set_option maxHeartbeats 4000000 in
set_option maxRecDepth 100000 in
theorem ct_putInOrder {g : GG} {σ : SG} {c i : Nat} {wd : Nat → Nat → Nat} {τ : Nat → Nat} (hR : RowN σ 4 c wd) (hc : c ≤ 20) (hi : i < c) (hO : ∀ k, k < i → σ.2.1 175 k = nI (τ k)) (hSo : SoP (Qw wd) i τ) : Ctv g yX4_putInOrder cX4_putInOrder 4 (rmm 2 47) [.ref (ad g 172), .int (nI i), .ref (ad g 4)] σ (fun σ' => ∃ O τ', σ' = (σ.1, uA σ.2.1 175 O, σ.2.2) ∧ (∀ k, k < i + 1 → O k = nI (τ' k)) ∧ SoP (Qw wd) (i + 1) τ') := by
  refine ct_of (own := RX4) (lv := [some (.ref (ad g 172)), some (.int (nI i)), some (.ref (ad g 4)), none]) rfl (by decide) (Nat.le_of_ble_eq_true rfl) (by intro u hu; simp only [List.mem_cons, List.not_mem_nil, or_false] at hu; rcases hu with rfl | rfl | rfl <;> rfl) (lv_ok [.ref (ad g 172), .int (nI i), .ref (ad g 4)] 1) ?_
  have l5 := l_175
  refine aw_iload_n dX4_putInOrder_0 rfl ?_
  refine aw_istore_n dX4_putInOrder_1 (Nat.le_of_ble_eq_true rfl) ?_
  refine for_wf (fun t σ' lv => t ≤ i ∧ ∃ O, σ' = (σ.1, uA σ.2.1 175 O, σ.2.2) ∧ (∀ k, k ≤ i → k ≠ t → O k = nI (shf τ i t k)) ∧ (∀ j, t ≤ j → j < i → befN (Qw wd i) (Qw wd (τ j)) = true) ∧ lv = [some (.ref (ad g 172)), some (.int (nI i)), some (.ref (ad g 4)), some (.int (nI t))]) ?_ i _ _ ⟨Nat.le_refl i, σ.2.1 175, by rw [uA_same], fun k hk hk2 => ?_, fun j h1 h2 => by omega, rfl⟩
  rotate_left
  · rw [hO k (by omega)]
    unfold shf
    rw [if_pos (by omega)]
  rintro t σ3 lv3 ⟨ht, O, rfl, hO2, hhi, rfl⟩ ih2
  refine aw_iload_n dX4_putInOrder_2 rfl ?_
  refine aw_if_leN dX4_putInOrder_3 rfl (by omega) (fun h_3 => ?_) (fun h_3 => ?_)
  · skip
    refine aw_aload_n dX4_putInOrder_42 rfl ?_
    refine gf4_order dX4_putInOrder_43 kf4_18 k_172 ?_
    refine aw_eqr (b := 175) rfl ?_
    refine aw_iload_n dX4_putInOrder_46 rfl ?_
    refine aw_iload_n dX4_putInOrder_47 rfl ?_
    refine aw_sto (t) dX4_putInOrder_48 k_175 (rfl) (by omega) ?_
    exact aw_ret dX4_putInOrder_49 (by
        have hlo : ∀ j, j < t → befN (Qw wd (τ j)) (Qw wd i) = true := by
          intro j hj
          have hb : befN (Qw wd (τ (t - 1))) (Qw wd i) = true := by omega
          by_cases e : j = t - 1
          · rw [e]
            exact hb
          · exact bef_trans (hSo.2.2 j (t - 1) (by omega) (by omega)) hb
        refine ⟨_, shf τ i t, by rw [uA_s, uA_uA], fun k hk => ?_, hSo.ins ht hlo hhi⟩
        by_cases e : k = t
        · rw [e, pk_us]
          unfold shf
          rw [if_neg (by omega), if_pos rfl]
        · rw [pk_un e]
          exact hO2 k (by omega) e)
  · skip
    refine aw_iload_n dX4_putInOrder_6 rfl ?_
    refine aw_aload_n dX4_putInOrder_7 rfl ?_
    refine gf4_order dX4_putInOrder_8 kf4_18 k_172 ?_
    refine aw_eqr (b := 175) rfl ?_
    refine aw_iload_n dX4_putInOrder_11 rfl ?_
    refine aw_ic (nI 1) dX4_putInOrder_12 (by decide) ?_
    refine aw_isub dX4_putInOrder_13 ?_
    refine aw_eq (show _ = nI (t - 1) from pk_sub (by omega)) ?_
    have ht1 : O (t - 1) = nI (τ (t - 1)) := by rw [hO2 (t - 1) (by omega) (by omega), shf, if_pos (by omega)]
    have hτt : τ (t - 1) < i := hSo.1 _ (by omega)
    refine aw_ld (t - 1) dX4_putInOrder_14 k_175 (rfl) (by omega) ?_
    refine aw_eq (show _ = nI (τ (t - 1)) by rw [uA_s]; exact ht1) ?_
    refine aw_aload_n dX4_putInOrder_15 rfl ?_
    refine csq3 dX4_putInOrder_16 km4_67 ok_X4_isReadBefore (Nat.le_of_ble_eq_true rfl) ⟨Nat.le_of_ble_eq_true rfl, Nat.le_of_ble_eq_true rfl⟩ rfl rfl (ct_isReadBefore (hR.keep rfl (by simp [uA])) (i := i) (j := τ (t - 1)) hi (by omega)) ?_
    refine aw_if_eqB dX4_putInOrder_19 rfl (fun h_19 => ?_) (fun h_19 => ?_)
    · skip
      refine aw_aload_n dX4_putInOrder_42 rfl ?_
      refine gf4_order dX4_putInOrder_43 kf4_18 k_172 ?_
      refine aw_eqr (b := 175) rfl ?_
      refine aw_iload_n dX4_putInOrder_46 rfl ?_
      refine aw_iload_n dX4_putInOrder_47 rfl ?_
      refine aw_sto (t) dX4_putInOrder_48 k_175 (rfl) (by omega) ?_
      exact aw_ret dX4_putInOrder_49 (by
          have hlo : ∀ j, j < t → befN (Qw wd (τ j)) (Qw wd i) = true := by
            intro j hj
            have hb : befN (Qw wd (τ (t - 1))) (Qw wd i) = true := bef_total (fun e => by simp [Qw] at e; omega) (by rw [← rb_bef hτt]; exact h_19)
            by_cases e : j = t - 1
            · rw [e]
              exact hb
            · exact bef_trans (hSo.2.2 j (t - 1) (by omega) (by omega)) hb
          refine ⟨_, shf τ i t, by rw [uA_s, uA_uA], fun k hk => ?_, hSo.ins ht hlo hhi⟩
          by_cases e : k = t
          · rw [e, pk_us]
            unfold shf
            rw [if_neg (by omega), if_pos rfl]
          · rw [pk_un e]
            exact hO2 k (by omega) e)
    · skip
      refine aw_aload_n dX4_putInOrder_22 rfl ?_
      refine gf4_order dX4_putInOrder_23 kf4_18 k_172 ?_
      refine aw_eqr (b := 175) rfl ?_
      refine aw_iload_n dX4_putInOrder_26 rfl ?_
      refine aw_aload_n dX4_putInOrder_27 rfl ?_
      refine gf4_order dX4_putInOrder_28 kf4_18 k_172 ?_
      refine aw_eqr (b := 175) rfl ?_
      refine aw_iload_n dX4_putInOrder_31 rfl ?_
      refine aw_ic (nI 1) dX4_putInOrder_32 (by decide) ?_
      refine aw_isub dX4_putInOrder_33 ?_
      refine aw_eq (show _ = nI (t - 1) from pk_sub (by omega)) ?_
      refine aw_ld (t - 1) dX4_putInOrder_34 k_175 (rfl) (by omega) ?_
      refine aw_eq (show _ = nI (τ (t - 1)) by rw [uA_s]; exact ht1) ?_
      refine aw_sto (t) dX4_putInOrder_35 k_175 (rfl) (by omega) ?_
      refine aw_inc (nI (t - 1)) dX4_putInOrder_36 rfl (Nat.le_of_ble_eq_true rfl) (sb_m1 h_3) ?_
      refine aw_goto dX4_putInOrder_39 ?_
      refine ih2 (t - 1) _ _ (by omega) ⟨by omega, _, by rw [uA_s, uA_uA], fun k hk hk2 => ?_, fun j h1 h2 => ?_, rfl⟩
      · by_cases e : k = t
        · rw [e, pk_us]
          unfold shf
          rw [if_neg (by omega), if_neg (by omega), if_pos (by omega)]
        · rw [pk_un e, hO2 k hk e]
          unfold shf
          by_cases q : k < t
          · rw [if_pos q, if_pos (by omega)]
          · simp only [if_neg q, if_neg e, if_neg (show ¬ k < t - 1 by omega), if_neg hk2]
      · by_cases e : j = t - 1
        · rw [e, ← rb_bef hτt]
          exact h_19
        · exact hhi j (by omega) h2

set_option maxHeartbeats 4000000 in
set_option maxRecDepth 100000 in
theorem ct_wordRead {g : GG} {σ : SG} {c : Nat} {τ : Nat → Nat} (hc : σ.1 131 172 = nI c) (hc20 : c ≤ 20) (hO : ∀ k, k < c → σ.2.1 175 k = nI (τ k)) (hτ : ∀ k, k < c → τ k < c) (t q k : Int32) : Cti g yX4_wordRead cX4_wordRead 6 (some .int) (rmm 1 23) [.ref (ad g 172), .int t, .int q, .int k] σ (fun r σ' => r = (if fst (fun i => (fun x => decide (σ.2.1 173 (τ x) = t) && decide (σ.2.1 174 (τ x) = q)) i && decide (nI (ctB (fun x => decide (σ.2.1 173 (τ x) = t) && decide (σ.2.1 174 (τ x) = q)) i) = k)) c < c then nI (τ (fst (fun i => (fun x => decide (σ.2.1 173 (τ x) = t) && decide (σ.2.1 174 (τ x) = q)) i && decide (nI (ctB (fun x => decide (σ.2.1 173 (τ x) = t) && decide (σ.2.1 174 (τ x) = q)) i) = k)) c)) else -6) ∧ σ' = σ) := by
  refine ct_of (own := RX4) (lv := [some (.ref (ad g 172)), some (.int t), some (.int q), some (.int k), none, none]) rfl (by decide) (Nat.le_of_ble_eq_true rfl) (by intro u hu; simp only [List.mem_cons, List.not_mem_nil, or_false] at hu; rcases hu with rfl | rfl | rfl | rfl <;> rfl) (lv_ok [.ref (ad g 172), .int t, .int q, .int k] 2) ?_
  have l5 := l_175
  obtain ⟨wi, hwi⟩ : ∃ wi, wi = (fun x => decide (σ.2.1 173 (τ x) = t) && decide (σ.2.1 174 (τ x) = q)) := ⟨_, rfl⟩
  refine aw_ic (nI 0) dX4_wordRead_0 (by decide) ?_
  refine aw_istore dX4_wordRead_1 (Nat.le_of_ble_eq_true rfl) ?_
  refine aw_ic (nI 0) dX4_wordRead_3 (by decide) ?_
  refine aw_istore dX4_wordRead_4 (Nat.le_of_ble_eq_true rfl) ?_
  refine for_up (fun i σ' => (∀ j, j < i → (wi j && decide (nI (ctB wi j) = k)) = false) ∧ σ' = σ) (fun i => [some (.ref (ad g 172)), some (.int t), some (.int q), some (.int k), some (.int (nI (ctB wi i))), some (.int (nI i))]) c ?_ ?_ 0 σ (Nat.zero_le _) ⟨fun j h => absurd h (Nat.not_lt_zero j), rfl⟩
  · rintro i σ2 hi ⟨hi2, rfl⟩ ih
    have hsu : ctB wi (i + 1) = ctB wi i + (if wi i = true then 1 else 0) := rfl
    have hτi := hτ i hi
    have hwi9 : (σ2.2.1 173 (τ i) = t ∧ σ2.2.1 174 (τ i) = q) ↔ wi i = true := by rw [hwi]; simp
    refine aw_iload dX4_wordRead_6 rfl ?_
    refine aw_aload_n dX4_wordRead_8 rfl ?_
    refine gf4_count dX4_wordRead_9 kf4_27 k_172 ?_
    refine aw_eq hc ?_
    refine aw_icmp_geN dX4_wordRead_12 rfl rfl (by omega) (by omega) (fun h_12 => absurd h_12 (by omega)) (fun h_12 => ?_)
    refine aw_aload_n dX4_wordRead_15 rfl ?_
    refine aw_aload_n dX4_wordRead_16 rfl ?_
    refine gf4_order dX4_wordRead_17 kf4_18 k_172 ?_
    refine aw_eqr (b := 175) rfl ?_
    refine aw_iload dX4_wordRead_20 rfl ?_
    refine aw_ld (i) dX4_wordRead_22 k_175 (rfl) (by omega) ?_
    refine aw_eq (hO i hi) ?_
    refine aw_iload_n dX4_wordRead_23 rfl ?_
    refine aw_iload_n dX4_wordRead_24 rfl ?_
    refine cqi3 dX4_wordRead_25 km4_71 ok_X4_isIn rfl rfl (by decide) k_172 (Nat.le_of_ble_eq_true rfl) ⟨Nat.le_of_ble_eq_true rfl, Nat.le_of_ble_eq_true rfl⟩ rfl rfl (ct_isIn (i := τ i) (by omega) t q) ?_
    refine aw_if_eqB dX4_wordRead_28 rfl (fun h_28 => ?_) (fun h_28 => ?_)
    · skip
      refine aw_inc (nI (i + 1)) dX4_wordRead_48 rfl (Nat.le_of_ble_eq_true rfl) (nI_1 i) ?_
      refine aw_goto dX4_wordRead_51 ?_
      refine aw_lv (lv' := [some (.ref (ad g 172)), some (.int t), some (.int q), some (.int k), some (.int (nI (ctB wi (i + 1)))), some (.int (nI (i + 1)))]) (by rw [hsu, if_neg (fun z => h_28 (hwi9.mpr z)), Nat.add_zero]; rfl) (ih _ ⟨fun j hj => ?_, rfl⟩)
      rcases Nat.lt_or_ge j i with z | z
      · exact hi2 j z
      · rw [show j = i by omega]
        simp [show wi i = false by simpa using (fun z => h_28 (hwi9.mpr z))]
    · skip
      refine aw_iload dX4_wordRead_31 rfl ?_
      refine aw_iload_n dX4_wordRead_33 rfl ?_
      refine aw_icmp_ne dX4_wordRead_34 (fun h_34 => ?_) (fun h_34 => ?_)
      · skip
        refine aw_inc (nI (ctB wi (i + 1))) dX4_wordRead_45 rfl (Nat.le_of_ble_eq_true rfl) (by rw [hsu, if_pos (hwi9.mp h_28)]; exact nI_1 _) ?_
        refine aw_inc (nI (i + 1)) dX4_wordRead_48 rfl (Nat.le_of_ble_eq_true rfl) (nI_1 i) ?_
        refine aw_goto dX4_wordRead_51 ?_
        refine aw_lv (lv' := [some (.ref (ad g 172)), some (.int t), some (.int q), some (.int k), some (.int (nI (ctB wi (i + 1)))), some (.int (nI (i + 1)))]) (by rfl) (ih _ ⟨fun j hj => ?_, rfl⟩)
        rcases Nat.lt_or_ge j i with z | z
        · exact hi2 j z
        · rw [show j = i by omega]
          simp [h_34]
      · skip
        refine aw_aload_n dX4_wordRead_37 rfl ?_
        refine gf4_order dX4_wordRead_38 kf4_18 k_172 ?_
        refine aw_eqr (b := 175) rfl ?_
        refine aw_iload dX4_wordRead_41 rfl ?_
        refine aw_ld (i) dX4_wordRead_43 k_175 (rfl) (by omega) ?_
        refine aw_eq (hO i hi) ?_
        exact aw_ireti dX4_wordRead_44 (⟨by rw [← hwi, fst_eq hi2 (by simp [hwi9.mp h_28, h_34]) hi, if_pos hi], rfl⟩)
  · rintro σ2 ⟨hi2, rfl⟩
    refine aw_iload dX4_wordRead_6 rfl ?_
    refine aw_aload_n dX4_wordRead_8 rfl ?_
    refine gf4_count dX4_wordRead_9 kf4_27 k_172 ?_
    refine aw_eq hc ?_
    refine aw_icmp_geN dX4_wordRead_12 rfl rfl (by omega) (by omega) (fun h_12 => ?_) (fun h_12 => absurd h_12 (by omega))
    refine aw_bi (-6) dX4_wordRead_54 (by decide) ?_
    exact aw_ireti dX4_wordRead_56 (⟨by rw [← hwi, fst_none hi2, if_neg (Nat.lt_irrefl _)], rfl⟩)

