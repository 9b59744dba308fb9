/-- labels of the first n things, held as leads: a lead is a lesser thing of the same label, or itself -/
def Fo (n : Nat) (lab : Nat → Nat) (L : Nat → Int32) : Prop := ∀ k, k < n → ∃ m, m ≤ k ∧ L k = nI m ∧ lab k = (if m = k then k else lab m)
theorem Fo.le {n : Nat} {lab : Nat → Nat} {L : Nat → Int32} (h : Fo n lab L) : ∀ k, k < n → lab k ≤ k := by
  intro k
  induction k using Nat.strongRecOn with
  | ind k ih =>
    intro hk
    obtain ⟨m, h1, h2, h3⟩ := h k hk
    by_cases e : m = k
    · rw [h3, if_pos e]
      exact Nat.le_refl _
    · rw [h3, if_neg e]
      have := ih m (by omega) (by omega)
      omega
theorem Fo.idem {n : Nat} {lab : Nat → Nat} {L : Nat → Int32} (h : Fo n lab L) : ∀ k, k < n → lab (lab k) = lab k := by
  intro k
  induction k using Nat.strongRecOn with
  | ind k ih =>
    intro hk
    obtain ⟨m, h1, h2, h3⟩ := h k hk
    by_cases e : m = k
    · rw [if_pos e] at h3
      rw [h3, h3]
    · rw [if_neg e] at h3
      rw [h3]
      exact ih m (by omega) (by omega)
/-- two labels become the lesser one -/
def joinL (lab : Nat → Nat) (a b : Nat) : Nat → Nat := fun k => if lab k = max (lab a) (lab b) then min (lab a) (lab b) else lab k
theorem joinL_same {lab : Nat → Nat} {a b : Nat} (h : lab a = lab b) : joinL lab a b = lab := by
  funext k
  unfold joinL
  split
  · omega
  · rfl
theorem Fo.join {n : Nat} {lab : Nat → Nat} {L : Nat → Int32} (h : Fo n lab L) {a b : Nat} (ha : a < n) (hb : b < n) (hne : lab a ≠ lab b) : Fo n (joinL lab a b) (upd L (max (lab a) (lab b)) (nI (min (lab a) (lab b)))) := by
  have ia := h.idem a ha
  have ib := h.idem b hb
  have hM : lab (max (lab a) (lab b)) = max (lab a) (lab b) := by
    rcases Nat.le_total (lab a) (lab b) with q | q
    · rw [Nat.max_eq_right q]; exact ib
    · rw [Nat.max_eq_left q]; exact ia
  have hm : lab (min (lab a) (lab b)) = min (lab a) (lab b) := by
    rcases Nat.le_total (lab a) (lab b) with q | q
    · rw [Nat.min_eq_left q]; exact ia
    · rw [Nat.min_eq_right q]; exact ib
  intro k hk
  by_cases e : k = max (lab a) (lab b)
  · refine ⟨min (lab a) (lab b), by omega, by rw [e, pk_us], ?_⟩
    rw [if_neg (by omega)]
    unfold joinL
    rw [hm, e, hM, if_pos rfl, if_neg (by omega)]
  · obtain ⟨m, h1, h2, h3⟩ := h k hk
    refine ⟨m, h1, by rw [pk_un e]; exact h2, ?_⟩
    by_cases q : m = k
    · rw [if_pos q] at h3 ⊢
      unfold joinL
      rw [h3, if_neg e]
    · rw [if_neg q] at h3 ⊢
      unfold joinL
      rw [h3]
theorem Fo.part {n : Nat} {L : Nat → Int32} (h : ∀ k, k < n → L k = nI k) : Fo n (fun k => k) L := fun k hk => ⟨k, Nat.le_refl _, h k hk, by rw [if_pos rfl]⟩
theorem ln_groups {o : Nat} (h : kd o = 1) : ln (o + 1) = 121 := kd_all (P := fun o => ln (o + 1) = 121) 1 (by decide) (by decide +kernel) h
set_option maxHeartbeats 4000000 in
set_option maxRecDepth 100000 in
theorem ct_Groups_part {g : GG} {σ : SG} {o c : Nat} (hk : kd o = 1) (hc : c ≤ 121) : Ctv g yX1_part cX1_part 3 (rmm 0 0) [.ref (ad g o), .int (nI c)] σ (fun σ' => σ' = (σ.1, uA σ.2.1 (o + 1) (cp_ (σ.2.1 (o + 1)) nI c), σ.2.2)) := by
  refine ct_of (own := RX1) (lv := [some (.ref (ad g o)), some (.int (nI c)), none]) rfl (by decide) (Nat.le_of_ble_eq_true rfl) (by intro u hu; simp only [List.mem_cons, List.not_mem_nil, or_false] at hu; rcases hu with rfl | rfl <;> rfl) (lv_ok [.ref (ad g o), .int (nI c)] 1) ?_
  have hln := ln_groups hk
  refine aw_ic (nI 0) dX1_part_0 (by decide) ?_
  refine aw_istore_n dX1_part_1 (Nat.le_of_ble_eq_true rfl) ?_
  refine for_up (fun i σ' => σ' = (σ.1, uA σ.2.1 (o + 1) (cp_ (σ.2.1 (o + 1)) nI i), σ.2.2)) (fun i => [some (.ref (ad g o)), some (.int (nI c)), some (.int (nI i))]) c ?_ ?_ 0 σ (Nat.zero_le _) (by rw [cp_0, uA_same])
  · rintro i σ2 hi rfl ih
    refine aw_iload_n dX1_part_2 rfl ?_
    refine aw_iload_n dX1_part_3 rfl ?_
    refine aw_icmp_geN dX1_part_4 rfl rfl (by omega) (by omega) (fun h_4 => absurd h_4 (by omega)) (fun h_4 => ?_)
    refine aw_iload_n dX1_part_7 rfl ?_
    refine aw_aload_n dX1_part_8 rfl ?_
    refine gf1_leads dX1_part_9 kf1_13 hk ?_
    refine aw_alen dX1_part_12 (kf_1_leads hk) (Or.inl rfl) ?_
    refine aw_icmp_geN dX1_part_13 rfl rfl (by omega) (by omega) (fun h_13 => absurd h_13 (by omega)) (fun h_13 => ?_)
    refine aw_aload_n dX1_part_16 rfl ?_
    refine gf1_leads dX1_part_17 kf1_13 hk ?_
    refine aw_iload_n dX1_part_20 rfl ?_
    refine aw_iload_n dX1_part_21 rfl ?_
    refine aw_sto (i) dX1_part_22 (kf_1_leads hk) (rfl) (by omega) ?_
    refine aw_inc (nI (i + 1)) dX1_part_23 rfl (Nat.le_of_ble_eq_true rfl) (nI_1 i) ?_
    refine aw_goto dX1_part_26 ?_
    exact ih _ (by rw [uA_s, uA_uA, cp_s])
  · rintro σ2 rfl
    refine aw_iload_n dX1_part_2 rfl ?_
    refine aw_iload_n dX1_part_3 rfl ?_
    refine aw_icmp_geN dX1_part_4 rfl rfl (by omega) (by omega) (fun h_4 => ?_) (fun h_4 => absurd h_4 (by omega))
    exact aw_ret dX1_part_29 (rfl)

set_option maxHeartbeats 4000000 in
set_option maxRecDepth 100000 in
theorem ct_Groups_firstOf {g : GG} {σ : SG} {o n k : Nat} {lab : Nat → Nat} (hk : kd o = 1) (hF : Fo n lab (σ.2.1 (o + 1))) (hkn : k < n) (hn : n ≤ 121) : Cti g yX1_firstOf cX1_firstOf 4 (some .int) (rmm 0 0) [.ref (ad g o), .int (nI k)] σ (fun r σ' => r = nI (lab k) ∧ σ' = σ) := by
  refine ct_of (own := RX1) (lv := [some (.ref (ad g o)), some (.int (nI k)), none, none]) rfl (by decide) (Nat.le_of_ble_eq_true rfl) (by intro u hu; simp only [List.mem_cons, List.not_mem_nil, or_false] at hu; rcases hu with rfl | rfl <;> rfl) (lv_ok [.ref (ad g o), .int (nI k)] 2) ?_
  have hln := ln_groups hk
  have hk31 : k < 2 ^ 31 := by omega
  refine aw_iload_n dX1_firstOf_0 rfl ?_
  refine aw_if_lt dX1_firstOf_1 (fun h_1 => absurd h_1 (nI_pos hk31)) (fun h_1 => ?_)
  refine aw_iload_n dX1_firstOf_4 rfl ?_
  refine aw_aload_n dX1_firstOf_5 rfl ?_
  refine gf1_leads dX1_firstOf_6 kf1_13 hk ?_
  refine aw_alen dX1_firstOf_9 (kf_1_leads hk) (Or.inl rfl) ?_
  refine aw_icmp_ltN dX1_firstOf_10 rfl rfl (by omega) (by omega) (fun h_10 => ?_) (fun h_10 => absurd h_10 (by omega))
  refine aw_iload_n dX1_firstOf_15 rfl ?_
  refine aw_istore_n dX1_firstOf_16 (Nat.le_of_ble_eq_true rfl) ?_
  refine aw_ic (nI 0) dX1_firstOf_17 (by decide) ?_
  refine aw_istore_n dX1_firstOf_18 (Nat.le_of_ble_eq_true rfl) ?_
  refine for_wf (fun n σ' lv => ∃ s, n + s ≤ k ∧ lab n = lab k ∧ σ' = σ ∧ lv = [some (.ref (ad g o)), some (.int (nI k)), some (.int (nI n)), some (.int (nI s))]) ?_ k σ _ ⟨0, by omega, rfl, rfl, rfl⟩
  rintro n σ2 lv2 ⟨s, h1, h2, rfl, rfl⟩ ih
  obtain ⟨m, h3, h4, h5⟩ := hF n (by omega)
  refine aw_iload_n dX1_firstOf_19 rfl ?_
  refine aw_aload_n dX1_firstOf_20 rfl ?_
  refine gf1_leads dX1_firstOf_21 kf1_13 hk ?_
  refine aw_alen dX1_firstOf_24 (kf_1_leads hk) (Or.inl rfl) ?_
  refine aw_icmp_geN dX1_firstOf_25 rfl rfl (by omega) (by omega) (fun h_25 => absurd h_25 (by omega)) (fun h_25 => ?_)
  refine aw_aload_n dX1_firstOf_28 rfl ?_
  refine gf1_leads dX1_firstOf_29 kf1_13 hk ?_
  refine aw_iload_n dX1_firstOf_32 rfl ?_
  refine aw_ld (n) dX1_firstOf_33 (kf_1_leads hk) (rfl) (by omega) ?_
  refine aw_eq h4 ?_
  refine aw_iload_n dX1_firstOf_34 rfl ?_
  refine aw_icmp_geN dX1_firstOf_35 rfl rfl (by omega) (by omega) (fun h_35 => ?_) (fun h_35 => ?_)
  · skip
    refine aw_iload_n dX1_firstOf_51 rfl ?_
    exact aw_ireti dX1_firstOf_52 (⟨by rw [← h2, h5, if_pos (by omega)], rfl⟩)
  · skip
    refine aw_aload_n dX1_firstOf_38 rfl ?_
    refine gf1_leads dX1_firstOf_39 kf1_13 hk ?_
    refine aw_iload_n dX1_firstOf_42 rfl ?_
    refine aw_ld (n) dX1_firstOf_43 (kf_1_leads hk) (rfl) (by omega) ?_
    refine aw_eq h4 ?_
    refine aw_istore_n dX1_firstOf_44 (Nat.le_of_ble_eq_true rfl) ?_
    refine aw_inc (nI (s + 1)) dX1_firstOf_45 rfl (Nat.le_of_ble_eq_true rfl) (nI_1 s) ?_
    refine aw_goto dX1_firstOf_48 ?_
    exact ih m _ _ h_35 ⟨s + 1, by omega, by rw [← h2, h5, if_neg (by omega)], rfl, rfl⟩

set_option maxHeartbeats 4000000 in
set_option maxRecDepth 100000 in
theorem ct_Groups_join {g : GG} {σ : SG} {o n a b : Nat} {lab : Nat → Nat} (hk : kd o = 1) (hF : Fo n lab (σ.2.1 (o + 1))) (ha : a < n) (hb : b < n) (hn : n ≤ 121) : Ctv g yX1_join cX1_join 5 (rmm 1 23) [.ref (ad g o), .int (nI a), .int (nI b)] σ (fun σ' => ∃ L, σ' = (σ.1, uA σ.2.1 (o + 1) L, σ.2.2) ∧ Fo n (joinL lab a b) L) := by
  refine ct_of (own := RX1) (lv := [some (.ref (ad g o)), some (.int (nI a)), some (.int (nI b)), none, none]) rfl (by decide) (Nat.le_of_ble_eq_true rfl) (by intro u hu; simp only [List.mem_cons, List.not_mem_nil, or_false] at hu; rcases hu with rfl | rfl | rfl <;> rfl) (lv_ok [.ref (ad g o), .int (nI a), .int (nI b)] 2) ?_
  have hln := ln_groups hk
  have la := hF.le a ha
  have lb := hF.le b hb
  refine aw_aload_n dX1_join_0 rfl ?_
  refine aw_iload_n dX1_join_1 rfl ?_
  refine cqi1 dX1_join_2 km1_19 ok_X1_firstOf rfl rfl (by decide) hk (Nat.le_of_ble_eq_true rfl) ⟨Nat.le_of_ble_eq_true rfl, Nat.le_of_ble_eq_true rfl⟩ rfl rfl (ct_Groups_firstOf hk hF ha hn) ?_
  refine aw_istore_n dX1_join_5 (Nat.le_of_ble_eq_true rfl) ?_
  refine aw_aload_n dX1_join_6 rfl ?_
  refine aw_iload_n dX1_join_7 rfl ?_
  refine cqi1 dX1_join_8 km1_19 ok_X1_firstOf rfl rfl (by decide) hk (Nat.le_of_ble_eq_true rfl) ⟨Nat.le_of_ble_eq_true rfl, Nat.le_of_ble_eq_true rfl⟩ rfl rfl (ct_Groups_firstOf hk hF hb hn) ?_
  refine aw_istore dX1_join_11 (Nat.le_of_ble_eq_true rfl) ?_
  refine aw_iload_n dX1_join_13 rfl ?_
  refine aw_iload dX1_join_14 rfl ?_
  refine aw_icmp_eqN dX1_join_16 rfl rfl (by omega) (by omega) (fun h_16 => ?_) (fun h_16 => ?_)
  · skip
    exact aw_ret dX1_join_36 (by
        first
          | exact ⟨_, rfl, hF.join ha hb h_16⟩
          | exact ⟨σ.2.1 (o + 1), by rw [uA_same], by rw [joinL_same h_16]; exact hF⟩)
  · skip
    refine aw_aload_n dX1_join_19 rfl ?_
    refine gf1_leads dX1_join_20 kf1_13 hk ?_
    refine aw_iload_n dX1_join_23 rfl ?_
    refine aw_iload dX1_join_24 rfl ?_
    refine aw_max dX1_join_26 km1_7 ⟨Nat.le_of_ble_eq_true rfl, Nat.le_of_ble_eq_true rfl⟩ ?_
    refine aw_eq (show _ = nI (max (lab a) (lab b)) by
      rw [Nat.max_def]
      by_cases q : lab a < lab b
      · rw [if_pos (nI_lt q (by omega)), if_pos (by omega)]
      · rw [if_neg (nI_nlt (by omega) (by omega))]
        by_cases q2 : lab a ≤ lab b
        · rw [if_pos q2, show lab a = lab b by omega]
        · rw [if_neg q2]) ?_
    refine aw_iload_n dX1_join_29 rfl ?_
    refine aw_iload dX1_join_30 rfl ?_
    refine aw_min dX1_join_32 km1_23 ⟨Nat.le_of_ble_eq_true rfl, Nat.le_of_ble_eq_true rfl⟩ ?_
    refine aw_eq (show _ = nI (min (lab a) (lab b)) by
      rw [Nat.min_def]
      by_cases q : lab b < lab a
      · rw [if_pos (nI_lt q (by omega)), if_neg (by omega)]
      · rw [if_neg (nI_nlt (by omega) (by omega)), if_pos (by omega)]) ?_
    refine aw_sto (max (lab a) (lab b)) dX1_join_35 (kf_1_leads hk) (rfl) (by omega) ?_
    exact aw_ret dX1_join_36 (by
        first
          | exact ⟨_, rfl, hF.join ha hb h_16⟩
          | exact ⟨σ.2.1 (o + 1), by rw [uA_same], by rw [joinL_same h_16]; exact hF⟩)

