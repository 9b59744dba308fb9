theorem absN {a b : Nat} (ha : a < 2 ^ 30) (hb : b < 2 ^ 30) : (if 0 ≤ nI a - nI b then nI a - nI b else 0 - (nI a - nI b)) = nI (a - b + (b - a)) := by
  have h0 : (0 : Int32) = nI 0 := rfl
  by_cases q : b ≤ a
  · rw [if_pos (by rw [h0, sub_geN ha hb (by decide)]; omega), pk_sub q, show b - a = 0 by omega, Nat.add_zero]
  · rw [if_neg (by rw [h0, sub_geN ha hb (by decide)]; omega), show a - b = 0 by omega, Nat.zero_add]
    apply Int32.toInt_inj.mp
    have e1 := pk_sub_toInt ha hb
    have e2 : (0 - (nI a - nI b)).toInt = 0 - (nI a - nI b).toInt := by
      rw [Int32.toInt_sub, Int32.toInt_zero, e1, Int.bmod_eq_of_le (by omega) (by omega)]
    rw [e2, e1, nI_toInt (by omega)]
    omega
/-- two pieces are near -/
def nearN (pc : Nat → Nat → Nat) (sl gp i j : Nat) : Bool := decide (pc i 0 = pc j 0) && (decide (pc i 1 - pc j 1 + (pc j 1 - pc i 1) ≤ sl) && decide (max (pc i 2) (pc j 2) ≤ min (pc i 3) (pc j 3) + gp))
def SetN (σ : SG) (sl gp rc : Nat) : Prop := σ.2.1 6 0 = nI sl ∧ σ.2.1 6 1 = nI gp ∧ σ.2.1 6 2 = nI rc ∧ sl ≤ 3 ∧ gp ≤ 9 ∧ rc ≤ 5
set_option maxHeartbeats 4000000 in
set_option maxRecDepth 100000 in
theorem ct_Rules_has {g : GG} {σ : SG} (row : Int32) : Cti g yX7_has cX7_has 2 (some .boolean) (rmm 0 0) [.ref (ad g 24), .int row] σ (fun r σ' => r = (if ¬ row < 0 ∧ ¬ σ.1 226 24 ≤ row then 1 else 0) ∧ σ' = σ) := by
  refine ct_of (own := RX7) (lv := [some (.ref (ad g 24)), some (.int row)]) rfl (by decide) (Nat.le_of_ble_eq_true rfl) (by intro u hu; simp only [List.mem_cons, List.not_mem_nil, or_false] at hu; rcases hu with rfl | rfl <;> rfl) (lv_ok [.ref (ad g 24), .int row] 0) ?_
  refine aw_iload_n dX7_has_0 rfl ?_
  refine aw_if_lt dX7_has_1 (fun h_1 => ?_) (fun h_1 => ?_)
  · skip
    refine aw_ic (nI 0) dX7_has_16 (by decide) ?_
    exact aw_iretz dX7_has_17 (by decide) (by first | exact ⟨(if_pos (by simp_all)).symm, rfl⟩ | exact ⟨(if_neg (by simp_all)).symm, rfl⟩)
  · skip
    refine aw_iload_n dX7_has_4 rfl ?_
    refine aw_aload_n dX7_has_5 rfl ?_
    refine gf7_count dX7_has_6 kf7_22 k_24 ?_
    refine aw_icmp_ge dX7_has_9 (fun h_9 => ?_) (fun h_9 => ?_)
    · skip
      refine aw_ic (nI 0) dX7_has_16 (by decide) ?_
      exact aw_iretz dX7_has_17 (by decide) (by first | exact ⟨(if_pos (by simp_all)).symm, rfl⟩ | exact ⟨(if_neg (by simp_all)).symm, rfl⟩)
    · skip
      refine aw_ic (nI 1) dX7_has_12 (by decide) ?_
      refine aw_goto dX7_has_13 ?_
      exact aw_iretz dX7_has_17 (by decide) (by first | exact ⟨(if_pos (by simp_all)).symm, rfl⟩ | exact ⟨(if_neg (by simp_all)).symm, rfl⟩)

set_option maxHeartbeats 4000000 in
set_option maxRecDepth 100000 in
theorem ct_areNear {g : GG} {σ : SG} {c i j sl gp rc : Nat} {pc : Nat → Nat → Nat} (hR : RowN σ 2 c pc) (hS : SetN σ sl gp rc) (hi : i < c) (hj : j < c) : Cti g yX7_areNear cX7_areNear 7 (some .boolean) (rmm 1 23) [.ref (ad g 2), .int (nI i), .int (nI j), .ref (ad g 6)] σ (fun r σ' => r = (if nearN pc sl gp i j = true then 1 else 0) ∧ σ' = σ) := by
  refine ct_of (own := RX7) (lv := [some (.ref (ad g 2)), some (.int (nI i)), some (.int (nI j)), some (.ref (ad g 6)), none, none, none]) rfl (by decide) (Nat.le_of_ble_eq_true rfl) (by intro u hu; simp only [List.mem_cons, List.not_mem_nil, or_false] at hu; rcases hu with rfl | rfl | rfl | rfl <;> rfl) (lv_ok [.ref (ad g 2), .int (nI i), .int (nI j), .ref (ad g 6)] 3) ?_
  obtain ⟨s0, s1, s2, b0, b1, b2⟩ := hS
  have hl6 := l_6
  have i1 := (hR.2.2.2 i 1 hi (by decide)).2
  have j1 := (hR.2.2.2 j 1 hj (by decide)).2
  have i2 := (hR.2.2.2 i 2 hi (by decide)).2
  have j2 := (hR.2.2.2 j 2 hj (by decide)).2
  have i3 := (hR.2.2.2 i 3 hi (by decide)).2
  have j3 := (hR.2.2.2 j 3 hj (by decide)).2
  have i0 := (hR.2.2.2 i 0 hi (by decide)).2
  have j0 := (hR.2.2.2 j 0 hj (by decide)).2
  refine aw_aload_n dX7_areNear_0 rfl ?_
  refine aw_iload_n dX7_areNear_1 rfl ?_
  refine aw_ic (nI 1) dX7_areNear_2 (by decide) ?_
  refine cqi2 dX7_areNear_3 km7_67 ok_X5_number rfl rfl (by decide) k_2 (Nat.le_of_ble_eq_true rfl) ⟨Nat.le_of_ble_eq_true rfl, Nat.le_of_ble_eq_true rfl⟩ rfl rfl (ct_num hR hi (by decide)) ?_
  refine aw_aload_n dX7_areNear_6 rfl ?_
  refine aw_iload_n dX7_areNear_7 rfl ?_
  refine aw_ic (nI 1) dX7_areNear_8 (by decide) ?_
  refine cqi2 dX7_areNear_9 km7_67 ok_X5_number rfl rfl (by decide) k_2 (Nat.le_of_ble_eq_true rfl) ⟨Nat.le_of_ble_eq_true rfl, Nat.le_of_ble_eq_true rfl⟩ rfl rfl (ct_num hR hj (by decide)) ?_
  refine aw_isub dX7_areNear_12 ?_
  refine aw_abs dX7_areNear_13 km7_71 ⟨Nat.le_of_ble_eq_true rfl, Nat.le_of_ble_eq_true rfl⟩ ?_
  refine aw_eq (absN (by omega) (by omega)) ?_
  refine aw_istore dX7_areNear_16 (Nat.le_of_ble_eq_true rfl) ?_
  refine aw_aload_n dX7_areNear_18 rfl ?_
  refine aw_iload_n dX7_areNear_19 rfl ?_
  refine aw_ic (nI 2) dX7_areNear_20 (by decide) ?_
  refine cqi2 dX7_areNear_21 km7_67 ok_X5_number rfl rfl (by decide) k_2 (Nat.le_of_ble_eq_true rfl) ⟨Nat.le_of_ble_eq_true rfl, Nat.le_of_ble_eq_true rfl⟩ rfl rfl (ct_num hR hi (by decide)) ?_
  refine aw_aload_n dX7_areNear_24 rfl ?_
  refine aw_iload_n dX7_areNear_25 rfl ?_
  refine aw_ic (nI 2) dX7_areNear_26 (by decide) ?_
  refine cqi2 dX7_areNear_27 km7_67 ok_X5_number rfl rfl (by decide) k_2 (Nat.le_of_ble_eq_true rfl) ⟨Nat.le_of_ble_eq_true rfl, Nat.le_of_ble_eq_true rfl⟩ rfl rfl (ct_num hR hj (by decide)) ?_
  refine aw_max dX7_areNear_30 km7_77 ⟨Nat.le_of_ble_eq_true rfl, Nat.le_of_ble_eq_true rfl⟩ ?_
  refine aw_eq (maxN (by omega) (by omega)) ?_
  refine aw_istore dX7_areNear_33 (Nat.le_of_ble_eq_true rfl) ?_
  refine aw_aload_n dX7_areNear_35 rfl ?_
  refine aw_iload_n dX7_areNear_36 rfl ?_
  refine aw_ic (nI 3) dX7_areNear_37 (by decide) ?_
  refine cqi2 dX7_areNear_38 km7_67 ok_X5_number rfl rfl (by decide) k_2 (Nat.le_of_ble_eq_true rfl) ⟨Nat.le_of_ble_eq_true rfl, Nat.le_of_ble_eq_true rfl⟩ rfl rfl (ct_num hR hi (by decide)) ?_
  refine aw_aload_n dX7_areNear_41 rfl ?_
  refine aw_iload_n dX7_areNear_42 rfl ?_
  refine aw_ic (nI 3) dX7_areNear_43 (by decide) ?_
  refine cqi2 dX7_areNear_44 km7_67 ok_X5_number rfl rfl (by decide) k_2 (Nat.le_of_ble_eq_true rfl) ⟨Nat.le_of_ble_eq_true rfl, Nat.le_of_ble_eq_true rfl⟩ rfl rfl (ct_num hR hj (by decide)) ?_
  refine aw_min dX7_areNear_47 km7_80 ⟨Nat.le_of_ble_eq_true rfl, Nat.le_of_ble_eq_true rfl⟩ ?_
  refine aw_eq (minN (by omega) (by omega)) ?_
  refine aw_istore dX7_areNear_50 (Nat.le_of_ble_eq_true rfl) ?_
  refine aw_aload_n dX7_areNear_52 rfl ?_
  refine aw_iload_n dX7_areNear_53 rfl ?_
  refine aw_ic (nI 0) dX7_areNear_54 (by decide) ?_
  refine cqi2 dX7_areNear_55 km7_67 ok_X5_number rfl rfl (by decide) k_2 (Nat.le_of_ble_eq_true rfl) ⟨Nat.le_of_ble_eq_true rfl, Nat.le_of_ble_eq_true rfl⟩ rfl rfl (ct_num hR hi (by decide)) ?_
  refine aw_aload_n dX7_areNear_58 rfl ?_
  refine aw_iload_n dX7_areNear_59 rfl ?_
  refine aw_ic (nI 0) dX7_areNear_60 (by decide) ?_
  refine cqi2 dX7_areNear_61 km7_67 ok_X5_number rfl rfl (by decide) k_2 (Nat.le_of_ble_eq_true rfl) ⟨Nat.le_of_ble_eq_true rfl, Nat.le_of_ble_eq_true rfl⟩ rfl rfl (ct_num hR hj (by decide)) ?_
  refine aw_icmp_neN dX7_areNear_64 rfl rfl (by omega) (by omega) (fun h_64 => ?_) (fun h_64 => ?_)
  · skip
    refine aw_ic (nI 0) dX7_areNear_90 (by decide) ?_
    exact aw_iretz dX7_areNear_91 (by decide) (by
        refine ⟨?_, rfl⟩
        unfold nearN
        first
          | (rw [if_pos (by simp; omega)]; rfl)
          | (rw [if_neg (by simp; omega)]; rfl))
  · skip
    refine aw_iload dX7_areNear_67 rfl ?_
    refine aw_aload_n dX7_areNear_69 rfl ?_
    refine aw_ic (nI 0) dX7_areNear_70 (by decide) ?_
    refine aw_ld (0) dX7_areNear_71 k_6 (rfl) (by omega) ?_
    refine aw_eq s0 ?_
    refine aw_icmp_gtN dX7_areNear_72 rfl rfl (by omega) (by omega) (fun h_72 => ?_) (fun h_72 => ?_)
    · skip
      refine aw_ic (nI 0) dX7_areNear_90 (by decide) ?_
      exact aw_iretz dX7_areNear_91 (by decide) (by
          refine ⟨?_, rfl⟩
          unfold nearN
          first
            | (rw [if_pos (by simp; omega)]; rfl)
            | (rw [if_neg (by simp; omega)]; rfl))
    · skip
      refine aw_iload dX7_areNear_75 rfl ?_
      refine aw_iload dX7_areNear_77 rfl ?_
      refine aw_isub dX7_areNear_79 ?_
      refine aw_aload_n dX7_areNear_80 rfl ?_
      refine aw_ic (nI 1) dX7_areNear_81 (by decide) ?_
      refine aw_ld (1) dX7_areNear_82 k_6 (rfl) (by omega) ?_
      refine aw_eq s1 ?_
      refine aw_icmp_gt dX7_areNear_83 (fun h_83 => ?_) (fun h_83 => ?_)
      all_goals rw [sub_gtN (by omega) (by omega) (by omega)] at h_83
      · skip
        refine aw_ic (nI 0) dX7_areNear_90 (by decide) ?_
        exact aw_iretz dX7_areNear_91 (by decide) (by
            refine ⟨?_, rfl⟩
            unfold nearN
            first
              | (rw [if_pos (by simp; omega)]; rfl)
              | (rw [if_neg (by simp; omega)]; rfl))
      · skip
        refine aw_ic (nI 1) dX7_areNear_86 (by decide) ?_
        refine aw_goto dX7_areNear_87 ?_
        exact aw_iretz dX7_areNear_91 (by decide) (by
            refine ⟨?_, rfl⟩
            unfold nearN
            first
              | (rw [if_pos (by simp; omega)]; rfl)
              | (rw [if_neg (by simp; omega)]; rfl))

/-- labels, joined by a test r, of pairs (i, j), j less than i, in order: i and those below it done up to j -/
def labJ (r : Nat → Nat → Bool) (lab : Nat → Nat) (i : Nat) : Nat → (Nat → Nat)
  | 0 => lab
  | j + 1 => if r i j = true then joinL (labJ r lab i j) i j else labJ r lab i j
def labI (r : Nat → Nat → Bool) : Nat → (Nat → Nat)
  | 0 => fun k => k
  | i + 1 => labJ r (labI r i) i i
theorem RowN.keep {σ σ' : SG} {o c : Nat} {v : Nat → Nat → Nat} (h : RowN σ o c v) (h1 : σ'.1 162 o = σ.1 162 o) (h2 : σ'.2.1 (o + 1) = σ.2.1 (o + 1)) : RowN σ' o c v := ⟨h.1, h1.trans h.2.1, h.2.2.1, by rw [h2]; exact h.2.2.2⟩
theorem SetN.keep {σ σ' : SG} {a b c : Nat} (h : SetN σ a b c) (h2 : σ'.2.1 6 = σ.2.1 6) : SetN σ' a b c := by unfold SetN; rw [h2]; exact h
-- joinNear: below
set_option maxHeartbeats 4000000 in
set_option maxRecDepth 100000 in
theorem ct_joinNear {g : GG} {σ : SG} {c sl gp rc : Nat} {pc : Nat → Nat → Nat} (hR : RowN σ 2 c pc) (hS : SetN σ sl gp rc) : Ctv g yX7_joinNear cX7_joinNear 5 (rmm 2 49) [.ref (ad g 1), .ref (ad g 22)] σ (fun σ' => ∃ L, σ' = (σ.1, uA σ.2.1 23 L, σ.2.2) ∧ Fo c (labI (nearN pc sl gp) c) L) := by
  refine ct_of (own := RX7) (lv := [some (.ref (ad g 1)), some (.ref (ad g 22)), none, none, none]) rfl (by decide) (Nat.le_of_ble_eq_true rfl) (by intro u hu; simp only [List.mem_cons, List.not_mem_nil, or_false] at hu; rcases hu with rfl | rfl <;> rfl) (lv_ok [.ref (ad g 1), .ref (ad g 22)] 3) ?_
  have hl23 := l_23
  have hc24 : c ≤ 24 := by have := hR.2.2.1; rw [show ln (2 + 1) = 96 from l_3] at this; omega
  refine aw_aload_n dX7_joinNear_0 rfl ?_
  refine gf3_pieces dX7_joinNear_1 kf7_30 k_1 ?_
  refine aw_eqr (b := 2) rfl ?_
  refine aw_astore_n dX7_joinNear_4 (Nat.le_of_ble_eq_true rfl) ?_
  refine aw_aload_n dX7_joinNear_5 rfl ?_
  refine aw_aload_n dX7_joinNear_6 rfl ?_
  refine gf5_count dX7_joinNear_7 kf7_43 k_2 ?_
  refine aw_eq hR.2.1 ?_
  refine cvv1 dX7_joinNear_10 km7_50 ok_X1_part rfl rfl (by decide) k_22 (Nat.le_of_ble_eq_true rfl) ⟨Nat.le_of_ble_eq_true rfl, Nat.le_of_ble_eq_true rfl⟩ rfl rfl (ct_Groups_part (c := c) k_22 (by omega)) ?_
  intro σ1 hp_10
  subst hp_10
  refine aw_ic (nI 1) dX7_joinNear_13 (by decide) ?_
  refine aw_istore_n dX7_joinNear_14 (Nat.le_of_ble_eq_true rfl) ?_
  rcases Nat.eq_zero_or_pos c with h0 | hpos
  · subst h0
    refine aw_iload_n dX7_joinNear_15 rfl ?_
    refine aw_aload_n dX7_joinNear_16 rfl ?_
    refine gf5_count dX7_joinNear_17 kf7_43 k_2 ?_
    refine aw_eq hR.2.1 ?_
    refine aw_icmp_geN dX7_joinNear_20 rfl rfl (by omega) (by omega) (fun h_20 => ?_) (fun h_20 => absurd h_20 (by omega))
    exact aw_ret dX7_joinNear_65 (⟨_, rfl, fun k hk => absurd hk (Nat.not_lt_zero k)⟩)
  refine for_wf (fun n σ' lv => ∃ i, n + i = c ∧ 1 ≤ i ∧ ∃ L x, σ' = (σ.1, uA σ.2.1 23 L, σ.2.2) ∧ Fo c (labI (nearN pc sl gp) i) L ∧ lv = [some (.ref (ad g 1)), some (.ref (ad g 22)), some (.ref (ad g 2)), some (.int (nI i)), x]) ?_ (c - 1) _ _ ⟨1, by omega, by omega, _, _, rfl, ?_, rfl⟩
  · rintro n σ2 lv2 ⟨i, hn, hi1, L, x, rfl, hF, rfl⟩ ih
    have hR2 : RowN (σ.1, uA σ.2.1 23 L, σ.2.2) 2 c pc := hR.keep rfl (by simp [uA])
    have hS2 : SetN (σ.1, uA σ.2.1 23 L, σ.2.2) sl gp rc := hS.keep (by simp [uA])
    refine aw_iload_n dX7_joinNear_15 rfl ?_
    refine aw_aload_n dX7_joinNear_16 rfl ?_
    refine gf5_count dX7_joinNear_17 kf7_43 k_2 ?_
    refine aw_eq hR2.2.1 ?_
    refine aw_icmp_geN dX7_joinNear_20 rfl rfl (by omega) (by omega) (fun h_20 => ?_) (fun h_20 => ?_)
    · skip
      exact aw_ret dX7_joinNear_65 (⟨L, rfl, by rw [show c = i by omega]; rw [show c = i by omega] at hF; exact hF⟩)
    · skip
      refine aw_ic (nI 0) dX7_joinNear_23 (by decide) ?_
      refine aw_istore dX7_joinNear_24 (Nat.le_of_ble_eq_true rfl) ?_
      refine for_up (fun j σ' => ∃ M, σ' = (σ.1, uA σ.2.1 23 M, σ.2.2) ∧ Fo c (labJ (nearN pc sl gp) (labI (nearN pc sl gp) i) i j) M) (fun j => [some (.ref (ad g 1)), some (.ref (ad g 22)), some (.ref (ad g 2)), some (.int (nI i)), some (.int (nI j))]) i ?_ ?_ 0 _ (Nat.zero_le _) ⟨L, rfl, hF⟩
      · rintro j σ3 hj ⟨M, rfl, hM⟩ ih2
        have hR3 : RowN (σ.1, uA σ.2.1 23 M, σ.2.2) 2 c pc := hR.keep rfl (by simp [uA])
        have hS3 : SetN (σ.1, uA σ.2.1 23 M, σ.2.2) sl gp rc := hS.keep (by simp [uA])
        refine aw_iload dX7_joinNear_26 rfl ?_
        refine aw_iload_n dX7_joinNear_28 rfl ?_
        refine aw_icmp_geN dX7_joinNear_29 rfl rfl (by omega) (by omega) (fun h_29 => absurd h_29 (by omega)) (fun h_29 => ?_)
        refine aw_aload_n dX7_joinNear_32 rfl ?_
        refine aw_iload_n dX7_joinNear_33 rfl ?_
        refine aw_iload dX7_joinNear_34 rfl ?_
        refine aw_aload_n dX7_joinNear_36 rfl ?_
        refine gf3_settings dX7_joinNear_37 kf7_56 k_1 ?_
        refine aw_eqr (b := 6) rfl ?_
        refine csq4 dX7_joinNear_40 km7_59 ok_X7_areNear (Nat.le_of_ble_eq_true rfl) ⟨Nat.le_of_ble_eq_true rfl, Nat.le_of_ble_eq_true rfl⟩ rfl rfl (ct_areNear hR3 hS3 (by omega) (by omega)) ?_
        refine aw_if_eqB dX7_joinNear_43 rfl (fun h_43 => ?_) (fun h_43 => ?_)
        · skip
          refine aw_inc (nI (j + 1)) dX7_joinNear_53 rfl (Nat.le_of_ble_eq_true rfl) (nI_1 j) ?_
          refine aw_goto dX7_joinNear_56 ?_
          first
            | exact ih2 _ ⟨M2, by rw [uA_uA], by unfold labJ; rw [if_pos h_43]; exact hM2⟩
            | exact ih2 _ ⟨M, rfl, by unfold labJ; rw [if_neg h_43]; exact hM⟩
        · skip
          refine aw_aload_n dX7_joinNear_46 rfl ?_
          refine aw_iload_n dX7_joinNear_47 rfl ?_
          refine aw_iload dX7_joinNear_48 rfl ?_
          refine cvv2 dX7_joinNear_50 km7_63 ok_X1_join rfl rfl (by decide) k_22 (Nat.le_of_ble_eq_true rfl) ⟨Nat.le_of_ble_eq_true rfl, Nat.le_of_ble_eq_true rfl⟩ rfl rfl (ct_Groups_join (a := i) (b := j) k_22 hM (by omega) (by omega) (by omega)) ?_
          intro σ4 hp_50
          obtain ⟨M2, rfl, hM2⟩ := hp_50
          refine aw_inc (nI (j + 1)) dX7_joinNear_53 rfl (Nat.le_of_ble_eq_true rfl) (nI_1 j) ?_
          refine aw_goto dX7_joinNear_56 ?_
          first
            | exact ih2 _ ⟨M2, by rw [uA_uA], by unfold labJ; rw [if_pos h_43]; exact hM2⟩
            | exact ih2 _ ⟨M, rfl, by unfold labJ; rw [if_neg h_43]; exact hM⟩
      · rintro σ3 ⟨M, rfl, hM⟩
        refine aw_iload dX7_joinNear_26 rfl ?_
        refine aw_iload_n dX7_joinNear_28 rfl ?_
        refine aw_icmp_geN dX7_joinNear_29 rfl rfl (by omega) (by omega) (fun h_29 => ?_) (fun h_29 => absurd h_29 (by omega))
        refine aw_inc (nI (i + 1)) dX7_joinNear_59 rfl (Nat.le_of_ble_eq_true rfl) (nI_1 i) ?_
        refine aw_goto dX7_joinNear_62 ?_
        exact ih (n - 1) _ _ (by omega) ⟨i + 1, by omega, by omega, M, _, rfl, hM, rfl⟩
  · show Fo c (labI (nearN pc sl gp) 1) _
    have e : labI (nearN pc sl gp) 1 = fun k => k := rfl
    rw [e]
    exact Fo.part (fun k hk => by unfold cp_; rw [if_pos hk])

