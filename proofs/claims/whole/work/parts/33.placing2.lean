theorem k_tab {t : Nat} (h : t < 6) : kd (51 + 1 + 20 * t) = 8 := by
  have : ∀ t, t < 6 → kd (51 + 1 + 20 * t) = 8 := by decide +kernel
  exact this t h
/-- the field, if any, in which the middle of a word lies in a table -/
def roW (wd : Nat → Nat → Nat) (pl : Nat → Nat → Nat) (nr x : Nat) : Nat := fst (btw (pl 0) (wd x 1 + wd x 3)) nr
def coW (wd : Nat → Nat → Nat) (pl : Nat → Nat → Nat) (nc x : Nat) : Nat := fst (btw (pl 1) (wd x 0 + wd x 2)) nc
def inW (wd : Nat → Nat → Nat) (pl : Nat → Nat → Nat → Nat) (nr nc : Nat → Nat) (x t : Nat) : Bool := decide (roW wd (pl t) (nr t) x < nr t) && decide (coW wd (pl t) (nc t) x < nc t)
def wTa (wd : Nat → Nat → Nat) (pl : Nat → Nat → Nat → Nat) (nr nc : Nat → Nat) (tn x : Nat) : Nat := fst (inW wd pl nr nc x) tn
def wCe (wd : Nat → Nat → Nat) (pl : Nat → Nat → Nat → Nat) (nr nc : Nat → Nat) (fc : Nat → Nat → Nat) (tn x : Nat) : Nat := fc (wTa wd pl nr nc tn x) (roW wd (pl (wTa wd pl nr nc tn x)) (nr (wTa wd pl nr nc tn x)) x * nc (wTa wd pl nr nc tn x) + coW wd (pl (wTa wd pl nr nc tn x)) (nc (wTa wd pl nr nc tn x)) x)
/-- the tables, with so many words in them and in their cells -/
def TbsP (σ : SG) (tn : Nat) (n : Nat → Nat → Nat) (pl : Nat → Nat → Nat → Nat) (nr nc cc : Nat → Nat) (fc : Nat → Nat → Nat) (cv : Nat → Nat → Nat → Nat) (wn : Nat → Nat) : Prop := tn ≤ 6 ∧ ∀ t, t < tn → LinN σ (51 + 1 + 20 * t + 1) (n t) (pl t) ∧ TaC σ (51 + 1 + 20 * t) (nr t) (nc t) (cc t) (fc t) (cv t) ∧ n t 0 = nr t + 1 ∧ n t 1 = nc t + 1 ∧ σ.1 266 (51 + 1 + 20 * t) = nI (wn t) ∧ wn t ≤ 99 ∧ ∀ q, q < cc t → cv t q 6 ≤ 99
set_option maxHeartbeats 4000000 in
set_option maxRecDepth 100000 in
theorem ct_place {g : GG} {σ : SG} {c i tn lo : Nat} {n : Nat → Nat → Nat} {pl : Nat → Nat → Nat → Nat} {nr nc cc wn : Nat → Nat} {fc : Nat → Nat → Nat} {cv : Nat → Nat → Nat → Nat} {wd : Nat → Nat → Nat} (hR : RowN σ 4 c wd) (hc20 : c ≤ 20) (hi : i < c) (hT : TbsP σ tn n pl nr nc cc fc cv wn) (hlo : σ.1 132 172 = nI lo) : Ctv g yX4_place cX4_place 12 (rmm 1 23) [.ref (ad g 172), .int (nI i), .ref (ad g 4), .ref (ad g 51), .int (nI tn)] σ (fun σ' => (wTa wd pl nr nc tn i < tn ∧ σ' = (uI σ.1 266 (51 + 1 + 20 * wTa wd pl nr nc tn i) (nI (wn (wTa wd pl nr nc tn i) + 1)), uA (uA (uA σ.2.1 173 (upd (σ.2.1 173) i (nI (wTa wd pl nr nc tn i)))) 174 (upd (σ.2.1 174) i (nI (wCe wd pl nr nc fc tn i)))) (51 + 1 + 20 * wTa wd pl nr nc tn i + 8 + 1 + 6) (upd (σ.2.1 (51 + 1 + 20 * wTa wd pl nr nc tn i + 8 + 1 + 6)) (wCe wd pl nr nc fc tn i) (nI (cv (wTa wd pl nr nc tn i) (wCe wd pl nr nc fc tn i) 6 + 1))), σ.2.2)) ∨ (¬ wTa wd pl nr nc tn i < tn ∧ σ' = (uI σ.1 132 172 (nI (lo + 1)), uA (uA σ.2.1 173 (upd (σ.2.1 173) i (-6))) 174 (upd (σ.2.1 174) i (-6)), σ.2.2))) := by
  refine ct_of (own := RX4) (lv := [some (.ref (ad g 172)), some (.int (nI i)), some (.ref (ad g 4)), some (.ref (ad g 51)), some (.int (nI tn)), none, none, none, none, none, none, none]) rfl (by decide) (Nat.le_of_ble_eq_true rfl) (by intro u hu; simp only [List.mem_cons, List.not_mem_nil, or_false] at hu; rcases hu with rfl | rfl | rfl | rfl | rfl <;> rfl) (lv_ok [.ref (ad g 172), .int (nI i), .ref (ad g 4), .ref (ad g 51), .int (nI tn)] 7) ?_
  have w0 := (hR.2.2.2 i 0 hi (by decide)).2
  have w1 := (hR.2.2.2 i 1 hi (by decide)).2
  have w2 := (hR.2.2.2 i 2 hi (by decide)).2
  have w3 := (hR.2.2.2 i 3 hi (by decide)).2
  have l3 := l_173
  have l4 := l_174
  have l51 := l_51
  have htn6 := hT.1
  refine aw_aload_n dX4_place_0 rfl ?_
  refine aw_iload_n dX4_place_1 rfl ?_
  refine aw_ic (nI 0) dX4_place_2 (by decide) ?_
  refine cqi2 dX4_place_3 km4_39 ok_X5_number rfl rfl (by decide) k_4 (Nat.le_of_ble_eq_true rfl) ⟨Nat.le_of_ble_eq_true rfl, Nat.le_of_ble_eq_true rfl⟩ rfl rfl (ct_num hR hi (by decide)) ?_
  refine aw_aload_n dX4_place_6 rfl ?_
  refine aw_iload_n dX4_place_7 rfl ?_
  refine aw_ic (nI 2) dX4_place_8 (by decide) ?_
  refine cqi2 dX4_place_9 km4_39 ok_X5_number rfl rfl (by decide) k_4 (Nat.le_of_ble_eq_true rfl) ⟨Nat.le_of_ble_eq_true rfl, Nat.le_of_ble_eq_true rfl⟩ rfl rfl (ct_num hR hi (by decide)) ?_
  refine aw_iadd dX4_place_12 ?_
  refine aw_eq (nI_add _ _) ?_
  refine aw_istore dX4_place_13 (Nat.le_of_ble_eq_true rfl) ?_
  refine aw_aload_n dX4_place_15 rfl ?_
  refine aw_iload_n dX4_place_16 rfl ?_
  refine aw_ic (nI 1) dX4_place_17 (by decide) ?_
  refine cqi2 dX4_place_18 km4_39 ok_X5_number rfl rfl (by decide) k_4 (Nat.le_of_ble_eq_true rfl) ⟨Nat.le_of_ble_eq_true rfl, Nat.le_of_ble_eq_true rfl⟩ rfl rfl (ct_num hR hi (by decide)) ?_
  refine aw_aload_n dX4_place_21 rfl ?_
  refine aw_iload_n dX4_place_22 rfl ?_
  refine aw_ic (nI 3) dX4_place_23 (by decide) ?_
  refine cqi2 dX4_place_24 km4_39 ok_X5_number rfl rfl (by decide) k_4 (Nat.le_of_ble_eq_true rfl) ⟨Nat.le_of_ble_eq_true rfl, Nat.le_of_ble_eq_true rfl⟩ rfl rfl (ct_num hR hi (by decide)) ?_
  refine aw_iadd dX4_place_27 ?_
  refine aw_eq (nI_add _ _) ?_
  refine aw_istore dX4_place_28 (Nat.le_of_ble_eq_true rfl) ?_
  refine aw_ic (nI 0) dX4_place_30 (by decide) ?_
  refine aw_istore dX4_place_31 (Nat.le_of_ble_eq_true rfl) ?_
  refine for_wf (fun nn σ' lv => ∃ t, nn + t = tn ∧ ∃ x8 x9 x10 x11, (∀ s, s < t → inW wd pl nr nc i s = false) ∧ σ' = σ ∧ lv = [some (.ref (ad g 172)), some (.int (nI i)), some (.ref (ad g 4)), some (.ref (ad g 51)), some (.int (nI tn)), some (.int (nI (wd i 0 + wd i 2))), some (.int (nI (wd i 1 + wd i 3))), some (.int (nI t)), x8, x9, x10, x11]) ?_ tn _ _ ⟨0, by omega, _, _, _, _, fun s h => absurd h (Nat.not_lt_zero s), rfl, rfl⟩
  rintro nn σ2 lv2 ⟨t, hn, x8, x9, x10, x11, hno, rfl, rfl⟩ ih
  refine aw_iload dX4_place_33 rfl ?_
  refine aw_iload dX4_place_35 rfl ?_
  refine aw_icmp_geN dX4_place_37 rfl rfl (by omega) (by omega) (fun h_37 => ?_) (fun h_37 => ?_)
  · skip
    refine aw_aload_n dX4_place_142 rfl ?_
    refine gf4_tables dX4_place_143 kf4_9 k_172 ?_
    refine aw_eqr (b := 173) rfl ?_
    refine aw_iload_n dX4_place_146 rfl ?_
    refine aw_bi (-6) dX4_place_147 (by decide) ?_
    refine aw_sto (i) dX4_place_149 k_173 (rfl) (by omega) ?_
    refine aw_aload_n dX4_place_150 rfl ?_
    refine gf4_cells dX4_place_151 kf4_15 k_172 ?_
    refine aw_eqr (b := 174) rfl ?_
    refine aw_iload_n dX4_place_154 rfl ?_
    refine aw_bi (-6) dX4_place_155 (by decide) ?_
    refine aw_sto (i) dX4_place_157 k_174 (rfl) (by omega) ?_
    refine aw_aload_n dX4_place_158 rfl ?_
    refine aw_dup dX4_place_159 rfl ?_
    refine gf4_loose dX4_place_160 kf4_28 k_172 ?_
    refine aw_eq hlo ?_
    refine aw_ic (nI 1) dX4_place_163 (by decide) ?_
    refine aw_iadd dX4_place_164 ?_
    refine aw_eq (nI_1 _) ?_
    refine pf4_loose dX4_place_165 kf4_28 k_172 ?_
    exact aw_ret dX4_place_168 (by
        have hT9 : wTa wd pl nr nc tn i = tn := fst_none (fun s hs => hno s (by omega))
        refine Or.inr ⟨by rw [hT9]; omega, ?_⟩
        rw [uA_n (show (174 : Nat) ≠ 173 by decide)])
  · skip
    refine aw_aload_n dX4_place_40 rfl ?_
    refine aw_iload dX4_place_41 rfl ?_
    have ht6 : t < 6 := by have := hT.1; omega
    obtain ⟨hLt, hCt, hn0, hn1, hwn, hwb, hb6⟩ := hT.2 t (by omega)
    have hk8 := k_tab ht6
    refine aw_ald15 (t) dX4_place_43 k_51 (rfl) (by omega) ?_
    refine aw_astore dX4_place_44 (Nat.le_of_ble_eq_true rfl) ?_
    by_cases hin : roW wd (pl t) (nr t) i < nr t ∧ coW wd (pl t) (nc t) i < nc t
    · skip
      refine aw_aload dX4_place_46 rfl ?_
      refine gf8_lines dX4_place_48 kf4_43 hk8 ?_
      refine aw_ic (nI 0) dX4_place_51 (by decide) ?_
      refine aw_iload dX4_place_52 rfl ?_
      refine cqi2 dX4_place_54 km4_49 ok_X2_lineBefore rfl rfl (by decide) (kf_8_lines hk8) (Nat.le_of_ble_eq_true rfl) ⟨Nat.le_of_ble_eq_true rfl, Nat.le_of_ble_eq_true rfl⟩ rfl rfl (ct_Lines_lineBefore (d := wd i 1 + wd i 3) hLt (show 0 < 2 by decide) (by omega)) ?_
      refine aw_eq (show _ = nI (roW wd (pl t) (nr t) i) by rw [show n t 0 - 1 = nr t by omega]; exact orN_y hin.1) ?_
      refine aw_istore dX4_place_57 (Nat.le_of_ble_eq_true rfl) ?_
      refine aw_aload dX4_place_59 rfl ?_
      refine gf8_lines dX4_place_61 kf4_43 hk8 ?_
      refine aw_ic (nI 1) dX4_place_64 (by decide) ?_
      refine aw_iload dX4_place_65 rfl ?_
      refine cqi2 dX4_place_67 km4_49 ok_X2_lineBefore rfl rfl (by decide) (kf_8_lines hk8) (Nat.le_of_ble_eq_true rfl) ⟨Nat.le_of_ble_eq_true rfl, Nat.le_of_ble_eq_true rfl⟩ rfl rfl (ct_Lines_lineBefore (d := wd i 0 + wd i 2) hLt (show 1 < 2 by decide) (by omega)) ?_
      refine aw_eq (show _ = nI (coW wd (pl t) (nc t) i) by rw [show n t 1 - 1 = nc t by omega]; exact orN_y hin.2) ?_
      refine aw_istore dX4_place_70 (Nat.le_of_ble_eq_true rfl) ?_
      refine aw_aload dX4_place_72 rfl ?_
      refine aw_iload dX4_place_74 rfl ?_
      refine aw_iload dX4_place_76 rfl ?_
      refine cqi2 dX4_place_78 km4_54 ok_X8_cellOf rfl rfl (by decide) hk8 (Nat.le_of_ble_eq_true rfl) ⟨Nat.le_of_ble_eq_true rfl, Nat.le_of_ble_eq_true rfl⟩ rfl rfl (ct_cellOf hCt hin.1 hin.2) ?_
      have hqq := (hCt.2.2.2.1 _ (rc_lt hin.1 hin.2)).2
      generalize hqe : fc t (roW wd (pl t) (nr t) i * nc t + coW wd (pl t) (nc t) i) = q at hqq ⊢
      have hccl := hCt.2.2.1
      have hcap : nr t * nc t ≤ ln (51 + 1 + 20 * t + 7) := hCt.1.2.2.2.2.2.2.2.2
      have hl7 := ln_t7 hk8
      have hl8 := (ln_t8 hk8).1
      have e96 := (ln_t9 hk8 (show 6 < 7 by decide)).1
      obtain ⟨v6, -⟩ := hCt.2.2.2.2 q 6 hqq (by decide)
      have b6 := hb6 q hqq
      refine aw_istore dX4_place_81 (Nat.le_of_ble_eq_true rfl) ?_
      refine aw_aload dX4_place_83 rfl ?_
      refine aw_iload dX4_place_85 rfl ?_
      refine cqi1 dX4_place_87 km4_57 ok_X8_hasCell rfl rfl (by decide) hk8 (Nat.le_of_ble_eq_true rfl) ⟨Nat.le_of_ble_eq_true rfl, Nat.le_of_ble_eq_true rfl⟩ rfl rfl (ct_hasCell hk8 (nI q)) ?_
      refine aw_if_eqB dX4_place_90 rfl (fun h_90 => absurd h_90 (not_not_intro ⟨nI_pos (by omega), by rw [hCt.2.1]; exact nI_ge hqq (by omega)⟩)) (fun h_90 => ?_)
      refine aw_aload_n dX4_place_93 rfl ?_
      refine gf4_tables dX4_place_94 kf4_9 k_172 ?_
      refine aw_eqr (b := 173) rfl ?_
      refine aw_iload_n dX4_place_97 rfl ?_
      refine aw_iload dX4_place_98 rfl ?_
      refine aw_sto (i) dX4_place_100 k_173 (rfl) (by omega) ?_
      refine aw_aload_n dX4_place_101 rfl ?_
      refine gf4_cells dX4_place_102 kf4_15 k_172 ?_
      refine aw_eqr (b := 174) rfl ?_
      refine aw_iload_n dX4_place_105 rfl ?_
      refine aw_iload dX4_place_106 rfl ?_
      refine aw_sto (i) dX4_place_108 k_174 (rfl) (by omega) ?_
      refine aw_aload dX4_place_109 rfl ?_
      refine gf8_cells dX4_place_111 kf4_61 hk8 ?_
      refine aw_bi (nI 6) dX4_place_114 (by decide) ?_
      refine aw_ald16 (6) dX4_place_116 (kf_8_cells hk8) (rfl) (by omega) ?_
      refine aw_iload dX4_place_117 rfl ?_
      refine aw_dup2 dX4_place_119 rfl rfl ?_
      refine aw_ld (q) dX4_place_120 (ln_t9 hk8 (show 6 < 7 by decide)).2 (rfl) (by omega) ?_
      refine aw_eq (show _ = nI (cv t q 6) by rw [uA_n (by omega), uA_n (by omega)]; exact v6) ?_
      refine aw_ic (nI 1) dX4_place_121 (by decide) ?_
      refine aw_iadd dX4_place_122 ?_
      refine aw_eq (nI_1 _) ?_
      refine aw_sto (q) dX4_place_123 (ln_t9 hk8 (show 6 < 7 by decide)).2 (rfl) (by omega) ?_
      refine aw_aload dX4_place_124 rfl ?_
      refine aw_dup dX4_place_126 rfl ?_
      refine gf8_words dX4_place_127 kf4_64 hk8 ?_
      refine aw_eq hwn ?_
      refine aw_ic (nI 1) dX4_place_130 (by decide) ?_
      refine aw_iadd dX4_place_131 ?_
      refine aw_eq (nI_1 _) ?_
      refine pf8_words dX4_place_132 kf4_64 hk8 ?_
      exact aw_ret dX4_place_135 (by
          have hT : wTa wd pl nr nc tn i = t := fst_eq hno (by unfold inW; simp [hin]) (by omega)
          have hC : wCe wd pl nr nc fc tn i = q := by unfold wCe; rw [hT]; exact hqe
          refine Or.inl ⟨by rw [hT]; omega, ?_⟩
          rw [hT, hC]
          rw [uA_n (show (174 : Nat) ≠ 173 by decide), uA_n (show 51 + 1 + 20 * t + 8 + 1 + 6 ≠ 174 by omega), uA_n (show 51 + 1 + 20 * t + 8 + 1 + 6 ≠ 173 by omega)])
    · skip
      refine aw_aload dX4_place_46 rfl ?_
      refine gf8_lines dX4_place_48 kf4_43 hk8 ?_
      refine aw_ic (nI 0) dX4_place_51 (by decide) ?_
      refine aw_iload dX4_place_52 rfl ?_
      refine cqi2 dX4_place_54 km4_49 ok_X2_lineBefore rfl rfl (by decide) (kf_8_lines hk8) (Nat.le_of_ble_eq_true rfl) ⟨Nat.le_of_ble_eq_true rfl, Nat.le_of_ble_eq_true rfl⟩ rfl rfl (ct_Lines_lineBefore (d := wd i 1 + wd i 3) hLt (show 0 < 2 by decide) (by omega)) ?_
      refine aw_istore dX4_place_57 (Nat.le_of_ble_eq_true rfl) ?_
      refine aw_aload dX4_place_59 rfl ?_
      refine gf8_lines dX4_place_61 kf4_43 hk8 ?_
      refine aw_ic (nI 1) dX4_place_64 (by decide) ?_
      refine aw_iload dX4_place_65 rfl ?_
      refine cqi2 dX4_place_67 km4_49 ok_X2_lineBefore rfl rfl (by decide) (kf_8_lines hk8) (Nat.le_of_ble_eq_true rfl) ⟨Nat.le_of_ble_eq_true rfl, Nat.le_of_ble_eq_true rfl⟩ rfl rfl (ct_Lines_lineBefore (d := wd i 0 + wd i 2) hLt (show 1 < 2 by decide) (by omega)) ?_
      refine aw_istore dX4_place_70 (Nat.le_of_ble_eq_true rfl) ?_
      refine aw_aload dX4_place_72 rfl ?_
      refine aw_iload dX4_place_74 rfl ?_
      refine aw_iload dX4_place_76 rfl ?_
      refine cqi2 dX4_place_78 km4_54 ok_X8_cellOf rfl rfl (by decide) hk8 (Nat.le_of_ble_eq_true rfl) ⟨Nat.le_of_ble_eq_true rfl, Nat.le_of_ble_eq_true rfl⟩ rfl rfl (ct_cellNo hCt.1 _ _ (by
        rw [show n t 0 - 1 = nr t by omega, show n t 1 - 1 = nc t by omega]
        by_cases z : roW wd (pl t) (nr t) i < nr t
        · refine Or.inr (Or.inr (Or.inl ?_))
          show orN (coW wd (pl t) (nc t) i) (nc t) < 0
          unfold orN
          rw [if_neg (fun y => hin ⟨z, y⟩)]
          decide
        · refine Or.inl ?_
          show orN (roW wd (pl t) (nr t) i) (nr t) < 0
          unfold orN
          rw [if_neg z]
          decide)) ?_
      refine aw_istore dX4_place_81 (Nat.le_of_ble_eq_true rfl) ?_
      refine aw_aload dX4_place_83 rfl ?_
      refine aw_iload dX4_place_85 rfl ?_
      refine cqi1 dX4_place_87 km4_57 ok_X8_hasCell rfl rfl (by decide) hk8 (Nat.le_of_ble_eq_true rfl) ⟨Nat.le_of_ble_eq_true rfl, Nat.le_of_ble_eq_true rfl⟩ rfl rfl (ct_hasCell hk8 (-6)) ?_
      refine aw_if_eqB dX4_place_90 rfl (fun h_90 => ?_) (fun h_90 => absurd h_90 (fun y => absurd y (by
        intro z
        exact z.1 (by decide))))
      refine aw_inc (nI (t + 1)) dX4_place_136 rfl (Nat.le_of_ble_eq_true rfl) (nI_1 t) ?_
      refine aw_goto dX4_place_139 ?_
      refine ih (nn - 1) _ _ (by omega) ⟨t + 1, by omega, _, _, _, _, fun s hs => ?_, rfl, rfl⟩
      rcases Nat.lt_or_ge s t with z | z
      · exact hno s z
      · rw [show s = t by omega]
        unfold inW
        simp
        intro y
        exact Nat.not_lt.mp (fun y2 => hin ⟨y, y2⟩)

