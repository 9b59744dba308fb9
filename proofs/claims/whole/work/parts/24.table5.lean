/-- a cell as it begins, and as it widens: 0 first row, 1 first column, 2 rows, 3 columns, 4 fields, 5 kind, 6 words -/
def bvC (r c j : Nat) : Nat := if j = 0 then r else if j = 1 then c else if j ≤ 4 then 1 else 0
def wvC (v : Nat → Nat) (r c j : Nat) : Nat := if j = 1 then min (v 1) c else if j = 2 then r - v 0 + 1 else if j = 3 then max (if c < v 1 then v 3 + (v 1 - c) else v 3) (c - min (v 1) c + 1) else if j = 4 then v 4 + 1 else v j
theorem upd_same {f : Nat → Int32} {i : Nat} {x : Int32} (h : f i = x) : upd f i x = f := by
  funext k
  by_cases e : k = i
  · rw [e, pk_us, h]
  · rw [pk_un e]
set_option maxHeartbeats 4000000 in
set_option maxRecDepth 100000 in
theorem ct_beginCell {g : GG} {σ : SG} {o nr nc cc r c : Nat} (hT : TaD σ o nr nc) (hcc : σ.1 263 o = nI cc) (h1 : cc < ln (o + 7)) (h2 : r * nc + c < ln (o + 7)) : Ctv g yX8_beginCell cX8_beginCell 3 (rmm 0 0) [.ref (ad g o), .int (nI r), .int (nI c)] σ (fun σ' => ∃ B, σ' = (uI σ.1 263 o (nI (cc + 1)), B, σ.2.2) ∧ B (o + 7) = upd (σ.2.1 (o + 7)) (r * nc + c) (nI cc) ∧ (∀ j, j < 7 → B (o + 8 + 1 + j) = upd (σ.2.1 (o + 8 + 1 + j)) cc (nI (bvC r c j))) ∧ ∀ q, q ≠ o + 7 → (q < o + 9 ∨ o + 15 < q) → B q = σ.2.1 q) := by
  refine ct_of (own := RX8) (lv := [some (.ref (ad g o)), some (.int (nI r)), some (.int (nI c))]) rfl (by decide) (Nat.le_of_ble_eq_true rfl) (by intro u hu; simp only [List.mem_cons, List.not_mem_nil, or_false] at hu; rcases hu with rfl | rfl | rfl <;> rfl) (lv_ok [.ref (ad g o), .int (nI r), .int (nI c)] 0) ?_
  have hT0 := hT
  obtain ⟨hk, hr, hc, r1, c1, r2, c2, cap6, cap7⟩ := hT
  have hl7 := ln_t7 hk
  have hl8 := (ln_t8 hk).1
  have e9 : ∀ j, j < 7 → ln (o + 8 + 1 + j) = ln (o + 7) := fun j hj => (ln_t9 hk hj).1
  have e90 := e9 0 (by decide)
  have e91 := e9 1 (by decide)
  have e92 := e9 2 (by decide)
  have e93 := e9 3 (by decide)
  have e94 := e9 4 (by decide)
  have e95 := e9 5 (by decide)
  have e96 := e9 6 (by decide)
  
  refine aw_aload_n dX8_beginCell_0 rfl ?_
  refine gf8_fieldCells dX8_beginCell_1 kf8_30 hk ?_
  refine aw_iload_n dX8_beginCell_4 rfl ?_
  refine aw_aload_n dX8_beginCell_5 rfl ?_
  refine gf8_columns dX8_beginCell_6 kf8_113 hk ?_
  refine aw_eq hc ?_
  refine aw_imul dX8_beginCell_9 ?_
  refine aw_eq (pk_mul r nc) ?_
  refine aw_iload_n dX8_beginCell_10 rfl ?_
  refine aw_iadd dX8_beginCell_11 ?_
  refine aw_eq (nI_add _ _) ?_
  refine aw_aload_n dX8_beginCell_12 rfl ?_
  refine gf8_cellCount dX8_beginCell_13 kf8_149 hk ?_
  refine aw_eq hcc ?_
  refine aw_sto (r * nc + c) dX8_beginCell_16 (kf_8_fieldCells hk) (rfl) (by omega) ?_
  refine aw_aload_n dX8_beginCell_17 rfl ?_
  refine gf8_cells dX8_beginCell_18 kf8_36 hk ?_
  refine aw_ic (nI 0) dX8_beginCell_21 (by decide) ?_
  refine aw_ald16 (0) dX8_beginCell_22 (kf_8_cells hk) (rfl) (by omega) ?_
  refine aw_aload_n dX8_beginCell_23 rfl ?_
  refine gf8_cellCount dX8_beginCell_24 kf8_149 hk ?_
  refine aw_eq hcc ?_
  refine aw_iload_n dX8_beginCell_27 rfl ?_
  refine aw_sto (cc) dX8_beginCell_28 (ln_t9 hk (by decide)).2 (rfl) (by omega) ?_
  refine aw_aload_n dX8_beginCell_29 rfl ?_
  refine gf8_cells dX8_beginCell_30 kf8_36 hk ?_
  refine aw_ic (nI 1) dX8_beginCell_33 (by decide) ?_
  refine aw_ald16 (1) dX8_beginCell_34 (kf_8_cells hk) (rfl) (by omega) ?_
  refine aw_aload_n dX8_beginCell_35 rfl ?_
  refine gf8_cellCount dX8_beginCell_36 kf8_149 hk ?_
  refine aw_eq hcc ?_
  refine aw_iload_n dX8_beginCell_39 rfl ?_
  refine aw_sto (cc) dX8_beginCell_40 (ln_t9 hk (by decide)).2 (rfl) (by omega) ?_
  refine aw_aload_n dX8_beginCell_41 rfl ?_
  refine gf8_cells dX8_beginCell_42 kf8_36 hk ?_
  refine aw_ic (nI 2) dX8_beginCell_45 (by decide) ?_
  refine aw_ald16 (2) dX8_beginCell_46 (kf_8_cells hk) (rfl) (by omega) ?_
  refine aw_aload_n dX8_beginCell_47 rfl ?_
  refine gf8_cellCount dX8_beginCell_48 kf8_149 hk ?_
  refine aw_eq hcc ?_
  refine aw_ic (nI 1) dX8_beginCell_51 (by decide) ?_
  refine aw_sto (cc) dX8_beginCell_52 (ln_t9 hk (by decide)).2 (rfl) (by omega) ?_
  refine aw_aload_n dX8_beginCell_53 rfl ?_
  refine gf8_cells dX8_beginCell_54 kf8_36 hk ?_
  refine aw_ic (nI 3) dX8_beginCell_57 (by decide) ?_
  refine aw_ald16 (3) dX8_beginCell_58 (kf_8_cells hk) (rfl) (by omega) ?_
  refine aw_aload_n dX8_beginCell_59 rfl ?_
  refine gf8_cellCount dX8_beginCell_60 kf8_149 hk ?_
  refine aw_eq hcc ?_
  refine aw_ic (nI 1) dX8_beginCell_63 (by decide) ?_
  refine aw_sto (cc) dX8_beginCell_64 (ln_t9 hk (by decide)).2 (rfl) (by omega) ?_
  refine aw_aload_n dX8_beginCell_65 rfl ?_
  refine gf8_cells dX8_beginCell_66 kf8_36 hk ?_
  refine aw_ic (nI 4) dX8_beginCell_69 (by decide) ?_
  refine aw_ald16 (4) dX8_beginCell_70 (kf_8_cells hk) (rfl) (by omega) ?_
  refine aw_aload_n dX8_beginCell_71 rfl ?_
  refine gf8_cellCount dX8_beginCell_72 kf8_149 hk ?_
  refine aw_eq hcc ?_
  refine aw_ic (nI 1) dX8_beginCell_75 (by decide) ?_
  refine aw_sto (cc) dX8_beginCell_76 (ln_t9 hk (by decide)).2 (rfl) (by omega) ?_
  refine aw_aload_n dX8_beginCell_77 rfl ?_
  refine gf8_cells dX8_beginCell_78 kf8_36 hk ?_
  refine aw_ic (nI 5) dX8_beginCell_81 (by decide) ?_
  refine aw_ald16 (5) dX8_beginCell_82 (kf_8_cells hk) (rfl) (by omega) ?_
  refine aw_aload_n dX8_beginCell_83 rfl ?_
  refine gf8_cellCount dX8_beginCell_84 kf8_149 hk ?_
  refine aw_eq hcc ?_
  refine aw_ic (nI 0) dX8_beginCell_87 (by decide) ?_
  refine aw_sto (cc) dX8_beginCell_88 (ln_t9 hk (by decide)).2 (rfl) (by omega) ?_
  refine aw_aload_n dX8_beginCell_89 rfl ?_
  refine gf8_cells dX8_beginCell_90 kf8_36 hk ?_
  refine aw_bi (nI 6) dX8_beginCell_93 (by decide) ?_
  refine aw_ald16 (6) dX8_beginCell_95 (kf_8_cells hk) (rfl) (by omega) ?_
  refine aw_aload_n dX8_beginCell_96 rfl ?_
  refine gf8_cellCount dX8_beginCell_97 kf8_149 hk ?_
  refine aw_eq hcc ?_
  refine aw_ic (nI 0) dX8_beginCell_100 (by decide) ?_
  refine aw_sto (cc) dX8_beginCell_101 (ln_t9 hk (by decide)).2 (rfl) (by omega) ?_
  refine aw_aload_n dX8_beginCell_102 rfl ?_
  refine aw_dup dX8_beginCell_103 rfl ?_
  refine gf8_cellCount dX8_beginCell_104 kf8_149 hk ?_
  refine aw_eq hcc ?_
  refine aw_ic (nI 1) dX8_beginCell_107 (by decide) ?_
  refine aw_iadd dX8_beginCell_108 ?_
  refine aw_eq (nI_1 cc) ?_
  refine pf8_cellCount dX8_beginCell_109 kf8_149 hk ?_
  exact aw_ret dX8_beginCell_112 (by
      refine ⟨_, rfl, ?_, ?_, ?_⟩
      · simp only [uA, show ¬ (o + 7 = o + 8 + 1 + 0) by omega, show ¬ (o + 7 = o + 8 + 1 + 1) by omega, show ¬ (o + 7 = o + 8 + 1 + 2) by omega, show ¬ (o + 7 = o + 8 + 1 + 3) by omega, show ¬ (o + 7 = o + 8 + 1 + 4) by omega, show ¬ (o + 7 = o + 8 + 1 + 5) by omega, show ¬ (o + 7 = o + 8 + 1 + 6) by omega, if_false, if_true]
      · intro j hj
        rcases (show j = 0 ∨ j = 1 ∨ j = 2 ∨ j = 3 ∨ j = 4 ∨ j = 5 ∨ j = 6 by omega) with rfl | rfl | rfl | rfl | rfl | rfl | rfl <;> simp [uA, bvC]
      · intro q h7 hq
        simp only [uA]
        rw [if_neg (by omega), if_neg (by omega), if_neg (by omega), if_neg (by omega), if_neg (by omega), if_neg (by omega), if_neg (by omega), if_neg (by omega)])

theorem fa_tw (f : Nat → Int32) (i : Nat) (x y : Int32) : upd (upd f i x) i y = upd f i y := by
  funext k
  by_cases e : k = i
  · rw [e, pk_us, pk_us]
  · rw [pk_un e, pk_un e, pk_un e]
set_option maxHeartbeats 4000000 in
set_option maxRecDepth 100000 in
theorem ct_widenCell {g : GG} {σ : SG} {o nr nc q r c : Nat} {v : Nat → Nat} (hT : TaD σ o nr nc) (hV : ∀ j, j < 7 → σ.2.1 (o + 8 + 1 + j) q = nI (v j)) (h1 : q < ln (o + 7)) (hr9 : v 0 ≤ r) (hr8 : r ≤ 99) (hc9 : c ≤ 99) (b1 : v 1 ≤ 99) (b3 : v 3 ≤ 999) (b4 : v 4 ≤ 999) : Ctv g yX8_widenCell cX8_widenCell 6 (rmm 1 21) [.ref (ad g o), .int (nI q), .int (nI r), .int (nI c)] σ (fun σ' => ∃ B, σ' = (σ.1, B, σ.2.2) ∧ (∀ j, j < 7 → B (o + 8 + 1 + j) = upd (σ.2.1 (o + 8 + 1 + j)) q (nI (wvC v r c j))) ∧ ∀ p, (p < o + 9 ∨ o + 15 < p) → B p = σ.2.1 p) := by
  refine ct_of (own := RX8) (lv := [some (.ref (ad g o)), some (.int (nI q)), some (.int (nI r)), some (.int (nI c)), none, none]) rfl (by decide) (Nat.le_of_ble_eq_true rfl) (by intro u hu; simp only [List.mem_cons, List.not_mem_nil, or_false] at hu; rcases hu with rfl | rfl | rfl | rfl <;> rfl) (lv_ok [.ref (ad g o), .int (nI q), .int (nI r), .int (nI c)] 2) ?_
  have hT0 := hT
  obtain ⟨hk, hr, hc, r1, c1, r2, c2, cap6, cap7⟩ := hT
  have hl7 := ln_t7 hk
  have hl8 := (ln_t8 hk).1
  have e9 : ∀ j, j < 7 → ln (o + 8 + 1 + j) = ln (o + 7) := fun j hj => (ln_t9 hk hj).1
  have e90 := e9 0 (by decide)
  have e91 := e9 1 (by decide)
  have e92 := e9 2 (by decide)
  have e93 := e9 3 (by decide)
  have e94 := e9 4 (by decide)
  have e95 := e9 5 (by decide)
  have e96 := e9 6 (by decide)
  have v0 := hV 0 (by decide)
  have v1 := hV 1 (by decide)
  have v2 := hV 2 (by decide)
  have v3 := hV 3 (by decide)
  have v4 := hV 4 (by decide)
  refine aw_aload_n dX8_widenCell_0 rfl ?_
  refine gf8_cells dX8_widenCell_1 kf8_36 hk ?_
  refine aw_ic (nI 1) dX8_widenCell_4 (by decide) ?_
  refine aw_ald16 (1) dX8_widenCell_5 (kf_8_cells hk) (rfl) (by omega) ?_
  refine aw_astore dX8_widenCell_6 (Nat.le_of_ble_eq_true rfl) ?_
  refine aw_aload_n dX8_widenCell_8 rfl ?_
  refine gf8_cells dX8_widenCell_9 kf8_36 hk ?_
  refine aw_ic (nI 3) dX8_widenCell_12 (by decide) ?_
  refine aw_ald16 (3) dX8_widenCell_13 (kf_8_cells hk) (rfl) (by omega) ?_
  refine aw_astore dX8_widenCell_14 (Nat.le_of_ble_eq_true rfl) ?_
  refine aw_iload_n dX8_widenCell_16 rfl ?_
  refine aw_aload dX8_widenCell_17 rfl ?_
  refine aw_iload_n dX8_widenCell_19 rfl ?_
  refine aw_ld (q) dX8_widenCell_20 (ln_t9 hk (show 1 < 7 by decide)).2 (rfl) (by omega) ?_
  refine aw_eq v1 ?_
  refine aw_icmp_geN dX8_widenCell_21 rfl rfl (by omega) (by omega) (fun h_21 => ?_) (fun h_21 => ?_)
  · skip
    refine aw_aload dX8_widenCell_42 rfl ?_
    refine aw_iload_n dX8_widenCell_44 rfl ?_
    refine aw_aload dX8_widenCell_45 rfl ?_
    refine aw_iload_n dX8_widenCell_47 rfl ?_
    refine aw_ld (q) dX8_widenCell_48 (ln_t9 hk (show 3 < 7 by decide)).2 (rfl) (by omega) ?_
    refine aw_eq (show _ = nI (v 3) by simp [uA, v3, pk_us]) ?_
    refine aw_iload_n dX8_widenCell_49 rfl ?_
    refine aw_aload dX8_widenCell_50 rfl ?_
    refine aw_iload_n dX8_widenCell_52 rfl ?_
    refine aw_ld (q) dX8_widenCell_53 (ln_t9 hk (show 1 < 7 by decide)).2 (rfl) (by omega) ?_
    refine aw_eq (show _ = nI (v 1) by simp [uA, v1, pk_us]) ?_
    refine aw_isub dX8_widenCell_54 ?_
    refine aw_eq (show _ = nI (c - v 1) from pk_sub (by omega)) ?_
    refine aw_ic (nI 1) dX8_widenCell_55 (by decide) ?_
    refine aw_iadd dX8_widenCell_56 ?_
    refine aw_eq (nI_1 _) ?_
    refine aw_max dX8_widenCell_57 km8_9 ⟨Nat.le_of_ble_eq_true rfl, Nat.le_of_ble_eq_true rfl⟩ ?_
    refine aw_eq (maxN (by omega) (by omega)) ?_
    have ez : max (if c < v 1 then v 3 + (v 1 - c) else v 3) (c - min (v 1) c + 1) = max (v 3) (c - v 1 + 1) := by
      rw [show min (v 1) c = v 1 by omega]
      rw [if_neg (show ¬ c < v 1 by omega)]
    refine aw_sto (q) dX8_widenCell_60 (ln_t9 hk (show 3 < 7 by decide)).2 (rfl) (by omega) ?_
    refine aw_aload_n dX8_widenCell_61 rfl ?_
    refine gf8_cells dX8_widenCell_62 kf8_36 hk ?_
    refine aw_ic (nI 2) dX8_widenCell_65 (by decide) ?_
    refine aw_ald16 (2) dX8_widenCell_66 (kf_8_cells hk) (rfl) (by omega) ?_
    refine aw_iload_n dX8_widenCell_67 rfl ?_
    refine aw_iload_n dX8_widenCell_68 rfl ?_
    refine aw_aload_n dX8_widenCell_69 rfl ?_
    refine gf8_cells dX8_widenCell_70 kf8_36 hk ?_
    refine aw_ic (nI 0) dX8_widenCell_73 (by decide) ?_
    refine aw_ald16 (0) dX8_widenCell_74 (kf_8_cells hk) (rfl) (by omega) ?_
    refine aw_iload_n dX8_widenCell_75 rfl ?_
    refine aw_ld (q) dX8_widenCell_76 (ln_t9 hk (by decide)).2 (rfl) (by omega) ?_
    refine aw_eq (show _ = nI (v 0) by simp [uA, v0]) ?_
    refine aw_isub dX8_widenCell_77 ?_
    refine aw_eq (show _ = nI (r - v 0) from pk_sub (by omega)) ?_
    refine aw_ic (nI 1) dX8_widenCell_78 (by decide) ?_
    refine aw_iadd dX8_widenCell_79 ?_
    refine aw_eq (nI_1 _) ?_
    refine aw_sto (q) dX8_widenCell_80 (ln_t9 hk (by decide)).2 (rfl) (by omega) ?_
    refine aw_aload_n dX8_widenCell_81 rfl ?_
    refine gf8_cells dX8_widenCell_82 kf8_36 hk ?_
    refine aw_ic (nI 4) dX8_widenCell_85 (by decide) ?_
    refine aw_ald16 (4) dX8_widenCell_86 (kf_8_cells hk) (rfl) (by omega) ?_
    refine aw_iload_n dX8_widenCell_87 rfl ?_
    refine aw_dup2 dX8_widenCell_88 rfl rfl ?_
    refine aw_ld (q) dX8_widenCell_89 (ln_t9 hk (by decide)).2 (rfl) (by omega) ?_
    refine aw_eq (show _ = nI (v 4) by simp [uA, v4]) ?_
    refine aw_ic (nI 1) dX8_widenCell_90 (by decide) ?_
    refine aw_iadd dX8_widenCell_91 ?_
    refine aw_eq (nI_1 _) ?_
    refine aw_sto (q) dX8_widenCell_92 (ln_t9 hk (by decide)).2 (rfl) (by omega) ?_
    exact aw_ret dX8_widenCell_93 (by
        refine ⟨_, rfl, ?_, ?_⟩
        · intro j hj
          have hv := hV j hj
          rcases (show j = 0 ∨ j = 1 ∨ j = 2 ∨ j = 3 ∨ j = 4 ∨ j = 5 ∨ j = 6 by omega) with rfl | rfl | rfl | rfl | rfl | rfl | rfl
          · simp [uA, wvC, upd_same hv]
          · simp [uA, wvC]
            rw [show min (v 1) c = v 1 by omega]
            exact (upd_same hv).symm
          · simp [uA, wvC]
          · simp [uA, wvC, ez, fa_tw, show ¬ c < v 1 by omega, show min (v 1) c = v 1 by omega]
          · simp [uA, wvC]
          · simp [uA, wvC, upd_same hv]
          · simp [uA, wvC, upd_same hv]
        · intro q9 hq9
          simp only [uA]
          rw [if_neg (by omega), if_neg (by omega), if_neg (by omega)])
  · skip
    refine aw_aload dX8_widenCell_24 rfl ?_
    refine aw_iload_n dX8_widenCell_26 rfl ?_
    refine aw_dup2 dX8_widenCell_27 rfl rfl ?_
    refine aw_ld (q) dX8_widenCell_28 (ln_t9 hk (show 3 < 7 by decide)).2 (rfl) (by omega) ?_
    refine aw_eq v3 ?_
    refine aw_aload dX8_widenCell_29 rfl ?_
    refine aw_iload_n dX8_widenCell_31 rfl ?_
    refine aw_ld (q) dX8_widenCell_32 (ln_t9 hk (show 1 < 7 by decide)).2 (rfl) (by omega) ?_
    refine aw_eq v1 ?_
    refine aw_iload_n dX8_widenCell_33 rfl ?_
    refine aw_isub dX8_widenCell_34 ?_
    refine aw_eq (show _ = nI (v 1 - c) from pk_sub (by omega)) ?_
    refine aw_iadd dX8_widenCell_35 ?_
    refine aw_eq (nI_add _ _) ?_
    refine aw_sto (q) dX8_widenCell_36 (ln_t9 hk (show 3 < 7 by decide)).2 (rfl) (by omega) ?_
    refine aw_aload dX8_widenCell_37 rfl ?_
    refine aw_iload_n dX8_widenCell_39 rfl ?_
    refine aw_iload_n dX8_widenCell_40 rfl ?_
    refine aw_sto (q) dX8_widenCell_41 (ln_t9 hk (show 1 < 7 by decide)).2 (rfl) (by omega) ?_
    refine aw_aload dX8_widenCell_42 rfl ?_
    refine aw_iload_n dX8_widenCell_44 rfl ?_
    refine aw_aload dX8_widenCell_45 rfl ?_
    refine aw_iload_n dX8_widenCell_47 rfl ?_
    refine aw_ld (q) dX8_widenCell_48 (ln_t9 hk (show 3 < 7 by decide)).2 (rfl) (by omega) ?_
    refine aw_eq (show _ = nI (v 3 + (v 1 - c)) by simp [uA, v3, pk_us]) ?_
    refine aw_iload_n dX8_widenCell_49 rfl ?_
    refine aw_aload dX8_widenCell_50 rfl ?_
    refine aw_iload_n dX8_widenCell_52 rfl ?_
    refine aw_ld (q) dX8_widenCell_53 (ln_t9 hk (show 1 < 7 by decide)).2 (rfl) (by omega) ?_
    refine aw_eq (show _ = nI (c) by simp [uA, v1, pk_us]) ?_
    refine aw_isub dX8_widenCell_54 ?_
    refine aw_eq (show _ = nI (c - c) from pk_sub (by omega)) ?_
    refine aw_ic (nI 1) dX8_widenCell_55 (by decide) ?_
    refine aw_iadd dX8_widenCell_56 ?_
    refine aw_eq (nI_1 _) ?_
    refine aw_max dX8_widenCell_57 km8_9 ⟨Nat.le_of_ble_eq_true rfl, Nat.le_of_ble_eq_true rfl⟩ ?_
    refine aw_eq (maxN (by omega) (by omega)) ?_
    have ez : max (if c < v 1 then v 3 + (v 1 - c) else v 3) (c - min (v 1) c + 1) = max (v 3 + (v 1 - c)) (c - c + 1) := by
      rw [show min (v 1) c = c by omega]
      rw [if_pos (show c < v 1 by omega)]
    refine aw_sto (q) dX8_widenCell_60 (ln_t9 hk (show 3 < 7 by decide)).2 (rfl) (by omega) ?_
    refine aw_aload_n dX8_widenCell_61 rfl ?_
    refine gf8_cells dX8_widenCell_62 kf8_36 hk ?_
    refine aw_ic (nI 2) dX8_widenCell_65 (by decide) ?_
    refine aw_ald16 (2) dX8_widenCell_66 (kf_8_cells hk) (rfl) (by omega) ?_
    refine aw_iload_n dX8_widenCell_67 rfl ?_
    refine aw_iload_n dX8_widenCell_68 rfl ?_
    refine aw_aload_n dX8_widenCell_69 rfl ?_
    refine gf8_cells dX8_widenCell_70 kf8_36 hk ?_
    refine aw_ic (nI 0) dX8_widenCell_73 (by decide) ?_
    refine aw_ald16 (0) dX8_widenCell_74 (kf_8_cells hk) (rfl) (by omega) ?_
    refine aw_iload_n dX8_widenCell_75 rfl ?_
    refine aw_ld (q) dX8_widenCell_76 (ln_t9 hk (by decide)).2 (rfl) (by omega) ?_
    refine aw_eq (show _ = nI (v 0) by simp [uA, v0]) ?_
    refine aw_isub dX8_widenCell_77 ?_
    refine aw_eq (show _ = nI (r - v 0) from pk_sub (by omega)) ?_
    refine aw_ic (nI 1) dX8_widenCell_78 (by decide) ?_
    refine aw_iadd dX8_widenCell_79 ?_
    refine aw_eq (nI_1 _) ?_
    refine aw_sto (q) dX8_widenCell_80 (ln_t9 hk (by decide)).2 (rfl) (by omega) ?_
    refine aw_aload_n dX8_widenCell_81 rfl ?_
    refine gf8_cells dX8_widenCell_82 kf8_36 hk ?_
    refine aw_ic (nI 4) dX8_widenCell_85 (by decide) ?_
    refine aw_ald16 (4) dX8_widenCell_86 (kf_8_cells hk) (rfl) (by omega) ?_
    refine aw_iload_n dX8_widenCell_87 rfl ?_
    refine aw_dup2 dX8_widenCell_88 rfl rfl ?_
    refine aw_ld (q) dX8_widenCell_89 (ln_t9 hk (by decide)).2 (rfl) (by omega) ?_
    refine aw_eq (show _ = nI (v 4) by simp [uA, v4]) ?_
    refine aw_ic (nI 1) dX8_widenCell_90 (by decide) ?_
    refine aw_iadd dX8_widenCell_91 ?_
    refine aw_eq (nI_1 _) ?_
    refine aw_sto (q) dX8_widenCell_92 (ln_t9 hk (by decide)).2 (rfl) (by omega) ?_
    exact aw_ret dX8_widenCell_93 (by
        refine ⟨_, rfl, ?_, ?_⟩
        · intro j hj
          have hv := hV j hj
          rcases (show j = 0 ∨ j = 1 ∨ j = 2 ∨ j = 3 ∨ j = 4 ∨ j = 5 ∨ j = 6 by omega) with rfl | rfl | rfl | rfl | rfl | rfl | rfl
          · simp [uA, wvC, upd_same hv]
          · simp [uA, wvC]
            rw [show min (v 1) c = c by omega]
          · simp [uA, wvC]
          · simp [uA, wvC, ez, fa_tw, show c < v 1 by omega, show min (v 1) c = c by omega]
          · simp [uA, wvC]
          · simp [uA, wvC, upd_same hv]
          · simp [uA, wvC, upd_same hv]
        · intro q9 hq9
          simp only [uA]
          rw [if_neg (by omega), if_neg (by omega), if_neg (by omega), if_neg (by omega), if_neg (by omega)])

