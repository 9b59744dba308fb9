theorem sub_gtN {a b c : Nat} (ha : a < 2 ^ 30) (hb : b < 2 ^ 30) (hc : c < 2 ^ 30) : nI c < nI a - nI b ↔ c + b < a := by
  rw [Int32.lt_iff_toInt_lt, pk_sub_toInt ha hb, nI_toInt (Nat.lt_trans hc (by decide))]
  omega
theorem sub_ltN {a b c : Nat} (ha : a < 2 ^ 30) (hb : b < 2 ^ 30) (hc : c < 2 ^ 30) : nI a - nI b < nI c ↔ a < c + b := by
  rw [Int32.lt_iff_toInt_lt, pk_sub_toInt ha hb, nI_toInt (Nat.lt_trans hc (by decide))]
  omega
theorem sub_leN {a b c : Nat} (ha : a < 2 ^ 30) (hb : b < 2 ^ 30) (hc : c < 2 ^ 30) : nI a - nI b ≤ nI c ↔ a ≤ c + b := by
  rw [Int32.le_iff_toInt_le, pk_sub_toInt ha hb, nI_toInt (Nat.lt_trans hc (by decide))]
  omega
theorem sub_geN {a b c : Nat} (ha : a < 2 ^ 30) (hb : b < 2 ^ 30) (hc : c < 2 ^ 30) : nI c ≤ nI a - nI b ↔ c + b ≤ a := by
  rw [Int32.le_iff_toInt_le, pk_sub_toInt ha hb, nI_toInt (Nat.lt_trans hc (by decide))]
  omega
theorem maxN {a b : Nat} (ha : a < 2 ^ 31) (hb : b < 2 ^ 31) : (if nI a < nI b then nI b else nI a) = nI (max a b) := by
  by_cases q : a < b
  · rw [if_pos (nI_lt q hb), Nat.max_eq_right (Nat.le_of_lt q)]
  · rw [if_neg (nI_nlt (Nat.not_lt.mp q) ha), Nat.max_eq_left (Nat.not_lt.mp q)]
theorem minN {a b : Nat} (ha : a < 2 ^ 31) (hb : b < 2 ^ 31) : (if nI b < nI a then nI b else nI a) = nI (min a b) := by
  by_cases q : b < a
  · rw [if_pos (nI_lt q ha), Nat.min_eq_right (Nat.le_of_lt q)]
  · rw [if_neg (nI_nlt (Nat.not_lt.mp q) hb), Nat.min_eq_left (Nat.not_lt.mp q)]
/-- rows that hold numbers: c of them, v p w is the number w of row p -/
def RowN (σ : SG) (o c : Nat) (v : Nat → Nat → Nat) : Prop := kd o = 5 ∧ σ.1 162 o = nI c ∧ 4 * c ≤ ln (o + 1) ∧ ∀ p w, p < c → w < 4 → σ.2.1 (o + 1) (4 * p + w) = nI (v p w) ∧ v p w ≤ 99
theorem ct_num {g : GG} {σ : SG} {o c r w : Nat} {v : Nat → Nat → Nat} (h : RowN σ o c v) (hr : r < c) (hw : w < 4) : Cti g yX5_number cX5_number 4 (some .int) (rmm 0 0) [.ref (ad g o), .int (nI r), .int (nI w)] σ (fun x σ' => x = nI (v r w) ∧ σ' = σ) := by
  have := ct_Rows_number (g := g) h.1 h.2.1 h.2.2.1 hr hw
  rw [(h.2.2.2 r w hr hw).1] at this
  exact this
/-- the numbers of a rule: 0 way, 1 at, 2 from, 3 to, 4 how many pieces, 5 its first one, 6 its longest one -/
def RuF (I : Nat → Nat → Int32) (o : Nat) (ra : Nat → Nat) : Prop := I 192 o = nI (ra 0) ∧ I 193 o = nI (ra 1) ∧ I 194 o = nI (ra 2) ∧ I 195 o = nI (ra 3) ∧ I 197 o = nI (ra 4) ∧ I 198 o = nI (ra 5) ∧ I 196 o = nI (ra 6)
def RuB (ra : Nat → Nat) : Prop := ra 0 ≤ 99 ∧ ra 1 ≤ 99 ∧ ra 2 ≤ 99 ∧ ra 3 ≤ 99 ∧ ra 4 ≤ 99 ∧ ra 5 ≤ 99 ∧ ra 6 ≤ 99
def befN (ra rb : Nat → Nat) : Bool := if ra 0 = rb 0 then (if ra 1 = rb 1 then (if ra 2 = rb 2 then (if ra 3 = rb 3 then decide (ra 5 < rb 5) else decide (ra 3 < rb 3)) else decide (ra 2 < rb 2)) else decide (ra 1 < rb 1)) else decide (ra 0 < rb 0)
def covN (ra : Nat → Nat) (b e rc : Nat) : Bool := decide (ra 2 ≤ b + rc) && decide (e ≤ ra 3 + rc)
def crossN (ra rb : Nat → Nat) (rc : Nat) : Bool := decide (ra 0 ≠ rb 0) && (covN ra (rb 1) (rb 1) rc && covN rb (ra 1) (ra 1) rc)
def rBeg (pc : Nat → Nat → Nat) (p : Nat) : Nat → Nat := fun k => if k = 4 then 1 else if k = 5 then p else if k = 6 then pc p 3 - pc p 2 else pc p k
def rTake (ra : Nat → Nat) (pc : Nat → Nat → Nat) (p : Nat) : Nat → Nat := fun k => if k = 1 then (if ra 6 < pc p 3 - pc p 2 then pc p 1 else ra 1) else if k = 2 then min (ra 2) (pc p 2) else if k = 3 then max (ra 3) (pc p 3) else if k = 4 then ra 4 + 1 else if k = 6 then max (ra 6) (pc p 3 - pc p 2) else ra k
set_option maxHeartbeats 4000000 in
set_option maxRecDepth 100000 in
theorem ct_Rule_begin {g : GG} {σ : SG} {o o5 c p : Nat} {pc : Nat → Nat → Nat} (hk : kd o = 6) (hR : RowN σ o5 c pc) (hp : p < c) (hft : pc p 2 < pc p 3) : Ctv g yX6_begin cX6_begin 3 (rmm 1 23) [.ref (ad g o), .ref (ad g o5), .int (nI p)] σ (fun σ' => ∃ I, σ' = (I, σ.2) ∧ RuF I o (rBeg pc p) ∧ I 199 o = nI 0 ∧ I 200 o = -6 ∧ ∀ f o', o' ≠ o → I f o' = σ.1 f o') := by
  refine ct_of (own := RX6) (lv := [some (.ref (ad g o)), some (.ref (ad g o5)), some (.int (nI p))]) rfl (by decide) (Nat.le_of_ble_eq_true rfl) (by intro u hu; simp only [List.mem_cons, List.not_mem_nil, or_false] at hu; rcases hu with rfl | rfl | rfl <;> rfl) (lv_ok [.ref (ad g o), .ref (ad g o5), .int (nI p)] 0) ?_
  have hne : o5 ≠ o := fun e => by rw [e] at hR; exact absurd (hR.1.symm.trans hk) (by decide)
  have b2 := (hR.2.2.2 p 2 hp (by decide)).2
  have b3 := (hR.2.2.2 p 3 hp (by decide)).2
  refine aw_aload_n dX6_begin_0 rfl ?_
  refine aw_aload_n dX6_begin_1 rfl ?_
  refine aw_iload_n dX6_begin_2 rfl ?_
  refine aw_ic (nI 0) dX6_begin_3 (by decide) ?_
  refine cqi2 dX6_begin_4 km6_9 ok_X5_number rfl rfl (by decide) hR.1 (Nat.le_of_ble_eq_true rfl) ⟨Nat.le_of_ble_eq_true rfl, Nat.le_of_ble_eq_true rfl⟩ rfl rfl (ct_num hR hp (by decide)) ?_
  refine pf6_way dX6_begin_7 kf6_15 hk ?_
  refine aw_aload_n dX6_begin_10 rfl ?_
  refine aw_aload_n dX6_begin_11 rfl ?_
  refine aw_iload_n dX6_begin_12 rfl ?_
  refine aw_ic (nI 1) dX6_begin_13 (by decide) ?_
  refine cqi2 dX6_begin_14 km6_9 ok_X5_number rfl rfl (by decide) hR.1 (Nat.le_of_ble_eq_true rfl) ⟨Nat.le_of_ble_eq_true rfl, Nat.le_of_ble_eq_true rfl⟩ rfl rfl (ct_num (show RowN (uI σ.1 192 o (nI (pc p 0)), σ.2) o5 c pc from ⟨hR.1, by simp only [uI_o hne]; exact hR.2.1, hR.2.2.1, hR.2.2.2⟩) hp (by decide)) ?_
  refine pf6_at dX6_begin_17 kf6_21 hk ?_
  refine aw_aload_n dX6_begin_20 rfl ?_
  refine aw_aload_n dX6_begin_21 rfl ?_
  refine aw_iload_n dX6_begin_22 rfl ?_
  refine aw_ic (nI 2) dX6_begin_23 (by decide) ?_
  refine cqi2 dX6_begin_24 km6_9 ok_X5_number rfl rfl (by decide) hR.1 (Nat.le_of_ble_eq_true rfl) ⟨Nat.le_of_ble_eq_true rfl, Nat.le_of_ble_eq_true rfl⟩ rfl rfl (ct_num (show RowN (uI (uI σ.1 192 o (nI (pc p 0))) 193 o (nI (pc p 1)), σ.2) o5 c pc from ⟨hR.1, by simp only [uI_o hne]; exact hR.2.1, hR.2.2.1, hR.2.2.2⟩) hp (by decide)) ?_
  refine pf6_from dX6_begin_27 kf6_24 hk ?_
  refine aw_aload_n dX6_begin_30 rfl ?_
  refine aw_aload_n dX6_begin_31 rfl ?_
  refine aw_iload_n dX6_begin_32 rfl ?_
  refine aw_ic (nI 3) dX6_begin_33 (by decide) ?_
  refine cqi2 dX6_begin_34 km6_9 ok_X5_number rfl rfl (by decide) hR.1 (Nat.le_of_ble_eq_true rfl) ⟨Nat.le_of_ble_eq_true rfl, Nat.le_of_ble_eq_true rfl⟩ rfl rfl (ct_num (show RowN (uI (uI (uI σ.1 192 o (nI (pc p 0))) 193 o (nI (pc p 1))) 194 o (nI (pc p 2)), σ.2) o5 c pc from ⟨hR.1, by simp only [uI_o hne]; exact hR.2.1, hR.2.2.1, hR.2.2.2⟩) hp (by decide)) ?_
  refine pf6_to dX6_begin_37 kf6_27 hk ?_
  refine aw_aload_n dX6_begin_40 rfl ?_
  refine aw_aload_n dX6_begin_41 rfl ?_
  refine gf6_to dX6_begin_42 kf6_27 hk ?_
  refine aw_eq (uI_s _ _ _ _) ?_
  refine aw_aload_n dX6_begin_45 rfl ?_
  refine gf6_from dX6_begin_46 kf6_24 hk ?_
  refine aw_eq (show _ = nI (pc p 2) by rw [uI_f (by decide), uI_s]) ?_
  refine aw_isub dX6_begin_49 ?_
  refine aw_eq (show _ = nI (pc p 3 - pc p 2) from pk_sub (by omega)) ?_
  refine pf6_longest dX6_begin_50 kf6_30 hk ?_
  refine aw_aload_n dX6_begin_53 rfl ?_
  refine aw_ic (nI 1) dX6_begin_54 (by decide) ?_
  refine pf6_pieces dX6_begin_55 kf6_33 hk ?_
  refine aw_aload_n dX6_begin_58 rfl ?_
  refine aw_iload_n dX6_begin_59 rfl ?_
  refine pf6_first dX6_begin_60 kf6_36 hk ?_
  refine aw_aload_n dX6_begin_63 rfl ?_
  refine aw_ic (nI 0) dX6_begin_64 (by decide) ?_
  refine pf6_crossings dX6_begin_65 kf6_39 hk ?_
  refine aw_aload_n dX6_begin_68 rfl ?_
  refine aw_bi (-6) dX6_begin_69 (by decide) ?_
  refine pf6_table dX6_begin_71 kf6_42 hk ?_
  exact aw_ret dX6_begin_74 (⟨_, rfl, ⟨by simp only [uI_s, uI_f (show 192 ≠ 200 by decide), uI_f (show 192 ≠ 199 by decide), uI_f (show 192 ≠ 198 by decide), uI_f (show 192 ≠ 197 by decide), uI_f (show 192 ≠ 196 by decide), uI_f (show 192 ≠ 195 by decide), uI_f (show 192 ≠ 194 by decide), uI_f (show 192 ≠ 193 by decide)]; rfl, by simp only [uI]; rfl, by simp only [uI]; rfl, by simp only [uI]; rfl, by simp only [uI]; rfl, by simp only [uI]; rfl, by simp only [uI]; rfl⟩, by simp only [uI]; simp, by simp only [uI]; simp, fun f o' h => by simp only [uI_o h]⟩)

set_option maxHeartbeats 4000000 in
set_option maxRecDepth 100000 in
theorem ct_Rule_takeIn {g : GG} {σ : SG} {o o5 c p : Nat} {pc : Nat → Nat → Nat} {ra : Nat → Nat} (hk : kd o = 6) (hR : RowN σ o5 c pc) (hp : p < c) (hft : pc p 2 < pc p 3) (hF : RuF σ.1 o ra) (hB : RuB ra) : Ctv g yX6_takeIn cX6_takeIn 5 (rmm 1 23) [.ref (ad g o), .ref (ad g o5), .int (nI p)] σ (fun σ' => ∃ I, σ' = (I, σ.2) ∧ RuF I o (rTake ra pc p) ∧ I 199 o = σ.1 199 o ∧ I 200 o = σ.1 200 o ∧ ∀ f o', o' ≠ o → I f o' = σ.1 f o') := by
  refine ct_of (own := RX6) (lv := [some (.ref (ad g o)), some (.ref (ad g o5)), some (.int (nI p)), none, none]) rfl (by decide) (Nat.le_of_ble_eq_true rfl) (by intro u hu; simp only [List.mem_cons, List.not_mem_nil, or_false] at hu; rcases hu with rfl | rfl | rfl <;> rfl) (lv_ok [.ref (ad g o), .ref (ad g o5), .int (nI p)] 2) ?_
  have hne : o5 ≠ o := fun e => by rw [e] at hR; exact absurd (hR.1.symm.trans hk) (by decide)
  have b2 := (hR.2.2.2 p 2 hp (by decide)).2
  have b3 := (hR.2.2.2 p 3 hp (by decide)).2
  obtain ⟨B0, B1, B2, B3, B4, B5, B6⟩ := hB
  obtain ⟨F0, F1, F2, F3, F4, F5, F6⟩ := hF
  refine aw_aload_n dX6_takeIn_0 rfl ?_
  refine aw_iload_n dX6_takeIn_1 rfl ?_
  refine aw_ic (nI 2) dX6_takeIn_2 (by decide) ?_
  refine cqi2 dX6_takeIn_3 km6_9 ok_X5_number rfl rfl (by decide) hR.1 (Nat.le_of_ble_eq_true rfl) ⟨Nat.le_of_ble_eq_true rfl, Nat.le_of_ble_eq_true rfl⟩ rfl rfl (ct_num hR hp (by decide)) ?_
  refine aw_istore_n dX6_takeIn_6 (Nat.le_of_ble_eq_true rfl) ?_
  refine aw_aload_n dX6_takeIn_7 rfl ?_
  refine aw_iload_n dX6_takeIn_8 rfl ?_
  refine aw_ic (nI 3) dX6_takeIn_9 (by decide) ?_
  refine cqi2 dX6_takeIn_10 km6_9 ok_X5_number rfl rfl (by decide) hR.1 (Nat.le_of_ble_eq_true rfl) ⟨Nat.le_of_ble_eq_true rfl, Nat.le_of_ble_eq_true rfl⟩ rfl rfl (ct_num hR hp (by decide)) ?_
  refine aw_istore dX6_takeIn_13 (Nat.le_of_ble_eq_true rfl) ?_
  refine aw_iload dX6_takeIn_15 rfl ?_
  refine aw_iload_n dX6_takeIn_17 rfl ?_
  refine aw_isub dX6_takeIn_18 ?_
  refine aw_eq (show _ = nI (pc p 3 - pc p 2) from pk_sub (by omega)) ?_
  refine aw_aload_n dX6_takeIn_19 rfl ?_
  refine gf6_longest dX6_takeIn_20 kf6_30 hk ?_
  refine aw_eq F6 ?_
  refine aw_icmp_leN dX6_takeIn_23 rfl rfl (by omega) (by omega) (fun h_23 => ?_) (fun h_23 => ?_)
  · skip
    refine aw_aload_n dX6_takeIn_44 rfl ?_
    refine aw_aload_n dX6_takeIn_45 rfl ?_
    refine gf6_from dX6_takeIn_46 kf6_24 hk ?_
    refine aw_eq (show _ = nI (ra 2) by simp [uI, F2]) ?_
    refine aw_iload_n dX6_takeIn_49 rfl ?_
    refine aw_min dX6_takeIn_50 km6_45 ⟨Nat.le_of_ble_eq_true rfl, Nat.le_of_ble_eq_true rfl⟩ ?_
    refine aw_eq (minN (by omega) (by omega)) ?_
    refine pf6_from dX6_takeIn_53 kf6_24 hk ?_
    refine aw_aload_n dX6_takeIn_56 rfl ?_
    refine aw_aload_n dX6_takeIn_57 rfl ?_
    refine gf6_to dX6_takeIn_58 kf6_27 hk ?_
    refine aw_eq (show _ = nI (ra 3) by simp [uI, F3]) ?_
    refine aw_iload dX6_takeIn_61 rfl ?_
    refine aw_max dX6_takeIn_63 km6_50 ⟨Nat.le_of_ble_eq_true rfl, Nat.le_of_ble_eq_true rfl⟩ ?_
    refine aw_eq (maxN (by omega) (by omega)) ?_
    refine pf6_to dX6_takeIn_66 kf6_27 hk ?_
    refine aw_aload_n dX6_takeIn_69 rfl ?_
    refine aw_dup dX6_takeIn_70 rfl ?_
    refine gf6_pieces dX6_takeIn_71 kf6_33 hk ?_
    refine aw_eq (show _ = nI (ra 4) by simp [uI, F4]) ?_
    refine aw_ic (nI 1) dX6_takeIn_74 (by decide) ?_
    refine aw_iadd dX6_takeIn_75 ?_
    refine aw_eq (show _ = nI (ra 4 + 1) by rw [nI_add]) ?_
    refine pf6_pieces dX6_takeIn_76 kf6_33 hk ?_
    exact aw_ret dX6_takeIn_79 (by
        refine ⟨_, rfl, ?_, by simp [uI], by simp [uI], fun f o' h => by simp only [uI_o h]⟩
        unfold RuF rTake
        simp [uI, F0, F1, F2, F3, F4, F5, F6]
        first
          | (have e1 : ¬ ra 6 < pc p 3 - pc p 2 := by omega
             have e2 : max (ra 6) (pc p 3 - pc p 2) = ra 6 := by omega
             simp [e1, e2]; done)
          | (have e1 : ra 6 < pc p 3 - pc p 2 := by omega
             have e2 : max (ra 6) (pc p 3 - pc p 2) = pc p 3 - pc p 2 := by omega
             simp [e1, e2]; done))
  · skip
    refine aw_aload_n dX6_takeIn_26 rfl ?_
    refine aw_iload dX6_takeIn_27 rfl ?_
    refine aw_iload_n dX6_takeIn_29 rfl ?_
    refine aw_isub dX6_takeIn_30 ?_
    refine aw_eq (show _ = nI (pc p 3 - pc p 2) from pk_sub (by omega)) ?_
    refine pf6_longest dX6_takeIn_31 kf6_30 hk ?_
    refine aw_aload_n dX6_takeIn_34 rfl ?_
    refine aw_aload_n dX6_takeIn_35 rfl ?_
    refine aw_iload_n dX6_takeIn_36 rfl ?_
    refine aw_ic (nI 1) dX6_takeIn_37 (by decide) ?_
    refine cqi2 dX6_takeIn_38 km6_9 ok_X5_number rfl rfl (by decide) hR.1 (Nat.le_of_ble_eq_true rfl) ⟨Nat.le_of_ble_eq_true rfl, Nat.le_of_ble_eq_true rfl⟩ rfl rfl (ct_num (show RowN (uI σ.1 196 o (nI (pc p 3 - pc p 2)), σ.2) o5 c pc from ⟨hR.1, by simp only [uI_o hne]; exact hR.2.1, hR.2.2.1, hR.2.2.2⟩) hp (by decide)) ?_
    refine pf6_at dX6_takeIn_41 kf6_21 hk ?_
    refine aw_aload_n dX6_takeIn_44 rfl ?_
    refine aw_aload_n dX6_takeIn_45 rfl ?_
    refine gf6_from dX6_takeIn_46 kf6_24 hk ?_
    refine aw_eq (show _ = nI (ra 2) by simp [uI, F2]) ?_
    refine aw_iload_n dX6_takeIn_49 rfl ?_
    refine aw_min dX6_takeIn_50 km6_45 ⟨Nat.le_of_ble_eq_true rfl, Nat.le_of_ble_eq_true rfl⟩ ?_
    refine aw_eq (minN (by omega) (by omega)) ?_
    refine pf6_from dX6_takeIn_53 kf6_24 hk ?_
    refine aw_aload_n dX6_takeIn_56 rfl ?_
    refine aw_aload_n dX6_takeIn_57 rfl ?_
    refine gf6_to dX6_takeIn_58 kf6_27 hk ?_
    refine aw_eq (show _ = nI (ra 3) by simp [uI, F3]) ?_
    refine aw_iload dX6_takeIn_61 rfl ?_
    refine aw_max dX6_takeIn_63 km6_50 ⟨Nat.le_of_ble_eq_true rfl, Nat.le_of_ble_eq_true rfl⟩ ?_
    refine aw_eq (maxN (by omega) (by omega)) ?_
    refine pf6_to dX6_takeIn_66 kf6_27 hk ?_
    refine aw_aload_n dX6_takeIn_69 rfl ?_
    refine aw_dup dX6_takeIn_70 rfl ?_
    refine gf6_pieces dX6_takeIn_71 kf6_33 hk ?_
    refine aw_eq (show _ = nI (ra 4) by simp [uI, F4]) ?_
    refine aw_ic (nI 1) dX6_takeIn_74 (by decide) ?_
    refine aw_iadd dX6_takeIn_75 ?_
    refine aw_eq (show _ = nI (ra 4 + 1) by rw [nI_add]) ?_
    refine pf6_pieces dX6_takeIn_76 kf6_33 hk ?_
    exact aw_ret dX6_takeIn_79 (by
        refine ⟨_, rfl, ?_, by simp [uI], by simp [uI], fun f o' h => by simp only [uI_o h]⟩
        unfold RuF rTake
        simp [uI, F0, F1, F2, F3, F4, F5, F6]
        first
          | (have e1 : ¬ ra 6 < pc p 3 - pc p 2 := by omega
             have e2 : max (ra 6) (pc p 3 - pc p 2) = ra 6 := by omega
             simp [e1, e2]; done)
          | (have e1 : ra 6 < pc p 3 - pc p 2 := by omega
             have e2 : max (ra 6) (pc p 3 - pc p 2) = pc p 3 - pc p 2 := by omega
             simp [e1, e2]; done))

set_option maxHeartbeats 4000000 in
set_option maxRecDepth 100000 in
theorem ct_Rule_comesBefore {g : GG} {σ : SG} {o o2 : Nat} {ra rb : Nat → Nat} (hk : kd o = 6) (hk2 : kd o2 = 6) (hF : RuF σ.1 o ra) (hB : RuB ra) (hF2 : RuF σ.1 o2 rb) (hB2 : RuB rb) : Cti g yX6_comesBefore cX6_comesBefore 2 (some .boolean) (rmm 0 0) [.ref (ad g o), .ref (ad g o2)] σ (fun r σ' => r = (if befN ra rb = true then 1 else 0) ∧ σ' = σ) := by
  refine ct_of (own := RX6) (lv := [some (.ref (ad g o)), some (.ref (ad g o2))]) rfl (by decide) (Nat.le_of_ble_eq_true rfl) (by intro u hu; simp only [List.mem_cons, List.not_mem_nil, or_false] at hu; rcases hu with rfl | rfl <;> rfl) (lv_ok [.ref (ad g o), .ref (ad g o2)] 0) ?_
  obtain ⟨B0, B1, B2, B3, B4, B5, B6⟩ := hB
  obtain ⟨F0, F1, F2, F3, F4, F5, F6⟩ := hF
  obtain ⟨b0, b1, b2, b3, b4, b5, b6⟩ := hB2
  obtain ⟨f0, f1, f2, f3, f4, f5, f6⟩ := hF2
  refine aw_aload_n dX6_comesBefore_0 rfl ?_
  refine gf6_way dX6_comesBefore_1 kf6_15 hk ?_
  refine aw_eq F0 ?_
  refine aw_aload_n dX6_comesBefore_4 rfl ?_
  refine gf6_way dX6_comesBefore_5 kf6_15 hk2 ?_
  refine aw_eq f0 ?_
  refine aw_icmp_eqN dX6_comesBefore_8 rfl rfl (by omega) (by omega) (fun h_8 => ?_) (fun h_8 => ?_)
  · skip
    refine aw_aload_n dX6_comesBefore_28 rfl ?_
    refine gf6_at dX6_comesBefore_29 kf6_21 hk ?_
    refine aw_eq F1 ?_
    refine aw_aload_n dX6_comesBefore_32 rfl ?_
    refine gf6_at dX6_comesBefore_33 kf6_21 hk2 ?_
    refine aw_eq f1 ?_
    refine aw_icmp_eqN dX6_comesBefore_36 rfl rfl (by omega) (by omega) (fun h_36 => ?_) (fun h_36 => ?_)
    · skip
      refine aw_aload_n dX6_comesBefore_56 rfl ?_
      refine gf6_from dX6_comesBefore_57 kf6_24 hk ?_
      refine aw_eq F2 ?_
      refine aw_aload_n dX6_comesBefore_60 rfl ?_
      refine gf6_from dX6_comesBefore_61 kf6_24 hk2 ?_
      refine aw_eq f2 ?_
      refine aw_icmp_eqN dX6_comesBefore_64 rfl rfl (by omega) (by omega) (fun h_64 => ?_) (fun h_64 => ?_)
      · skip
        refine aw_aload_n dX6_comesBefore_84 rfl ?_
        refine gf6_to dX6_comesBefore_85 kf6_27 hk ?_
        refine aw_eq F3 ?_
        refine aw_aload_n dX6_comesBefore_88 rfl ?_
        refine gf6_to dX6_comesBefore_89 kf6_27 hk2 ?_
        refine aw_eq f3 ?_
        refine aw_icmp_eqN dX6_comesBefore_92 rfl rfl (by omega) (by omega) (fun h_92 => ?_) (fun h_92 => ?_)
        · skip
          refine aw_aload_n dX6_comesBefore_112 rfl ?_
          refine gf6_first dX6_comesBefore_113 kf6_36 hk ?_
          refine aw_eq F5 ?_
          refine aw_aload_n dX6_comesBefore_116 rfl ?_
          refine gf6_first dX6_comesBefore_117 kf6_36 hk2 ?_
          refine aw_eq f5 ?_
          refine aw_icmp_geN dX6_comesBefore_120 rfl rfl (by omega) (by omega) (fun h_120 => ?_) (fun h_120 => ?_)
          · skip
            refine aw_ic (nI 0) dX6_comesBefore_127 (by decide) ?_
            exact aw_iretz dX6_comesBefore_128 (by decide) (by
                refine ⟨?_, rfl⟩
                unfold befN
                simp only [if_pos h_8, if_pos h_36, if_pos h_64, if_pos h_92]
                first
                  | (rw [if_pos (by simp; omega)]; rfl)
                  | (rw [if_neg (by simp; omega)]; rfl))
          · skip
            refine aw_ic (nI 1) dX6_comesBefore_123 (by decide) ?_
            refine aw_goto dX6_comesBefore_124 ?_
            exact aw_iretz dX6_comesBefore_128 (by decide) (by
                refine ⟨?_, rfl⟩
                unfold befN
                simp only [if_pos h_8, if_pos h_36, if_pos h_64, if_pos h_92]
                first
                  | (rw [if_pos (by simp; omega)]; rfl)
                  | (rw [if_neg (by simp; omega)]; rfl))
        · skip
          refine aw_aload_n dX6_comesBefore_95 rfl ?_
          refine gf6_to dX6_comesBefore_96 kf6_27 hk ?_
          refine aw_eq F3 ?_
          refine aw_aload_n dX6_comesBefore_99 rfl ?_
          refine gf6_to dX6_comesBefore_100 kf6_27 hk2 ?_
          refine aw_eq f3 ?_
          refine aw_icmp_geN dX6_comesBefore_103 rfl rfl (by omega) (by omega) (fun h_103 => ?_) (fun h_103 => ?_)
          · skip
            refine aw_ic (nI 0) dX6_comesBefore_110 (by decide) ?_
            exact aw_iretz dX6_comesBefore_111 (by decide) (by
                refine ⟨?_, rfl⟩
                unfold befN
                simp only [if_pos h_8, if_pos h_36, if_pos h_64, if_neg h_92]
                first
                  | (rw [if_pos (by simp; omega)]; rfl)
                  | (rw [if_neg (by simp; omega)]; rfl))
          · skip
            refine aw_ic (nI 1) dX6_comesBefore_106 (by decide) ?_
            refine aw_goto dX6_comesBefore_107 ?_
            exact aw_iretz dX6_comesBefore_111 (by decide) (by
                refine ⟨?_, rfl⟩
                unfold befN
                simp only [if_pos h_8, if_pos h_36, if_pos h_64, if_neg h_92]
                first
                  | (rw [if_pos (by simp; omega)]; rfl)
                  | (rw [if_neg (by simp; omega)]; rfl))
      · skip
        refine aw_aload_n dX6_comesBefore_67 rfl ?_
        refine gf6_from dX6_comesBefore_68 kf6_24 hk ?_
        refine aw_eq F2 ?_
        refine aw_aload_n dX6_comesBefore_71 rfl ?_
        refine gf6_from dX6_comesBefore_72 kf6_24 hk2 ?_
        refine aw_eq f2 ?_
        refine aw_icmp_geN dX6_comesBefore_75 rfl rfl (by omega) (by omega) (fun h_75 => ?_) (fun h_75 => ?_)
        · skip
          refine aw_ic (nI 0) dX6_comesBefore_82 (by decide) ?_
          exact aw_iretz dX6_comesBefore_83 (by decide) (by
              refine ⟨?_, rfl⟩
              unfold befN
              simp only [if_pos h_8, if_pos h_36, if_neg h_64]
              first
                | (rw [if_pos (by simp; omega)]; rfl)
                | (rw [if_neg (by simp; omega)]; rfl))
        · skip
          refine aw_ic (nI 1) dX6_comesBefore_78 (by decide) ?_
          refine aw_goto dX6_comesBefore_79 ?_
          exact aw_iretz dX6_comesBefore_83 (by decide) (by
              refine ⟨?_, rfl⟩
              unfold befN
              simp only [if_pos h_8, if_pos h_36, if_neg h_64]
              first
                | (rw [if_pos (by simp; omega)]; rfl)
                | (rw [if_neg (by simp; omega)]; rfl))
    · skip
      refine aw_aload_n dX6_comesBefore_39 rfl ?_
      refine gf6_at dX6_comesBefore_40 kf6_21 hk ?_
      refine aw_eq F1 ?_
      refine aw_aload_n dX6_comesBefore_43 rfl ?_
      refine gf6_at dX6_comesBefore_44 kf6_21 hk2 ?_
      refine aw_eq f1 ?_
      refine aw_icmp_geN dX6_comesBefore_47 rfl rfl (by omega) (by omega) (fun h_47 => ?_) (fun h_47 => ?_)
      · skip
        refine aw_ic (nI 0) dX6_comesBefore_54 (by decide) ?_
        exact aw_iretz dX6_comesBefore_55 (by decide) (by
            refine ⟨?_, rfl⟩
            unfold befN
            simp only [if_pos h_8, if_neg h_36]
            first
              | (rw [if_pos (by simp; omega)]; rfl)
              | (rw [if_neg (by simp; omega)]; rfl))
      · skip
        refine aw_ic (nI 1) dX6_comesBefore_50 (by decide) ?_
        refine aw_goto dX6_comesBefore_51 ?_
        exact aw_iretz dX6_comesBefore_55 (by decide) (by
            refine ⟨?_, rfl⟩
            unfold befN
            simp only [if_pos h_8, if_neg h_36]
            first
              | (rw [if_pos (by simp; omega)]; rfl)
              | (rw [if_neg (by simp; omega)]; rfl))
  · skip
    refine aw_aload_n dX6_comesBefore_11 rfl ?_
    refine gf6_way dX6_comesBefore_12 kf6_15 hk ?_
    refine aw_eq F0 ?_
    refine aw_aload_n dX6_comesBefore_15 rfl ?_
    refine gf6_way dX6_comesBefore_16 kf6_15 hk2 ?_
    refine aw_eq f0 ?_
    refine aw_icmp_geN dX6_comesBefore_19 rfl rfl (by omega) (by omega) (fun h_19 => ?_) (fun h_19 => ?_)
    · skip
      refine aw_ic (nI 0) dX6_comesBefore_26 (by decide) ?_
      exact aw_iretz dX6_comesBefore_27 (by decide) (by
          refine ⟨?_, rfl⟩
          unfold befN
          simp only [if_neg h_8]
          first
            | (rw [if_pos (by simp; omega)]; rfl)
            | (rw [if_neg (by simp; omega)]; rfl))
    · skip
      refine aw_ic (nI 1) dX6_comesBefore_22 (by decide) ?_
      refine aw_goto dX6_comesBefore_23 ?_
      exact aw_iretz dX6_comesBefore_27 (by decide) (by
          refine ⟨?_, rfl⟩
          unfold befN
          simp only [if_neg h_8]
          first
            | (rw [if_pos (by simp; omega)]; rfl)
            | (rw [if_neg (by simp; omega)]; rfl))

set_option maxHeartbeats 4000000 in
set_option maxRecDepth 100000 in
theorem ct_Rule_covers {g : GG} {σ : SG} {o b e rc : Nat} {ra : Nat → Nat} (hk : kd o = 6) (hF : RuF σ.1 o ra) (hB : RuB ra) (hb : b ≤ 99) (he : e ≤ 99) (hrc : rc ≤ 99) : Cti g yX6_covers cX6_covers 4 (some .boolean) (rmm 0 0) [.ref (ad g o), .int (nI b), .int (nI e), .int (nI rc)] σ (fun r σ' => r = (if covN ra b e rc = true then 1 else 0) ∧ σ' = σ) := by
  refine ct_of (own := RX6) (lv := [some (.ref (ad g o)), some (.int (nI b)), some (.int (nI e)), some (.int (nI rc))]) rfl (by decide) (Nat.le_of_ble_eq_true rfl) (by intro u hu; simp only [List.mem_cons, List.not_mem_nil, or_false] at hu; rcases hu with rfl | rfl | rfl | rfl <;> rfl) (lv_ok [.ref (ad g o), .int (nI b), .int (nI e), .int (nI rc)] 0) ?_
  obtain ⟨B0, B1, B2, B3, B4, B5, B6⟩ := hB
  obtain ⟨F0, F1, F2, F3, F4, F5, F6⟩ := hF
  refine aw_aload_n dX6_covers_0 rfl ?_
  refine gf6_from dX6_covers_1 kf6_24 hk ?_
  refine aw_eq F2 ?_
  refine aw_iload_n dX6_covers_4 rfl ?_
  refine aw_isub dX6_covers_5 ?_
  refine aw_iload_n dX6_covers_6 rfl ?_
  refine aw_icmp_gt dX6_covers_7 (fun h_7 => ?_) (fun h_7 => ?_)
  all_goals rw [sub_gtN (by omega) (by omega) (by omega)] at h_7
  · skip
    refine aw_ic (nI 0) dX6_covers_24 (by decide) ?_
    exact aw_iretz dX6_covers_25 (by decide) (by
        refine ⟨?_, rfl⟩
        unfold covN
        first
          | (rw [if_pos (by simp; omega)]; rfl)
          | (rw [if_neg (by simp; omega)]; rfl))
  · skip
    refine aw_aload_n dX6_covers_10 rfl ?_
    refine gf6_to dX6_covers_11 kf6_27 hk ?_
    refine aw_eq F3 ?_
    refine aw_iload_n dX6_covers_14 rfl ?_
    refine aw_iadd dX6_covers_15 ?_
    refine aw_eq (nI_add _ _) ?_
    refine aw_iload_n dX6_covers_16 rfl ?_
    refine aw_icmp_ltN dX6_covers_17 rfl rfl (by omega) (by omega) (fun h_17 => ?_) (fun h_17 => ?_)
    · skip
      refine aw_ic (nI 0) dX6_covers_24 (by decide) ?_
      exact aw_iretz dX6_covers_25 (by decide) (by
          refine ⟨?_, rfl⟩
          unfold covN
          first
            | (rw [if_pos (by simp; omega)]; rfl)
            | (rw [if_neg (by simp; omega)]; rfl))
    · skip
      refine aw_ic (nI 1) dX6_covers_20 (by decide) ?_
      refine aw_goto dX6_covers_21 ?_
      exact aw_iretz dX6_covers_25 (by decide) (by
          refine ⟨?_, rfl⟩
          unfold covN
          first
            | (rw [if_pos (by simp; omega)]; rfl)
            | (rw [if_neg (by simp; omega)]; rfl))

set_option maxHeartbeats 4000000 in
set_option maxRecDepth 100000 in
theorem ct_Rule_crosses {g : GG} {σ : SG} {o o2 rc : Nat} {ra rb : Nat → Nat} (hk : kd o = 6) (hk2 : kd o2 = 6) (hF : RuF σ.1 o ra) (hB : RuB ra) (hF2 : RuF σ.1 o2 rb) (hB2 : RuB rb) (hrc : rc ≤ 99) : Cti g yX6_crosses cX6_crosses 3 (some .boolean) (rmm 1 23) [.ref (ad g o), .ref (ad g o2), .int (nI rc)] σ (fun r σ' => r = (if crossN ra rb rc = true then 1 else 0) ∧ σ' = σ) := by
  refine ct_of (own := RX6) (lv := [some (.ref (ad g o)), some (.ref (ad g o2)), some (.int (nI rc))]) rfl (by decide) (Nat.le_of_ble_eq_true rfl) (by intro u hu; simp only [List.mem_cons, List.not_mem_nil, or_false] at hu; rcases hu with rfl | rfl | rfl <;> rfl) (lv_ok [.ref (ad g o), .ref (ad g o2), .int (nI rc)] 0) ?_
  have B := hB
  have F := hF
  have b := hB2
  have f := hF2
  obtain ⟨B0, B1, B2, B3, B4, B5, B6⟩ := hB
  obtain ⟨F0, F1, F2, F3, F4, F5, F6⟩ := hF
  obtain ⟨b0, b1, b2, b3, b4, b5, b6⟩ := hB2
  obtain ⟨f0, f1, f2, f3, f4, f5, f6⟩ := hF2
  refine aw_aload_n dX6_crosses_0 rfl ?_
  refine gf6_way dX6_crosses_1 kf6_15 hk ?_
  refine aw_eq F0 ?_
  refine aw_aload_n dX6_crosses_4 rfl ?_
  refine gf6_way dX6_crosses_5 kf6_15 hk2 ?_
  refine aw_eq f0 ?_
  refine aw_icmp_eqN dX6_crosses_8 rfl rfl (by omega) (by omega) (fun h_8 => ?_) (fun h_8 => ?_)
  · skip
    refine aw_ic (nI 0) dX6_crosses_47 (by decide) ?_
    exact aw_iretz dX6_crosses_48 (by decide) (by
        refine ⟨?_, rfl⟩
        unfold crossN
        first
          | (rw [if_pos (by simp_all)]; rfl)
          | (rw [if_neg (by simp_all)]; rfl))
  · skip
    refine aw_aload_n dX6_crosses_11 rfl ?_
    refine aw_aload_n dX6_crosses_12 rfl ?_
    refine gf6_at dX6_crosses_13 kf6_21 hk2 ?_
    refine aw_eq f1 ?_
    refine aw_aload_n dX6_crosses_16 rfl ?_
    refine gf6_at dX6_crosses_17 kf6_21 hk2 ?_
    refine aw_eq f1 ?_
    refine aw_iload_n dX6_crosses_20 rfl ?_
    refine cqi3 dX6_crosses_21 km6_53 ok_X6_covers rfl rfl (by decide) hk (Nat.le_of_ble_eq_true rfl) ⟨Nat.le_of_ble_eq_true rfl, Nat.le_of_ble_eq_true rfl⟩ rfl rfl (ct_Rule_covers hk F B b1 b1 hrc) ?_
    refine aw_if_eqB dX6_crosses_24 rfl (fun h_24 => ?_) (fun h_24 => ?_)
    · skip
      refine aw_ic (nI 0) dX6_crosses_47 (by decide) ?_
      exact aw_iretz dX6_crosses_48 (by decide) (by
          refine ⟨?_, rfl⟩
          unfold crossN
          first
            | (rw [if_pos (by simp_all)]; rfl)
            | (rw [if_neg (by simp_all)]; rfl))
    · skip
      refine aw_aload_n dX6_crosses_27 rfl ?_
      refine aw_aload_n dX6_crosses_28 rfl ?_
      refine gf6_at dX6_crosses_29 kf6_21 hk ?_
      refine aw_eq F1 ?_
      refine aw_aload_n dX6_crosses_32 rfl ?_
      refine gf6_at dX6_crosses_33 kf6_21 hk ?_
      refine aw_eq F1 ?_
      refine aw_iload_n dX6_crosses_36 rfl ?_
      refine cqi3 dX6_crosses_37 km6_53 ok_X6_covers rfl rfl (by decide) hk2 (Nat.le_of_ble_eq_true rfl) ⟨Nat.le_of_ble_eq_true rfl, Nat.le_of_ble_eq_true rfl⟩ rfl rfl (ct_Rule_covers hk2 f b B1 B1 hrc) ?_
      refine aw_if_eqB dX6_crosses_40 rfl (fun h_40 => ?_) (fun h_40 => ?_)
      · skip
        refine aw_ic (nI 0) dX6_crosses_47 (by decide) ?_
        exact aw_iretz dX6_crosses_48 (by decide) (by
            refine ⟨?_, rfl⟩
            unfold crossN
            first
              | (rw [if_pos (by simp_all)]; rfl)
              | (rw [if_neg (by simp_all)]; rfl))
      · skip
        refine aw_ic (nI 1) dX6_crosses_43 (by decide) ?_
        refine aw_goto dX6_crosses_44 ?_
        exact aw_iretz dX6_crosses_48 (by decide) (by
            refine ⟨?_, rfl⟩
            unfold crossN
            first
              | (rw [if_pos (by simp_all)]; rfl)
              | (rw [if_neg (by simp_all)]; rfl))

def telR (I : Nat → Nat → Int32) (o k : Nat) : Int32 := if k = 0 then I 192 o else if k = 1 then I 193 o else if k = 2 then I 194 o else if k = 3 then I 195 o else if k = 4 then I 197 o else if k = 5 then I 198 o else if k = 6 then I 199 o else I 200 o
/-- a number by its place among eight, or none -/
theorem sw8 (x : Int32) : (x.toInt < 0 ∨ 7 < x.toInt) ∨ ∃ k : Nat, k < 8 ∧ x = nI k := by
  by_cases h : x.toInt < 0 ∨ 7 < x.toInt
  · exact Or.inl h
  · refine Or.inr ⟨x.toInt.toNat, by omega, ?_⟩
    apply Int32.toInt_inj.mp
    rw [nI_toInt (by omega)]
    omega
set_option maxHeartbeats 4000000 in
set_option maxRecDepth 100000 in
theorem ct_Rule_tell {g : GG} {σ : SG} {o : Nat} (hk : kd o = 6) (what : Int32) : Cti g yX6_tell cX6_tell 2 (some .int) (rmm 0 0) [.ref (ad g o), .int what] σ (fun r σ' => (((what.toInt < 0 ∨ 7 < what.toInt) ∧ r = -2) ∨ ∃ k, k < 8 ∧ what = nI k ∧ r = telR σ.1 o k) ∧ σ' = σ) := by
  refine ct_of (own := RX6) (lv := [some (.ref (ad g o)), some (.int what)]) rfl (by decide) (Nat.le_of_ble_eq_true rfl) (by intro u hu; simp only [List.mem_cons, List.not_mem_nil, or_false] at hu; rcases hu with rfl | rfl <;> rfl) (lv_ok [.ref (ad g o), .int what] 0) ?_
  rcases sw8 what with h | ⟨k, hk8, rfl⟩
  · refine aw_iload_n dX6_tell_0 rfl ?_
    refine aw_tout dX6_tell_1 h (tgt := 88) (by decide) ?_
    refine aw_bi (-2) dX6_tell_88 (by decide) ?_
    exact aw_ireti dX6_tell_90 ⟨Or.inl ⟨h, rfl⟩, rfl⟩
  · refine aw_iload_n dX6_tell_0 rfl ?_
    have hi := nI_toInt (n := k) (by omega)
    rcases (show k = 0 ∨ k = 1 ∨ k = 2 ∨ k = 3 ∨ k = 4 ∨ k = 5 ∨ k = 6 ∨ k = 7 by omega) with rfl | rfl | rfl | rfl | rfl | rfl | rfl | rfl
    · refine aw_tin dX6_tell_1 (tgt := 48) (off := 47) (by decide) (by decide) (by decide +kernel) (by decide) ?_
      refine aw_aload_n dX6_tell_48 rfl ?_
      refine gf6_way dX6_tell_49 kf6_15 hk ?_
      exact aw_ireti dX6_tell_52 ⟨Or.inr ⟨0, by decide, rfl, rfl⟩, rfl⟩
    · refine aw_tin dX6_tell_1 (tgt := 53) (off := 52) (by decide) (by decide) (by decide +kernel) (by decide) ?_
      refine aw_aload_n dX6_tell_53 rfl ?_
      refine gf6_at dX6_tell_54 kf6_21 hk ?_
      exact aw_ireti dX6_tell_57 ⟨Or.inr ⟨1, by decide, rfl, rfl⟩, rfl⟩
    · refine aw_tin dX6_tell_1 (tgt := 58) (off := 57) (by decide) (by decide) (by decide +kernel) (by decide) ?_
      refine aw_aload_n dX6_tell_58 rfl ?_
      refine gf6_from dX6_tell_59 kf6_24 hk ?_
      exact aw_ireti dX6_tell_62 ⟨Or.inr ⟨2, by decide, rfl, rfl⟩, rfl⟩
    · refine aw_tin dX6_tell_1 (tgt := 63) (off := 62) (by decide) (by decide) (by decide +kernel) (by decide) ?_
      refine aw_aload_n dX6_tell_63 rfl ?_
      refine gf6_to dX6_tell_64 kf6_27 hk ?_
      exact aw_ireti dX6_tell_67 ⟨Or.inr ⟨3, by decide, rfl, rfl⟩, rfl⟩
    · refine aw_tin dX6_tell_1 (tgt := 68) (off := 67) (by decide) (by decide) (by decide +kernel) (by decide) ?_
      refine aw_aload_n dX6_tell_68 rfl ?_
      refine gf6_pieces dX6_tell_69 kf6_33 hk ?_
      exact aw_ireti dX6_tell_72 ⟨Or.inr ⟨4, by decide, rfl, rfl⟩, rfl⟩
    · refine aw_tin dX6_tell_1 (tgt := 73) (off := 72) (by decide) (by decide) (by decide +kernel) (by decide) ?_
      refine aw_aload_n dX6_tell_73 rfl ?_
      refine gf6_first dX6_tell_74 kf6_36 hk ?_
      exact aw_ireti dX6_tell_77 ⟨Or.inr ⟨5, by decide, rfl, rfl⟩, rfl⟩
    · refine aw_tin dX6_tell_1 (tgt := 78) (off := 77) (by decide) (by decide) (by decide +kernel) (by decide) ?_
      refine aw_aload_n dX6_tell_78 rfl ?_
      refine gf6_crossings dX6_tell_79 kf6_39 hk ?_
      exact aw_ireti dX6_tell_82 ⟨Or.inr ⟨6, by decide, rfl, rfl⟩, rfl⟩
    · refine aw_tin dX6_tell_1 (tgt := 83) (off := 82) (by decide) (by decide) (by decide +kernel) (by decide) ?_
      refine aw_aload_n dX6_tell_83 rfl ?_
      refine gf6_table dX6_tell_84 kf6_42 hk ?_
      exact aw_ireti dX6_tell_87 ⟨Or.inr ⟨7, by decide, rfl, rfl⟩, rfl⟩


