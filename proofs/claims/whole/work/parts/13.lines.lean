/-- the least k below n with p k; n if there is none -/
def fst (p : Nat → Bool) : Nat → Nat
  | 0 => 0
  | n + 1 => if fst p n < n then fst p n else if p n = true then n else n + 1
theorem fst_le (p : Nat → Bool) : ∀ n, fst p n ≤ n
  | 0 => Nat.le_refl _
  | n + 1 => by
    have := fst_le p n
    unfold fst
    split
    · omega
    · split <;> omega
theorem fst_none {p : Nat → Bool} : ∀ {n : Nat}, (∀ j, j < n → p j = false) → fst p n = n
  | 0, _ => rfl
  | n + 1, h => by
    have := fst_none (n := n) (fun j hj => h j (by omega))
    unfold fst
    rw [this, if_neg (by omega), h n (by omega)]
    rfl
theorem fst_eq {p : Nat → Bool} : ∀ {n i : Nat}, (∀ j, j < i → p j = false) → p i = true → i < n → fst p n = i
  | 0, i, _, _, h => by omega
  | n + 1, i, h, hi, hlt => by
    rcases Nat.lt_or_ge i n with q | q
    · have := fst_eq (n := n) h hi q
      unfold fst
      rw [this, if_pos q]
    · have e : i = n := by omega
      subst e
      have := fst_none h
      unfold fst
      rw [this, if_neg (by omega), if_pos hi]
theorem fst_cong {p q : Nat → Bool} : ∀ {n : Nat}, (∀ k, k < n → p k = q k) → fst p n = fst q n
  | 0, _ => rfl
  | n + 1, h => by
    have := fst_cong (n := n) (fun k hk => h k (by omega))
    unfold fst
    rw [this, h n (by omega)]
/-- a number found below n, or -6 -/
def orN (k n : Nat) : Int32 := if k < n then nI k else -6
theorem orN_y {k n : Nat} (h : k < n) : orN k n = nI k := if_pos h
theorem orN_n (n : Nat) : orN n n = -6 := if_neg (Nat.lt_irrefl n)
def btw (pl : Nat → Nat) (d k : Nat) : Bool := decide (2 * pl k < d) && decide (d < 2 * pl (k + 1))
/-- the lines of a table: n w of way w, pl w k the place of the k-th -/
def LinN (σ : SG) (o : Nat) (n : Nat → Nat) (pl : Nat → Nat → Nat) : Prop := kd o = 2 ∧ ∀ w, w < 2 → σ.2.1 (o + 4) w = nI (n w) ∧ n w ≤ ln (o + 1 + 1 + w) ∧ ∀ k, k < n w → σ.2.1 (o + 1 + 1 + w) k = nI (pl w k) ∧ pl w k ≤ 99
theorem kf_row2 {o w : Nat} (h : kd o = 2) (hw : w < 2) : kd (o + 1 + 1 + w) = 11 := kd_all (P := fun o => ∀ w, w < 2 → kd (o + 1 + 1 + w) = 11) 2 (by decide) (by decide +kernel) h w hw
theorem ln_l1 {o : Nat} (h : kd o = 2) : ln (o + 1) = 2 := kd_all (P := fun o => ln (o + 1) = 2) 2 (by decide) (by decide +kernel) h
theorem ln_l4 {o : Nat} (h : kd o = 2) : ln (o + 4) = 2 := kd_all (P := fun o => ln (o + 4) = 2) 2 (by decide) (by decide +kernel) h
theorem ln_row2 {o w : Nat} (h : kd o = 2) (hw : w < 2) : ln (o + 1 + 1 + w) ≤ 22 := kd_all (P := fun o => ∀ w, w < 2 → ln (o + 1 + 1 + w) ≤ 22) 2 (by decide) (by decide +kernel) h w hw
set_option maxHeartbeats 4000000 in
set_option maxRecDepth 100000 in
theorem ct_Lines_clear {g : GG} {σ : SG} {o : Nat} (hk : kd o = 2) : Ctv g yX2_clear cX2_clear 1 (rmm 0 0) [.ref (ad g o)] σ (fun σ' => σ' = (σ.1, uA σ.2.1 (o + 4) (upd (upd (σ.2.1 (o + 4)) 0 (nI 0)) 1 (nI 0)), σ.2.2)) := by
  refine ct_of (own := RX2) (lv := [some (.ref (ad g o))]) rfl (by decide) (Nat.le_of_ble_eq_true rfl) (by intro u hu; simp only [List.mem_cons, List.not_mem_nil, or_false] at hu; rcases hu with rfl <;> rfl) (lv_ok [.ref (ad g o)] 0) ?_
  have hl1 := ln_l1 hk
  have hl4 := ln_l4 hk
  
  refine aw_aload_n dX2_clear_0 rfl ?_
  refine gf2_counts dX2_clear_1 kf2_22 hk ?_
  refine aw_ic (nI 0) dX2_clear_4 (by decide) ?_
  refine aw_ic (nI 0) dX2_clear_5 (by decide) ?_
  refine aw_sto (0) dX2_clear_6 (kf_2_counts hk) (rfl) (by omega) ?_
  refine aw_aload_n dX2_clear_7 rfl ?_
  refine gf2_counts dX2_clear_8 kf2_22 hk ?_
  refine aw_ic (nI 1) dX2_clear_11 (by decide) ?_
  refine aw_ic (nI 0) dX2_clear_12 (by decide) ?_
  refine aw_sto (1) dX2_clear_13 (kf_2_counts hk) (rfl) (by omega) ?_
  exact aw_ret dX2_clear_14 (by simp only [uA_s, uA_uA])

set_option maxHeartbeats 4000000 in
set_option maxRecDepth 100000 in
theorem ct_Lines_add {g : GG} {σ : SG} {o w p : Nat} {n : Nat → Nat} {pl : Nat → Nat → Nat} (hL : LinN σ o n pl) (hw : w < 2) (hroom : n w < ln (o + 1 + 1 + w)) (hp : p ≤ 99) : Ctv g yX2_add cX2_add 4 (rmm 0 0) [.ref (ad g o), .int (nI w), .int (nI p)] σ (fun σ' => (0 < n w ∧ pl w (n w - 1) = p ∧ σ' = σ) ∨ ((0 < n w → pl w (n w - 1) ≠ p) ∧ σ' = (σ.1, uA (uA σ.2.1 (o + 1 + 1 + w) (upd (σ.2.1 (o + 1 + 1 + w)) (n w) (nI p))) (o + 4) (upd (σ.2.1 (o + 4)) w (nI (n w + 1))), σ.2.2))) := by
  refine ct_of (own := RX2) (lv := [some (.ref (ad g o)), some (.int (nI w)), some (.int (nI p)), none]) rfl (by decide) (Nat.le_of_ble_eq_true rfl) (by intro u hu; simp only [List.mem_cons, List.not_mem_nil, or_false] at hu; rcases hu with rfl | rfl | rfl <;> rfl) (lv_ok [.ref (ad g o), .int (nI w), .int (nI p)] 1) ?_
  have hk := hL.1
  have hl1 := ln_l1 hk
  have hl4 := ln_l4 hk
  have hlr := ln_row2 hk hw
  obtain ⟨hn, hnl, hpl⟩ := hL.2 w hw
  
  refine aw_aload_n dX2_add_0 rfl ?_
  refine gf2_counts dX2_add_1 kf2_22 hk ?_
  refine aw_iload_n dX2_add_4 rfl ?_
  refine aw_ld (w) dX2_add_5 (kf_2_counts hk) (rfl) (by omega) ?_
  refine aw_eq hn ?_
  refine aw_istore_n dX2_add_6 (Nat.le_of_ble_eq_true rfl) ?_
  refine aw_iload_n dX2_add_7 rfl ?_
  refine aw_aload_n dX2_add_8 rfl ?_
  refine gf2_places dX2_add_9 kf2_17 hk ?_
  refine aw_iload_n dX2_add_12 rfl ?_
  refine aw_ald16 (w) dX2_add_13 (kf_2_places hk) (rfl) (by omega) ?_
  refine aw_alen dX2_add_14 (kf_row2 hk hw) (Or.inl rfl) ?_
  refine aw_icmp_ltN dX2_add_15 rfl rfl (by omega) (by omega) (fun h_15 => ?_) (fun h_15 => absurd h_15 (by omega))
  refine aw_iload_n dX2_add_19 rfl ?_
  refine aw_if_eqN dX2_add_20 rfl (by omega) (fun h_20 => ?_) (fun h_20 => ?_)
  · skip
    refine aw_aload_n dX2_add_37 rfl ?_
    refine gf2_places dX2_add_38 kf2_17 hk ?_
    refine aw_iload_n dX2_add_41 rfl ?_
    refine aw_ald16 (w) dX2_add_42 (kf_2_places hk) (rfl) (by omega) ?_
    refine aw_iload_n dX2_add_43 rfl ?_
    refine aw_iload_n dX2_add_44 rfl ?_
    refine aw_sto (n w) dX2_add_45 (kf_row2 hk hw) (rfl) (by omega) ?_
    refine aw_aload_n dX2_add_46 rfl ?_
    refine gf2_counts dX2_add_47 kf2_22 hk ?_
    refine aw_iload_n dX2_add_50 rfl ?_
    refine aw_iload_n dX2_add_51 rfl ?_
    refine aw_ic (nI 1) dX2_add_52 (by decide) ?_
    refine aw_iadd dX2_add_53 ?_
    refine aw_eq (show _ = nI (n w + 1) by rw [nI_add]) ?_
    refine aw_sto (w) dX2_add_54 (kf_2_counts hk) (rfl) (by omega) ?_
    exact aw_ret dX2_add_55 (by
        first
          | exact Or.inl ⟨by omega, h_34, rfl⟩
          | exact Or.inr ⟨fun _ => by omega, by rw [uA_n (show o + 4 ≠ o + 1 + 1 + w by omega)]⟩)
  · skip
    refine aw_aload_n dX2_add_23 rfl ?_
    refine gf2_places dX2_add_24 kf2_17 hk ?_
    refine aw_iload_n dX2_add_27 rfl ?_
    refine aw_ald16 (w) dX2_add_28 (kf_2_places hk) (rfl) (by omega) ?_
    refine aw_iload_n dX2_add_29 rfl ?_
    refine aw_ic (nI 1) dX2_add_30 (by decide) ?_
    refine aw_isub dX2_add_31 ?_
    refine aw_eq (show _ = nI (n w - 1) from pk_sub (by omega)) ?_
    refine aw_ld (n w - 1) dX2_add_32 (kf_row2 hk hw) (rfl) (by omega) ?_
    refine aw_eq (hpl _ (by omega)).1 ?_
    have hb9 := (hpl (n w - 1) (by omega)).2
    refine aw_iload_n dX2_add_33 rfl ?_
    refine aw_icmp_eqN dX2_add_34 rfl rfl (by omega) (by omega) (fun h_34 => ?_) (fun h_34 => ?_)
    · skip
      exact aw_ret dX2_add_55 (by
          first
            | exact Or.inl ⟨by omega, h_34, rfl⟩
            | exact Or.inr ⟨fun _ => by omega, by rw [uA_n (show o + 4 ≠ o + 1 + 1 + w by omega)]⟩)
    · skip
      refine aw_aload_n dX2_add_37 rfl ?_
      refine gf2_places dX2_add_38 kf2_17 hk ?_
      refine aw_iload_n dX2_add_41 rfl ?_
      refine aw_ald16 (w) dX2_add_42 (kf_2_places hk) (rfl) (by omega) ?_
      refine aw_iload_n dX2_add_43 rfl ?_
      refine aw_iload_n dX2_add_44 rfl ?_
      refine aw_sto (n w) dX2_add_45 (kf_row2 hk hw) (rfl) (by omega) ?_
      refine aw_aload_n dX2_add_46 rfl ?_
      refine gf2_counts dX2_add_47 kf2_22 hk ?_
      refine aw_iload_n dX2_add_50 rfl ?_
      refine aw_iload_n dX2_add_51 rfl ?_
      refine aw_ic (nI 1) dX2_add_52 (by decide) ?_
      refine aw_iadd dX2_add_53 ?_
      refine aw_eq (show _ = nI (n w + 1) by rw [nI_add]) ?_
      refine aw_sto (w) dX2_add_54 (kf_2_counts hk) (rfl) (by omega) ?_
      exact aw_ret dX2_add_55 (by
          first
            | exact Or.inl ⟨by omega, h_34, rfl⟩
            | exact Or.inr ⟨fun _ => by omega, by rw [uA_n (show o + 4 ≠ o + 1 + 1 + w by omega)]⟩)

set_option maxHeartbeats 4000000 in
set_option maxRecDepth 100000 in
theorem ct_Lines_placeOf {g : GG} {σ : SG} {o w k : Nat} {n : Nat → Nat} {pl : Nat → Nat → Nat} (hL : LinN σ o n pl) (hw : w < 2) (hkn : k < n w) : Cti g yX2_placeOf cX2_placeOf 3 (some .int) (rmm 0 0) [.ref (ad g o), .int (nI w), .int (nI k)] σ (fun r σ' => r = nI (pl w k) ∧ σ' = σ) := by
  refine ct_of (own := RX2) (lv := [some (.ref (ad g o)), some (.int (nI w)), some (.int (nI k))]) rfl (by decide) (Nat.le_of_ble_eq_true rfl) (by intro u hu; simp only [List.mem_cons, List.not_mem_nil, or_false] at hu; rcases hu with rfl | rfl | rfl <;> rfl) (lv_ok [.ref (ad g o), .int (nI w), .int (nI k)] 0) ?_
  have hk := hL.1
  have hl1 := ln_l1 hk
  have hl4 := ln_l4 hk
  have hlr := ln_row2 hk hw
  obtain ⟨hn, hnl, hpl⟩ := hL.2 w hw
  have hk31 : k < 2 ^ 31 := by omega
  refine aw_iload_n dX2_placeOf_0 rfl ?_
  refine aw_if_lt dX2_placeOf_1 (fun h_1 => absurd h_1 (nI_pos hk31)) (fun h_1 => ?_)
  refine aw_iload_n dX2_placeOf_4 rfl ?_
  refine aw_aload_n dX2_placeOf_5 rfl ?_
  refine gf2_counts dX2_placeOf_6 kf2_22 hk ?_
  refine aw_iload_n dX2_placeOf_9 rfl ?_
  refine aw_ld (w) dX2_placeOf_10 (kf_2_counts hk) (rfl) (by omega) ?_
  refine aw_eq hn ?_
  refine aw_icmp_geN dX2_placeOf_11 rfl rfl (by omega) (by omega) (fun h_11 => absurd h_11 (by omega)) (fun h_11 => ?_)
  refine aw_aload_n dX2_placeOf_14 rfl ?_
  refine gf2_places dX2_placeOf_15 kf2_17 hk ?_
  refine aw_iload_n dX2_placeOf_18 rfl ?_
  refine aw_ald16 (w) dX2_placeOf_19 (kf_2_places hk) (rfl) (by omega) ?_
  refine aw_iload_n dX2_placeOf_20 rfl ?_
  refine aw_ld (k) dX2_placeOf_21 (kf_row2 hk hw) (rfl) (by omega) ?_
  refine aw_goto dX2_placeOf_22 ?_
  exact aw_ireti dX2_placeOf_27 (⟨(hpl k hkn).1, rfl⟩)

set_option maxHeartbeats 4000000 in
set_option maxRecDepth 100000 in
theorem ct_Lines_placeNo {g : GG} {σ : SG} {o w : Nat} {n : Nat → Nat} {pl : Nat → Nat → Nat} (hL : LinN σ o n pl) (hw : w < 2) (line : Int32) (hout : line < 0 ∨ nI (n w) ≤ line) : Cti g yX2_placeOf cX2_placeOf 3 (some .int) (rmm 0 0) [.ref (ad g o), .int (nI w), .int line] σ (fun r σ' => r = -6 ∧ σ' = σ) := by
  refine ct_of (own := RX2) (lv := [some (.ref (ad g o)), some (.int (nI w)), some (.int line)]) rfl (by decide) (Nat.le_of_ble_eq_true rfl) (by intro u hu; simp only [List.mem_cons, List.not_mem_nil, or_false] at hu; rcases hu with rfl | rfl | rfl <;> rfl) (lv_ok [.ref (ad g o), .int (nI w), .int line] 0) ?_
  have hk := hL.1
  have hl1 := ln_l1 hk
  have hl4 := ln_l4 hk
  have hlr := ln_row2 hk hw
  obtain ⟨hn, hnl, hpl⟩ := hL.2 w hw
  have hk31 : n w < 2 ^ 31 := by omega
  refine aw_iload_n dX2_placeOf_0 rfl ?_
  refine aw_if_lt dX2_placeOf_1 (fun h_1 => ?_) (fun h_1 => ?_)
  · skip
    refine aw_bi (-6) dX2_placeOf_25 (by decide) ?_
    exact aw_ireti dX2_placeOf_27 (⟨rfl, rfl⟩)
  · skip
    refine aw_iload_n dX2_placeOf_4 rfl ?_
    refine aw_aload_n dX2_placeOf_5 rfl ?_
    refine gf2_counts dX2_placeOf_6 kf2_22 hk ?_
    refine aw_iload_n dX2_placeOf_9 rfl ?_
    refine aw_ld (w) dX2_placeOf_10 (kf_2_counts hk) (rfl) (by omega) ?_
    refine aw_eq hn ?_
    refine aw_icmp_ge dX2_placeOf_11 (fun h_11 => ?_) (fun h_11 => absurd h_11 (not_not_intro (hout.resolve_left h_1)))
    refine aw_bi (-6) dX2_placeOf_25 (by decide) ?_
    exact aw_ireti dX2_placeOf_27 (⟨rfl, rfl⟩)

set_option maxHeartbeats 4000000 in
set_option maxRecDepth 100000 in
theorem ct_Lines_lineAt {g : GG} {σ : SG} {o w p j : Nat} {n : Nat → Nat} {pl : Nat → Nat → Nat} (hL : LinN σ o n pl) (hw : w < 2) (hj : j < n w) (hjp : pl w j = p) (hno : ∀ i, i < j → pl w i ≠ p) : Cti g yX2_lineAt cX2_lineAt 4 (some .int) (rmm 0 0) [.ref (ad g o), .int (nI w), .int (nI p)] σ (fun r σ' => r = nI j ∧ σ' = σ) := by
  refine ct_of (own := RX2) (lv := [some (.ref (ad g o)), some (.int (nI w)), some (.int (nI p)), none]) rfl (by decide) (Nat.le_of_ble_eq_true rfl) (by intro u hu; simp only [List.mem_cons, List.not_mem_nil, or_false] at hu; rcases hu with rfl | rfl | rfl <;> rfl) (lv_ok [.ref (ad g o), .int (nI w), .int (nI p)] 1) ?_
  have hk := hL.1
  have hl1 := ln_l1 hk
  have hl4 := ln_l4 hk
  have hlr := ln_row2 hk hw
  obtain ⟨hn, hnl, hpl⟩ := hL.2 w hw
  have hb9 := (hpl j hj).2
  refine aw_ic (nI 0) dX2_lineAt_0 (by decide) ?_
  refine aw_istore_n dX2_lineAt_1 (Nat.le_of_ble_eq_true rfl) ?_
  refine for_up (fun i σ' => i ≤ j ∧ σ' = σ) (fun i => [some (.ref (ad g o)), some (.int (nI w)), some (.int (nI p)), some (.int (nI i))]) (j + 1) ?_ (fun _ h => absurd h.1 (by omega)) 0 σ (Nat.zero_le _) ⟨Nat.zero_le _, rfl⟩
  rintro i σ2 hi ⟨hi2, rfl⟩ ih
  have hb8 := (hpl i (by omega)).2
  refine aw_iload_n dX2_lineAt_2 rfl ?_
  refine aw_aload_n dX2_lineAt_3 rfl ?_
  refine gf2_counts dX2_lineAt_4 kf2_22 hk ?_
  refine aw_iload_n dX2_lineAt_7 rfl ?_
  refine aw_ld (w) dX2_lineAt_8 (kf_2_counts hk) (rfl) (by omega) ?_
  refine aw_eq hn ?_
  refine aw_icmp_geN dX2_lineAt_9 rfl rfl (by omega) (by omega) (fun h_9 => absurd h_9 (by omega)) (fun h_9 => ?_)
  refine aw_aload_n dX2_lineAt_12 rfl ?_
  refine gf2_places dX2_lineAt_13 kf2_17 hk ?_
  refine aw_iload_n dX2_lineAt_16 rfl ?_
  refine aw_ald16 (w) dX2_lineAt_17 (kf_2_places hk) (rfl) (by omega) ?_
  refine aw_iload_n dX2_lineAt_18 rfl ?_
  refine aw_ld (i) dX2_lineAt_19 (kf_row2 hk hw) (rfl) (by omega) ?_
  refine aw_eq (hpl i (by omega)).1 ?_
  refine aw_iload_n dX2_lineAt_20 rfl ?_
  refine aw_icmp_neN dX2_lineAt_21 rfl rfl (by omega) (by omega) (fun h_21 => ?_) (fun h_21 => ?_)
  · skip
    refine aw_inc (nI (i + 1)) dX2_lineAt_26 rfl (Nat.le_of_ble_eq_true rfl) (nI_1 i) ?_
    refine aw_goto dX2_lineAt_29 ?_
    exact ih _ ⟨by
      rcases Nat.lt_or_ge i j with q | q
      · omega
      · exact absurd (show pl w i = p by rw [show i = j by omega]; exact hjp) h_21, rfl⟩
  · skip
    refine aw_iload_n dX2_lineAt_24 rfl ?_
    exact aw_ireti dX2_lineAt_25 (⟨by
      rcases Nat.lt_or_ge i j with q | q
      · exact absurd h_21 (hno i q)
      · rw [show i = j by omega], rfl⟩)

set_option maxHeartbeats 4000000 in
set_option maxRecDepth 100000 in
theorem ct_Lines_lineBefore {g : GG} {σ : SG} {o w d : Nat} {n : Nat → Nat} {pl : Nat → Nat → Nat} (hL : LinN σ o n pl) (hw : w < 2) (hd : d ≤ 198) : Cti g yX2_lineBefore cX2_lineBefore 4 (some .int) (rmm 0 0) [.ref (ad g o), .int (nI w), .int (nI d)] σ (fun r σ' => r = orN (fst (btw (pl w) d) (n w - 1)) (n w - 1) ∧ σ' = σ) := by
  refine ct_of (own := RX2) (lv := [some (.ref (ad g o)), some (.int (nI w)), some (.int (nI d)), none]) rfl (by decide) (Nat.le_of_ble_eq_true rfl) (by intro u hu; simp only [List.mem_cons, List.not_mem_nil, or_false] at hu; rcases hu with rfl | rfl | rfl <;> rfl) (lv_ok [.ref (ad g o), .int (nI w), .int (nI d)] 1) ?_
  have hk := hL.1
  have hl1 := ln_l1 hk
  have hl4 := ln_l4 hk
  have hlr := ln_row2 hk hw
  obtain ⟨hn, hnl, hpl⟩ := hL.2 w hw
  
  refine aw_ic (nI 0) dX2_lineBefore_0 (by decide) ?_
  refine aw_istore_n dX2_lineBefore_1 (Nat.le_of_ble_eq_true rfl) ?_
  refine for_up (fun i σ' => (∀ j, j < i → btw (pl w) d j = false) ∧ σ' = σ) (fun i => [some (.ref (ad g o)), some (.int (nI w)), some (.int (nI d)), some (.int (nI i))]) (n w - 1) ?_ ?_ 0 σ (Nat.zero_le _) ⟨fun _ h => absurd h (Nat.not_lt_zero _), rfl⟩
  · rintro i σ2 hi ⟨hi2, rfl⟩ ih
    have hb8 := (hpl i (by omega)).2
    have hb9 := (hpl (i + 1) (by omega)).2
    refine aw_iload_n dX2_lineBefore_2 rfl ?_
    refine aw_ic (nI 1) dX2_lineBefore_3 (by decide) ?_
    refine aw_iadd dX2_lineBefore_4 ?_
    refine aw_eq (nI_1 i) ?_
    refine aw_aload_n dX2_lineBefore_5 rfl ?_
    refine gf2_counts dX2_lineBefore_6 kf2_22 hk ?_
    refine aw_iload_n dX2_lineBefore_9 rfl ?_
    refine aw_ld (w) dX2_lineBefore_10 (kf_2_counts hk) (rfl) (by omega) ?_
    refine aw_eq hn ?_
    refine aw_icmp_geN dX2_lineBefore_11 rfl rfl (by omega) (by omega) (fun h_11 => absurd h_11 (by omega)) (fun h_11 => ?_)
    refine aw_ic (nI 2) dX2_lineBefore_14 (by decide) ?_
    refine aw_aload_n dX2_lineBefore_15 rfl ?_
    refine gf2_places dX2_lineBefore_16 kf2_17 hk ?_
    refine aw_iload_n dX2_lineBefore_19 rfl ?_
    refine aw_ald16 (w) dX2_lineBefore_20 (kf_2_places hk) (rfl) (by omega) ?_
    refine aw_iload_n dX2_lineBefore_21 rfl ?_
    refine aw_ld (i) dX2_lineBefore_22 (kf_row2 hk hw) (rfl) (by omega) ?_
    refine aw_eq (hpl i (by omega)).1 ?_
    refine aw_imul dX2_lineBefore_23 ?_
    refine aw_eq (pk_mul 2 (pl w i)) ?_
    refine aw_iload_n dX2_lineBefore_24 rfl ?_
    refine aw_icmp_geN dX2_lineBefore_25 rfl rfl (by omega) (by omega) (fun h_25 => ?_) (fun h_25 => ?_)
    · skip
      refine aw_inc (nI (i + 1)) dX2_lineBefore_46 rfl (Nat.le_of_ble_eq_true rfl) (nI_1 i) ?_
      refine aw_goto dX2_lineBefore_49 ?_
      exact ih _ ⟨fun j hj => by
        rcases Nat.lt_or_ge j i with q | q
        · exact hi2 j q
        · rw [show j = i by omega]
          unfold btw
          simp
          omega, rfl⟩
    · skip
      refine aw_iload_n dX2_lineBefore_28 rfl ?_
      refine aw_ic (nI 2) dX2_lineBefore_29 (by decide) ?_
      refine aw_aload_n dX2_lineBefore_30 rfl ?_
      refine gf2_places dX2_lineBefore_31 kf2_17 hk ?_
      refine aw_iload_n dX2_lineBefore_34 rfl ?_
      refine aw_ald16 (w) dX2_lineBefore_35 (kf_2_places hk) (rfl) (by omega) ?_
      refine aw_iload_n dX2_lineBefore_36 rfl ?_
      refine aw_ic (nI 1) dX2_lineBefore_37 (by decide) ?_
      refine aw_iadd dX2_lineBefore_38 ?_
      refine aw_eq (nI_1 i) ?_
      refine aw_ld (i + 1) dX2_lineBefore_39 (kf_row2 hk hw) (rfl) (by omega) ?_
      refine aw_eq (hpl (i + 1) (by omega)).1 ?_
      refine aw_imul dX2_lineBefore_40 ?_
      refine aw_eq (pk_mul 2 (pl w (i + 1))) ?_
      refine aw_icmp_geN dX2_lineBefore_41 rfl rfl (by omega) (by omega) (fun h_41 => ?_) (fun h_41 => ?_)
      · skip
        refine aw_inc (nI (i + 1)) dX2_lineBefore_46 rfl (Nat.le_of_ble_eq_true rfl) (nI_1 i) ?_
        refine aw_goto dX2_lineBefore_49 ?_
        exact ih _ ⟨fun j hj => by
          rcases Nat.lt_or_ge j i with q | q
          · exact hi2 j q
          · rw [show j = i by omega]
            unfold btw
            simp
            omega, rfl⟩
      · skip
        refine aw_iload_n dX2_lineBefore_44 rfl ?_
        exact aw_ireti dX2_lineBefore_45 (⟨by rw [fst_eq hi2 (by unfold btw; simp; omega) hi, orN_y hi], rfl⟩)
  · rintro σ2 ⟨hi2, rfl⟩
    refine aw_iload_n dX2_lineBefore_2 rfl ?_
    refine aw_ic (nI 1) dX2_lineBefore_3 (by decide) ?_
    refine aw_iadd dX2_lineBefore_4 ?_
    refine aw_eq (nI_1 _) ?_
    refine aw_aload_n dX2_lineBefore_5 rfl ?_
    refine gf2_counts dX2_lineBefore_6 kf2_22 hk ?_
    refine aw_iload_n dX2_lineBefore_9 rfl ?_
    refine aw_ld (w) dX2_lineBefore_10 (kf_2_counts hk) (rfl) (by omega) ?_
    refine aw_eq hn ?_
    refine aw_icmp_geN dX2_lineBefore_11 rfl rfl (by omega) (by omega) (fun h_11 => ?_) (fun h_11 => absurd h_11 (by omega))
    refine aw_bi (-6) dX2_lineBefore_52 (by decide) ?_
    exact aw_ireti dX2_lineBefore_54 (⟨by rw [fst_none hi2, orN_n], rfl⟩)

