/-- a table's cells: cc of them, fc f the cell of field f, cv q j the number j of cell q -/
def TaC (σ : SG) (o nr nc cc : Nat) (fc : Nat → Nat) (cv : Nat → Nat → Nat) : Prop := TaD σ o nr nc ∧ σ.1 263 o = nI cc ∧ cc ≤ nr * nc ∧ (∀ f, f < nr * nc → σ.2.1 (o + 7) f = nI (fc f) ∧ fc f < cc) ∧ ∀ q j, q < cc → j < 7 → σ.2.1 (o + 8 + 1 + j) q = nI (cv q j) ∧ cv q j ≤ 999
def allB (p : Nat → Bool) : Nat → Bool
  | 0 => true
  | n + 1 => allB p n && p n
theorem allB_iff {p : Nat → Bool} : ∀ {n : Nat}, allB p n = true ↔ ∀ k, k < n → p k = true
  | 0 => by simp [allB]
  | n + 1 => by
    have ih := allB_iff (p := p) (n := n)
    unfold allB
    rw [Bool.and_eq_true, ih]
    constructor
    · rintro ⟨h1, h2⟩ k hk
      rcases Nat.lt_or_ge k n with q | q
      · exact h1 k q
      · rw [show k = n by omega]
        exact h2
    · intro h
      exact ⟨fun k hk => h k (by omega), h n (by omega)⟩
set_option maxHeartbeats 4000000 in
set_option maxRecDepth 100000 in
theorem ct_cellOf {g : GG} {σ : SG} {o nr nc cc : Nat} {fc : Nat → Nat} {cv : Nat → Nat → Nat} (hC : TaC σ o nr nc cc fc cv) {r c : Nat} (h1 : r < nr) (h2 : c < nc) : Cti g yX8_cellOf cX8_cellOf 4 (some .int) (rmm 0 0) [.ref (ad g o), .int (nI r), .int (nI c)] σ (fun x σ' => x = nI (fc (r * nc + c)) ∧ σ' = σ) := by
  refine ct_of (own := RX8) (lv := [some (.ref (ad g o)), some (.int (nI r)), some (.int (nI c)), none]) rfl (by decide) (Nat.le_of_ble_eq_true rfl) (by intro u hu; simp only [List.mem_cons, List.not_mem_nil, or_false] at hu; rcases hu with rfl | rfl | rfl <;> rfl) (lv_ok [.ref (ad g o), .int (nI r), .int (nI c)] 1) ?_
  have hC0 := hC
  obtain ⟨hT0, hcc, hccl, hfc, hcv⟩ := hC
  obtain ⟨hk, hr, hc, r1, c1, r2, c2, cap6, cap7⟩ := id hT0
  have hl7 := ln_t7 hk
  have hl8 := (ln_t8 hk).1
  have e9 : ∀ j, j < 7 → ln (o + 8 + 1 + j) = ln (o + 7) := fun j hj => (ln_t9 hk hj).1
  have hrr : r < 2 ^ 31 := by omega
  have hcc9 : c < 2 ^ 31 := by omega
  have hfl := rc_lt h1 h2
  refine aw_iload_n dX8_cellOf_0 rfl ?_
  refine aw_if_lt dX8_cellOf_1 (fun h_1 => absurd h_1 (nI_pos hrr)) (fun h_1 => ?_)
  refine aw_iload_n dX8_cellOf_4 rfl ?_
  refine aw_aload_n dX8_cellOf_5 rfl ?_
  refine gf8_rows dX8_cellOf_6 kf8_110 hk ?_
  refine aw_eq hr ?_
  refine aw_icmp_geN dX8_cellOf_9 rfl rfl (by omega) (by omega) (fun h_9 => absurd h_9 (by omega)) (fun h_9 => ?_)
  refine aw_iload_n dX8_cellOf_12 rfl ?_
  refine aw_if_lt dX8_cellOf_13 (fun h_13 => absurd h_13 (nI_pos hcc9)) (fun h_13 => ?_)
  refine aw_iload_n dX8_cellOf_16 rfl ?_
  refine aw_aload_n dX8_cellOf_17 rfl ?_
  refine gf8_columns dX8_cellOf_18 kf8_113 hk ?_
  refine aw_eq hc ?_
  refine aw_icmp_geN dX8_cellOf_21 rfl rfl (by omega) (by omega) (fun h_21 => absurd h_21 (by omega)) (fun h_21 => ?_)
  refine aw_ic (nI 1) dX8_cellOf_24 (by decide) ?_
  refine aw_goto dX8_cellOf_25 ?_
  refine aw_istore_n dX8_cellOf_29 (Nat.le_of_ble_eq_true rfl) ?_
  refine aw_iload_n dX8_cellOf_30 rfl ?_
  refine aw_if_eq dX8_cellOf_31 (fun h => absurd h (by decide)) (fun _ => ?_)
  refine aw_aload_n dX8_cellOf_34 rfl ?_
  refine gf8_fieldCells dX8_cellOf_35 kf8_30 hk ?_
  refine aw_iload_n dX8_cellOf_38 rfl ?_
  refine aw_aload_n dX8_cellOf_39 rfl ?_
  refine gf8_columns dX8_cellOf_40 kf8_113 hk ?_
  refine aw_eq hc ?_
  refine aw_imul dX8_cellOf_43 ?_
  refine aw_eq (pk_mul r nc) ?_
  refine aw_iload_n dX8_cellOf_44 rfl ?_
  refine aw_iadd dX8_cellOf_45 ?_
  refine aw_eq (nI_add _ _) ?_
  refine aw_ld (r * nc + c) dX8_cellOf_46 (kf_8_fieldCells hk) (rfl) (by omega) ?_
  refine aw_goto dX8_cellOf_47 ?_
  exact aw_ireti dX8_cellOf_52 (⟨(hfc _ hfl).1, rfl⟩)

set_option maxHeartbeats 4000000 in
set_option maxRecDepth 100000 in
theorem ct_cellNo {g : GG} {σ : SG} {o nr nc : Nat} (hT : TaD σ o nr nc) (row col : Int32) (hout : row < 0 ∨ nI nr ≤ row ∨ col < 0 ∨ nI nc ≤ col) : Cti g yX8_cellOf cX8_cellOf 4 (some .int) (rmm 0 0) [.ref (ad g o), .int row, .int col] σ (fun x σ' => x = -6 ∧ σ' = σ) := by
  refine ct_of (own := RX8) (lv := [some (.ref (ad g o)), some (.int row), some (.int col), none]) rfl (by decide) (Nat.le_of_ble_eq_true rfl) (by intro u hu; simp only [List.mem_cons, List.not_mem_nil, or_false] at hu; rcases hu with rfl | rfl | rfl <;> rfl) (lv_ok [.ref (ad g o), .int row, .int col] 1) ?_
  obtain ⟨hk, hr, hc, r1, c1, r2, c2, cap6, cap7⟩ := hT
  refine aw_iload_n dX8_cellOf_0 rfl ?_
  refine aw_if_lt dX8_cellOf_1 (fun h_1 => ?_) (fun h_1 => ?_)
  · skip
    refine aw_ic (nI 0) dX8_cellOf_28 (by decide) ?_
    refine aw_istore_n dX8_cellOf_29 (Nat.le_of_ble_eq_true rfl) ?_
    refine aw_iload_n dX8_cellOf_30 rfl ?_
    refine aw_if_eq dX8_cellOf_31 (fun _ => ?_) (fun h => absurd (by decide) h)
    refine aw_bi (-6) dX8_cellOf_50 (by decide) ?_
    exact aw_ireti dX8_cellOf_52 (⟨rfl, rfl⟩)
  · skip
    refine aw_iload_n dX8_cellOf_4 rfl ?_
    refine aw_aload_n dX8_cellOf_5 rfl ?_
    refine gf8_rows dX8_cellOf_6 kf8_110 hk ?_
    refine aw_eq hr ?_
    refine aw_icmp_ge dX8_cellOf_9 (fun h_9 => ?_) (fun h_9 => ?_)
    · skip
      refine aw_ic (nI 0) dX8_cellOf_28 (by decide) ?_
      refine aw_istore_n dX8_cellOf_29 (Nat.le_of_ble_eq_true rfl) ?_
      refine aw_iload_n dX8_cellOf_30 rfl ?_
      refine aw_if_eq dX8_cellOf_31 (fun _ => ?_) (fun h => absurd (by decide) h)
      refine aw_bi (-6) dX8_cellOf_50 (by decide) ?_
      exact aw_ireti dX8_cellOf_52 (⟨rfl, rfl⟩)
    · skip
      refine aw_iload_n dX8_cellOf_12 rfl ?_
      refine aw_if_lt dX8_cellOf_13 (fun h_13 => ?_) (fun h_13 => ?_)
      · skip
        refine aw_ic (nI 0) dX8_cellOf_28 (by decide) ?_
        refine aw_istore_n dX8_cellOf_29 (Nat.le_of_ble_eq_true rfl) ?_
        refine aw_iload_n dX8_cellOf_30 rfl ?_
        refine aw_if_eq dX8_cellOf_31 (fun _ => ?_) (fun h => absurd (by decide) h)
        refine aw_bi (-6) dX8_cellOf_50 (by decide) ?_
        exact aw_ireti dX8_cellOf_52 (⟨rfl, rfl⟩)
      · skip
        refine aw_iload_n dX8_cellOf_16 rfl ?_
        refine aw_aload_n dX8_cellOf_17 rfl ?_
        refine gf8_columns dX8_cellOf_18 kf8_113 hk ?_
        refine aw_eq hc ?_
        refine aw_icmp_ge dX8_cellOf_21 (fun h_21 => ?_) (fun h_21 => absurd h_21 (fun q => by
          rcases hout with z | z | z | z
          · exact h_1 z
          · exact h_9 z
          · exact h_13 z
          · exact q z))
        refine aw_ic (nI 0) dX8_cellOf_28 (by decide) ?_
        refine aw_istore_n dX8_cellOf_29 (Nat.le_of_ble_eq_true rfl) ?_
        refine aw_iload_n dX8_cellOf_30 rfl ?_
        refine aw_if_eq dX8_cellOf_31 (fun _ => ?_) (fun h => absurd (by decide) h)
        refine aw_bi (-6) dX8_cellOf_50 (by decide) ?_
        exact aw_ireti dX8_cellOf_52 (⟨rfl, rfl⟩)

set_option maxHeartbeats 4000000 in
set_option maxRecDepth 100000 in
theorem ct_openUnless {g : GG} {σ : SG} {o nr nc cc : Nat} {fc : Nat → Nat} {cv : Nat → Nat → Nat} (hC : TaC σ o nr nc cc fc cv) {q : Nat} {d : Bool} (hq : q < cc) : Ctv g yX8_openUnless cX8_openUnless 3 (rmm 1 21) [.ref (ad g o), .int (if d = true then 1 else 0), .int (nI q)] σ (fun σ' => σ' = (σ.1, uA σ.2.1 (o + 8 + 1 + 5) (if d = true then σ.2.1 (o + 8 + 1 + 5) else upd (σ.2.1 (o + 8 + 1 + 5)) q (nI 2)), σ.2.2)) := by
  refine ct_of (own := RX8) (lv := [some (.ref (ad g o)), some (.int (if d = true then 1 else 0)), some (.int (nI q))]) rfl (by decide) (Nat.le_of_ble_eq_true rfl) (by intro u hu; simp only [List.mem_cons, List.not_mem_nil, or_false] at hu; rcases hu with rfl | rfl | rfl <;> rfl) (lv_ok [.ref (ad g o), .int (if d = true then 1 else 0), .int (nI q)] 0) ?_
  have hC0 := hC
  obtain ⟨hT0, hcc, hccl, hfc, hcv⟩ := hC
  obtain ⟨hk, hr, hc, r1, c1, r2, c2, cap6, cap7⟩ := id hT0
  have hl7 := ln_t7 hk
  have hl8 := (ln_t8 hk).1
  have e9 : ∀ j, j < 7 → ln (o + 8 + 1 + j) = ln (o + 7) := fun j hj => (ln_t9 hk hj).1
  have e95 := e9 5 (by decide)
  refine aw_iload_n dX8_openUnless_0 rfl ?_
  refine aw_if_neB dX8_openUnless_1 rfl (fun h_1 => ?_) (fun h_1 => ?_)
  · skip
    exact aw_ret dX8_openUnless_21 (by rw [if_pos h_1, uA_same])
  · skip
    refine aw_aload_n dX8_openUnless_4 rfl ?_
    refine aw_iload_n dX8_openUnless_5 rfl ?_
    refine cqi1 dX8_openUnless_6 km8_170 ok_X8_hasCell rfl rfl (by decide) hk (Nat.le_of_ble_eq_true rfl) ⟨Nat.le_of_ble_eq_true rfl, Nat.le_of_ble_eq_true rfl⟩ rfl rfl (ct_hasCell hk (nI q)) ?_
    refine aw_if_eqB dX8_openUnless_9 rfl (fun h_9 => absurd h_9 (not_not_intro ⟨nI_pos (by omega), by rw [hcc]; exact nI_ge hq (by omega)⟩)) (fun h_9 => ?_)
    refine aw_aload_n dX8_openUnless_12 rfl ?_
    refine gf8_cells dX8_openUnless_13 kf8_36 hk ?_
    refine aw_ic (nI 5) dX8_openUnless_16 (by decide) ?_
    refine aw_ald16 (5) dX8_openUnless_17 (kf_8_cells hk) (rfl) (by omega) ?_
    refine aw_iload_n dX8_openUnless_18 rfl ?_
    refine aw_ic (nI 2) dX8_openUnless_19 (by decide) ?_
    refine aw_sto (q) dX8_openUnless_20 (ln_t9 hk (show 5 < 7 by decide)).2 (rfl) (by omega) ?_
    exact aw_ret dX8_openUnless_21 (by rw [if_neg h_1])

def kbC (cv : Nat → Nat → Nat) (q : Nat) : Nat := if cv q 4 < cv q 2 * cv q 3 then 1 else cv q 5
theorem TaC.keep {σ : SG} {o nr nc cc : Nat} {fc : Nat → Nat} {cv : Nat → Nat → Nat} (h : TaC σ o nr nc cc fc cv) {S : Nat → Int32} {k : Nat → Nat} (hS : ∀ q, q < cc → S q = nI (k q) ∧ k q ≤ 999) : TaC (σ.1, uA σ.2.1 (o + 8 + 1 + 5) S, σ.2.2) o nr nc cc fc (fun q j => if j = 5 then k q else cv q j) := by
  refine ⟨h.1, h.2.1, h.2.2.1, fun f hf => ?_, fun q j hq hj => ?_⟩
  · show uA _ _ _ (o + 7) f = _ ∧ _
    rw [uA_n (by omega)]
    exact h.2.2.2.1 f hf
  · show uA _ _ _ (o + 8 + 1 + j) q = _ ∧ _
    by_cases e : j = 5
    · subst e
      rw [uA_s]
      exact hS q hq
    · rw [uA_n (by omega)]
      dsimp only
      rw [if_neg e]
      exact h.2.2.2.2 q j hq hj
set_option maxHeartbeats 4000000 in
set_option maxRecDepth 100000 in
theorem ct_markBroken {g : GG} {σ : SG} {o nr nc cc : Nat} {fc : Nat → Nat} {cv : Nat → Nat → Nat} (hC : TaC σ o nr nc cc fc cv) : Ctv g yX8_markBroken cX8_markBroken 2 (rmm 0 0) [.ref (ad g o)] σ (fun σ' => ∃ S, σ' = (σ.1, uA σ.2.1 (o + 8 + 1 + 5) S, σ.2.2) ∧ TaC σ' o nr nc cc fc (fun q j => if j = 5 then kbC cv q else cv q j)) := by
  refine ct_of (own := RX8) (lv := [some (.ref (ad g o)), none]) rfl (by decide) (Nat.le_of_ble_eq_true rfl) (by intro u hu; simp only [List.mem_cons, List.not_mem_nil, or_false] at hu; rcases hu with rfl <;> rfl) (lv_ok [.ref (ad g o)] 1) ?_
  have hC0 := hC
  obtain ⟨hT0, hcc, hccl, hfc, hcv⟩ := hC
  obtain ⟨hk, hr, hc, r1, c1, r2, c2, cap6, cap7⟩ := id hT0
  have hl7 := ln_t7 hk
  have hl8 := (ln_t8 hk).1
  have e9 : ∀ j, j < 7 → ln (o + 8 + 1 + j) = ln (o + 7) := fun j hj => (ln_t9 hk hj).1
  have e95 := e9 5 (by decide)
  have e94 := e9 4 (by decide)
  have e92 := e9 2 (by decide)
  have e93 := e9 3 (by decide)
  refine aw_ic (nI 0) dX8_markBroken_0 (by decide) ?_
  refine aw_istore_n dX8_markBroken_1 (Nat.le_of_ble_eq_true rfl) ?_
  refine for_up (fun i σ' => ∃ S, σ' = (σ.1, uA σ.2.1 (o + 8 + 1 + 5) S, σ.2.2) ∧ (∀ q, q < i → S q = nI (kbC cv q)) ∧ ∀ q, i ≤ q → S q = σ.2.1 (o + 8 + 1 + 5) q) (fun i => [some (.ref (ad g o)), some (.int (nI i))]) cc ?_ ?_ 0 _ (Nat.zero_le _) ⟨_, by rw [uA_same], fun q h => absurd h (Nat.not_lt_zero q), fun _ _ => rfl⟩
  · rintro i σ2 hi ⟨S, rfl, hS1, hS2⟩ ih
    have b2 := (hcv i 2 hi (by decide)).2
    have b3 := (hcv i 3 hi (by decide)).2
    have b4 := (hcv i 4 hi (by decide)).2
    have b23 : cv i 2 * cv i 3 ≤ 999 * 999 := Nat.mul_le_mul b2 b3
    refine aw_iload_n dX8_markBroken_2 rfl ?_
    refine aw_aload_n dX8_markBroken_3 rfl ?_
    refine gf8_cellCount dX8_markBroken_4 kf8_149 hk ?_
    refine aw_eq hcc ?_
    refine aw_icmp_geN dX8_markBroken_7 rfl rfl (by omega) (by omega) (fun h_7 => absurd h_7 (by omega)) (fun h_7 => ?_)
    refine aw_aload_n dX8_markBroken_10 rfl ?_
    refine gf8_cells dX8_markBroken_11 kf8_36 hk ?_
    refine aw_ic (nI 4) dX8_markBroken_14 (by decide) ?_
    refine aw_ald16 (4) dX8_markBroken_15 (kf_8_cells hk) (rfl) (by omega) ?_
    refine aw_iload_n dX8_markBroken_16 rfl ?_
    refine aw_ld (i) dX8_markBroken_17 (ln_t9 hk (show 4 < 7 by decide)).2 (rfl) (by omega) ?_
    refine aw_eq (show _ = nI (cv i 4) by rw [uA_n (by omega)]; exact (hcv i 4 hi (by decide)).1) ?_
    refine aw_aload_n dX8_markBroken_18 rfl ?_
    refine gf8_cells dX8_markBroken_19 kf8_36 hk ?_
    refine aw_ic (nI 2) dX8_markBroken_22 (by decide) ?_
    refine aw_ald16 (2) dX8_markBroken_23 (kf_8_cells hk) (rfl) (by omega) ?_
    refine aw_iload_n dX8_markBroken_24 rfl ?_
    refine aw_ld (i) dX8_markBroken_25 (ln_t9 hk (show 2 < 7 by decide)).2 (rfl) (by omega) ?_
    refine aw_eq (show _ = nI (cv i 2) by rw [uA_n (by omega)]; exact (hcv i 2 hi (by decide)).1) ?_
    refine aw_aload_n dX8_markBroken_26 rfl ?_
    refine gf8_cells dX8_markBroken_27 kf8_36 hk ?_
    refine aw_ic (nI 3) dX8_markBroken_30 (by decide) ?_
    refine aw_ald16 (3) dX8_markBroken_31 (kf_8_cells hk) (rfl) (by omega) ?_
    refine aw_iload_n dX8_markBroken_32 rfl ?_
    refine aw_ld (i) dX8_markBroken_33 (ln_t9 hk (show 3 < 7 by decide)).2 (rfl) (by omega) ?_
    refine aw_eq (show _ = nI (cv i 3) by rw [uA_n (by omega)]; exact (hcv i 3 hi (by decide)).1) ?_
    refine aw_imul dX8_markBroken_34 ?_
    refine aw_eq (pk_mul _ _) ?_
    refine aw_icmp_geN dX8_markBroken_35 rfl rfl (by omega) (by omega) (fun h_35 => ?_) (fun h_35 => ?_)
    · skip
      refine aw_inc (nI (i + 1)) dX8_markBroken_47 rfl (Nat.le_of_ble_eq_true rfl) (nI_1 i) ?_
      refine aw_goto dX8_markBroken_50 ?_
      exact ih _ ⟨S, rfl, fun q hq => by
        rcases Nat.lt_or_ge q i with z | z
        · exact hS1 q z
        · rw [show q = i by omega, hS2 i (Nat.le_refl i), (hcv i 5 hi (by decide)).1]
          unfold kbC
          rw [if_neg (by omega)], fun q hq => hS2 q (by omega)⟩
    · skip
      refine aw_aload_n dX8_markBroken_38 rfl ?_
      refine gf8_cells dX8_markBroken_39 kf8_36 hk ?_
      refine aw_ic (nI 5) dX8_markBroken_42 (by decide) ?_
      refine aw_ald16 (5) dX8_markBroken_43 (kf_8_cells hk) (rfl) (by omega) ?_
      refine aw_iload_n dX8_markBroken_44 rfl ?_
      refine aw_ic (nI 1) dX8_markBroken_45 (by decide) ?_
      refine aw_sto (i) dX8_markBroken_46 (ln_t9 hk (show 5 < 7 by decide)).2 (rfl) (by omega) ?_
      refine aw_inc (nI (i + 1)) dX8_markBroken_47 rfl (Nat.le_of_ble_eq_true rfl) (nI_1 i) ?_
      refine aw_goto dX8_markBroken_50 ?_
      exact ih _ ⟨_, by rw [uA_s, uA_uA], fun q hq => by
        rcases Nat.lt_or_ge q i with z | z
        · rw [pk_un (by omega)]
          exact hS1 q z
        · rw [show q = i by omega, pk_us]
          unfold kbC
          rw [if_pos h_35], fun q hq => by
        rw [pk_un (by omega)]
        exact hS2 q (by omega)⟩
  · rintro σ2 ⟨S, rfl, hS1, hS2⟩
    refine aw_iload_n dX8_markBroken_2 rfl ?_
    refine aw_aload_n dX8_markBroken_3 rfl ?_
    refine gf8_cellCount dX8_markBroken_4 kf8_149 hk ?_
    refine aw_eq hcc ?_
    refine aw_icmp_geN dX8_markBroken_7 rfl rfl (by omega) (by omega) (fun h_7 => ?_) (fun h_7 => absurd h_7 (by omega))
    exact aw_ret dX8_markBroken_53 (⟨S, rfl, hC0.keep (fun q hq => ⟨hS1 q hq, by have := (hcv q 5 hq (by decide)).2; unfold kbC; split <;> omega⟩)⟩)

/-- each cell of a row is one column wide -/
def oneB (nc : Nat) (fc : Nat → Nat) (cv : Nat → Nat → Nat) (r : Nat) : Bool := allB (fun j => decide (cv (fc (r * nc + j)) 3 ≤ 1)) nc
def hdsN (nr nc : Nat) (fc : Nat → Nat) (cv : Nat → Nat → Nat) : Nat := if fst (oneB nc fc cv) (nr - 1) < nr - 1 then fst (oneB nc fc cv) (nr - 1) + 1 else nr - 1
set_option maxHeartbeats 4000000 in
set_option maxRecDepth 100000 in
theorem ct_isOne {g : GG} {σ : SG} {o nr nc cc : Nat} {fc : Nat → Nat} {cv : Nat → Nat → Nat} (hC : TaC σ o nr nc cc fc cv) {r : Nat} (hr9 : r < nr) : Cti g yX8_isOneColumnWide cX8_isOneColumnWide 3 (some .boolean) (rmm 0 0) [.ref (ad g o), .int (nI r)] σ (fun x σ' => x = (if oneB nc fc cv r = true then 1 else 0) ∧ σ' = σ) := by
  refine ct_of (own := RX8) (lv := [some (.ref (ad g o)), some (.int (nI r)), none]) rfl (by decide) (Nat.le_of_ble_eq_true rfl) (by intro u hu; simp only [List.mem_cons, List.not_mem_nil, or_false] at hu; rcases hu with rfl | rfl <;> rfl) (lv_ok [.ref (ad g o), .int (nI r)] 1) ?_
  have hC0 := hC
  obtain ⟨hT0, hcc, hccl, hfc, hcv⟩ := hC
  obtain ⟨hk, hr, hc, r1, c1, r2, c2, cap6, cap7⟩ := id hT0
  have hl7 := ln_t7 hk
  have hl8 := (ln_t8 hk).1
  have e9 : ∀ j, j < 7 → ln (o + 8 + 1 + j) = ln (o + 7) := fun j hj => (ln_t9 hk hj).1
  have e93 := e9 3 (by decide)
  refine aw_ic (nI 0) dX8_isOneColumnWide_0 (by decide) ?_
  refine aw_istore_n dX8_isOneColumnWide_1 (Nat.le_of_ble_eq_true rfl) ?_
  refine for_up (fun i σ' => (∀ j, j < i → decide (cv (fc (r * nc + j)) 3 ≤ 1) = true) ∧ σ' = σ) (fun i => [some (.ref (ad g o)), some (.int (nI r)), some (.int (nI i))]) nc ?_ ?_ 0 σ (Nat.zero_le _) ⟨fun j h => absurd h (Nat.not_lt_zero j), rfl⟩
  · rintro i σ2 hi ⟨hi2, rfl⟩ ih
    have hfl := rc_lt hr9 hi
    obtain ⟨f1, f2⟩ := hfc _ hfl
    obtain ⟨v1, v2⟩ := hcv (fc (r * nc + i)) 3 f2 (by decide)
    refine aw_iload_n dX8_isOneColumnWide_2 rfl ?_
    refine aw_aload_n dX8_isOneColumnWide_3 rfl ?_
    refine gf8_columns dX8_isOneColumnWide_4 kf8_113 hk ?_
    refine aw_eq hc ?_
    refine aw_icmp_geN dX8_isOneColumnWide_7 rfl rfl (by omega) (by omega) (fun h_7 => absurd h_7 (by omega)) (fun h_7 => ?_)
    refine aw_aload_n dX8_isOneColumnWide_10 rfl ?_
    refine gf8_cells dX8_isOneColumnWide_11 kf8_36 hk ?_
    refine aw_ic (nI 3) dX8_isOneColumnWide_14 (by decide) ?_
    refine aw_ald16 (3) dX8_isOneColumnWide_15 (kf_8_cells hk) (rfl) (by omega) ?_
    refine aw_aload_n dX8_isOneColumnWide_16 rfl ?_
    refine gf8_fieldCells dX8_isOneColumnWide_17 kf8_30 hk ?_
    refine aw_iload_n dX8_isOneColumnWide_20 rfl ?_
    refine aw_aload_n dX8_isOneColumnWide_21 rfl ?_
    refine gf8_columns dX8_isOneColumnWide_22 kf8_113 hk ?_
    refine aw_eq hc ?_
    refine aw_imul dX8_isOneColumnWide_25 ?_
    refine aw_eq (pk_mul _ _) ?_
    refine aw_iload_n dX8_isOneColumnWide_26 rfl ?_
    refine aw_iadd dX8_isOneColumnWide_27 ?_
    refine aw_eq (nI_add _ _) ?_
    refine aw_ld (r * nc + i) dX8_isOneColumnWide_28 (kf_8_fieldCells hk) (rfl) (by omega) ?_
    refine aw_eq f1 ?_
    refine aw_ld (fc (r * nc + i)) dX8_isOneColumnWide_29 (ln_t9 hk (show 3 < 7 by decide)).2 (rfl) (by omega) ?_
    refine aw_eq v1 ?_
    refine aw_ic (nI 1) dX8_isOneColumnWide_30 (by decide) ?_
    refine aw_icmp_leN dX8_isOneColumnWide_31 rfl rfl (by omega) (by omega) (fun h_31 => ?_) (fun h_31 => ?_)
    · skip
      refine aw_inc (nI (i + 1)) dX8_isOneColumnWide_36 rfl (Nat.le_of_ble_eq_true rfl) (nI_1 i) ?_
      refine aw_goto dX8_isOneColumnWide_39 ?_
      exact ih _ ⟨fun j hj => by
        rcases Nat.lt_or_ge j i with z | z
        · exact hi2 j z
        · rw [show j = i by omega]
          simp [h_31], rfl⟩
    · skip
      refine aw_ic (nI 0) dX8_isOneColumnWide_34 (by decide) ?_
      exact aw_iretz dX8_isOneColumnWide_35 (by decide) (⟨(if_neg (fun z => by have := allB_iff.mp z i hi; simp at this; omega)).symm, rfl⟩)
  · rintro σ2 ⟨hi2, rfl⟩
    refine aw_iload_n dX8_isOneColumnWide_2 rfl ?_
    refine aw_aload_n dX8_isOneColumnWide_3 rfl ?_
    refine gf8_columns dX8_isOneColumnWide_4 kf8_113 hk ?_
    refine aw_eq hc ?_
    refine aw_icmp_geN dX8_isOneColumnWide_7 rfl rfl (by omega) (by omega) (fun h_7 => ?_) (fun h_7 => absurd h_7 (by omega))
    refine aw_ic (nI 1) dX8_isOneColumnWide_42 (by decide) ?_
    exact aw_iretz dX8_isOneColumnWide_43 (by decide) (⟨(if_pos (allB_iff.mpr hi2)).symm, rfl⟩)

set_option maxHeartbeats 4000000 in
set_option maxRecDepth 100000 in
theorem ct_countHeads {g : GG} {σ : SG} {o nr nc cc : Nat} {fc : Nat → Nat} {cv : Nat → Nat → Nat} (hC : TaC σ o nr nc cc fc cv) : Cti g yX8_countHeads cX8_countHeads 2 (some .int) (rmm 1 22) [.ref (ad g o)] σ (fun x σ' => x = nI (hdsN nr nc fc cv) ∧ σ' = σ) := by
  refine ct_of (own := RX8) (lv := [some (.ref (ad g o)), none]) rfl (by decide) (Nat.le_of_ble_eq_true rfl) (by intro u hu; simp only [List.mem_cons, List.not_mem_nil, or_false] at hu; rcases hu with rfl <;> rfl) (lv_ok [.ref (ad g o)] 1) ?_
  have hC0 := hC
  obtain ⟨hT0, hcc, hccl, hfc, hcv⟩ := hC
  obtain ⟨hk, hr, hc, r1, c1, r2, c2, cap6, cap7⟩ := id hT0
  have hl7 := ln_t7 hk
  have hl8 := (ln_t8 hk).1
  have e9 : ∀ j, j < 7 → ln (o + 8 + 1 + j) = ln (o + 7) := fun j hj => (ln_t9 hk hj).1
  
  refine aw_ic (nI 0) dX8_countHeads_0 (by decide) ?_
  refine aw_istore_n dX8_countHeads_1 (Nat.le_of_ble_eq_true rfl) ?_
  refine for_up (fun i σ' => (∀ j, j < i → oneB nc fc cv j = false) ∧ σ' = σ) (fun i => [some (.ref (ad g o)), some (.int (nI i))]) (nr - 1) ?_ ?_ 0 σ (Nat.zero_le _) ⟨fun j h => absurd h (Nat.not_lt_zero j), rfl⟩
  · rintro i σ2 hi ⟨hi2, rfl⟩ ih
    refine aw_iload_n dX8_countHeads_2 rfl ?_
    refine aw_ic (nI 1) dX8_countHeads_3 (by decide) ?_
    refine aw_iadd dX8_countHeads_4 ?_
    refine aw_eq (nI_1 i) ?_
    refine aw_aload_n dX8_countHeads_5 rfl ?_
    refine gf8_rows dX8_countHeads_6 kf8_110 hk ?_
    refine aw_eq hr ?_
    refine aw_icmp_geN dX8_countHeads_9 rfl rfl (by omega) (by omega) (fun h_9 => absurd h_9 (by omega)) (fun h_9 => ?_)
    refine aw_aload_n dX8_countHeads_12 rfl ?_
    refine aw_iload_n dX8_countHeads_13 rfl ?_
    refine cqi1 dX8_countHeads_14 km8_174 ok_X8_isOneColumnWide rfl rfl (by decide) hk (Nat.le_of_ble_eq_true rfl) ⟨Nat.le_of_ble_eq_true rfl, Nat.le_of_ble_eq_true rfl⟩ rfl rfl (ct_isOne hC0 (r := i) (by omega)) ?_
    refine aw_if_eqB dX8_countHeads_17 rfl (fun h_17 => ?_) (fun h_17 => ?_)
    · skip
      refine aw_inc (nI (i + 1)) dX8_countHeads_24 rfl (Nat.le_of_ble_eq_true rfl) (nI_1 i) ?_
      refine aw_goto dX8_countHeads_27 ?_
      exact ih _ ⟨fun j hj => by
        rcases Nat.lt_or_ge j i with z | z
        · exact hi2 j z
        · rw [show j = i by omega]
          simpa using h_17, rfl⟩
    · skip
      refine aw_iload_n dX8_countHeads_20 rfl ?_
      refine aw_ic (nI 1) dX8_countHeads_21 (by decide) ?_
      refine aw_iadd dX8_countHeads_22 ?_
      refine aw_eq (nI_1 i) ?_
      exact aw_ireti dX8_countHeads_23 (⟨by unfold hdsN; rw [fst_eq hi2 h_17 hi, if_pos hi], rfl⟩)
  · rintro σ2 ⟨hi2, rfl⟩
    refine aw_iload_n dX8_countHeads_2 rfl ?_
    refine aw_ic (nI 1) dX8_countHeads_3 (by decide) ?_
    refine aw_iadd dX8_countHeads_4 ?_
    refine aw_eq (nI_1 _) ?_
    refine aw_aload_n dX8_countHeads_5 rfl ?_
    refine gf8_rows dX8_countHeads_6 kf8_110 hk ?_
    refine aw_eq hr ?_
    refine aw_icmp_geN dX8_countHeads_9 rfl rfl (by omega) (by omega) (fun h_9 => ?_) (fun h_9 => absurd h_9 (by omega))
    refine aw_aload_n dX8_countHeads_30 rfl ?_
    refine gf8_rows dX8_countHeads_31 kf8_110 hk ?_
    refine aw_eq hr ?_
    refine aw_ic (nI 1) dX8_countHeads_34 (by decide) ?_
    refine aw_isub dX8_countHeads_35 ?_
    refine aw_eq (show _ = nI (nr - 1) from pk_sub (by omega)) ?_
    exact aw_ireti dX8_countHeads_36 (⟨by unfold hdsN; rw [fst_none hi2, if_neg (Nat.lt_irrefl _)], rfl⟩)

/-- the cell of a row was in the column in no row above -/
def isF (nc : Nat) (fc : Nat → Nat) (c r : Nat) : Bool := allB (fun j => !decide (fc (j * nc + c) = fc (r * nc + c))) r
set_option maxHeartbeats 4000000 in
set_option maxRecDepth 100000 in
theorem ct_isFirst {g : GG} {σ : SG} {o nr nc cc : Nat} {fc : Nat → Nat} {cv : Nat → Nat → Nat} (hC : TaC σ o nr nc cc fc cv) {r c : Nat} (h1 : r < nr) (h2 : c < nc) : Cti g yX8_isFirstInColumn cX8_isFirstInColumn 4 (some .boolean) (rmm 1 23) [.ref (ad g o), .int (nI r), .int (nI c)] σ (fun x σ' => x = (if isF nc fc c r = true then 1 else 0) ∧ σ' = σ) := by
  refine ct_of (own := RX8) (lv := [some (.ref (ad g o)), some (.int (nI r)), some (.int (nI c)), none]) rfl (by decide) (Nat.le_of_ble_eq_true rfl) (by intro u hu; simp only [List.mem_cons, List.not_mem_nil, or_false] at hu; rcases hu with rfl | rfl | rfl <;> rfl) (lv_ok [.ref (ad g o), .int (nI r), .int (nI c)] 1) ?_
  have hC0 := hC
  obtain ⟨hT0, hcc, hccl, hfc, hcv⟩ := hC
  obtain ⟨hk, hr, hc, r1, c1, r2, c2, cap6, cap7⟩ := id hT0
  have hl7 := ln_t7 hk
  have hl8 := (ln_t8 hk).1
  have e9 : ∀ j, j < 7 → ln (o + 8 + 1 + j) = ln (o + 7) := fun j hj => (ln_t9 hk hj).1
  
  refine aw_ic (nI 0) dX8_isFirstInColumn_0 (by decide) ?_
  refine aw_istore_n dX8_isFirstInColumn_1 (Nat.le_of_ble_eq_true rfl) ?_
  refine for_up (fun i σ' => (∀ j, j < i → (!decide (fc (j * nc + c) = fc (r * nc + c))) = true) ∧ σ' = σ) (fun i => [some (.ref (ad g o)), some (.int (nI r)), some (.int (nI c)), some (.int (nI i))]) r ?_ ?_ 0 σ (Nat.zero_le _) ⟨fun j h => absurd h (Nat.not_lt_zero j), rfl⟩
  · rintro i σ2 hi ⟨hi2, rfl⟩ ih
    have f1 := (hfc _ (rc_lt (show i < nr by omega) h2)).2
    have f2 := (hfc _ (rc_lt h1 h2)).2
    refine aw_iload_n dX8_isFirstInColumn_2 rfl ?_
    refine aw_iload_n dX8_isFirstInColumn_3 rfl ?_
    refine aw_icmp_geN dX8_isFirstInColumn_4 rfl rfl (by omega) (by omega) (fun h_4 => absurd h_4 (by omega)) (fun h_4 => ?_)
    refine aw_aload_n dX8_isFirstInColumn_7 rfl ?_
    refine aw_iload_n dX8_isFirstInColumn_8 rfl ?_
    refine aw_iload_n dX8_isFirstInColumn_9 rfl ?_
    refine cqi2 dX8_isFirstInColumn_10 km8_163 ok_X8_cellOf rfl rfl (by decide) hk (Nat.le_of_ble_eq_true rfl) ⟨Nat.le_of_ble_eq_true rfl, Nat.le_of_ble_eq_true rfl⟩ rfl rfl (ct_cellOf hC0 (r := i) (c := c) (by omega) h2) ?_
    refine aw_aload_n dX8_isFirstInColumn_13 rfl ?_
    refine aw_iload_n dX8_isFirstInColumn_14 rfl ?_
    refine aw_iload_n dX8_isFirstInColumn_15 rfl ?_
    refine cqi2 dX8_isFirstInColumn_16 km8_163 ok_X8_cellOf rfl rfl (by decide) hk (Nat.le_of_ble_eq_true rfl) ⟨Nat.le_of_ble_eq_true rfl, Nat.le_of_ble_eq_true rfl⟩ rfl rfl (ct_cellOf hC0 (r := r) (c := c) h1 h2) ?_
    refine aw_icmp_neN dX8_isFirstInColumn_19 rfl rfl (by omega) (by omega) (fun h_19 => ?_) (fun h_19 => ?_)
    · skip
      refine aw_inc (nI (i + 1)) dX8_isFirstInColumn_24 rfl (Nat.le_of_ble_eq_true rfl) (nI_1 i) ?_
      refine aw_goto dX8_isFirstInColumn_27 ?_
      exact ih _ ⟨fun j hj => by
        rcases Nat.lt_or_ge j i with z | z
        · exact hi2 j z
        · rw [show j = i by omega]
          simp [h_19], rfl⟩
    · skip
      refine aw_ic (nI 0) dX8_isFirstInColumn_22 (by decide) ?_
      exact aw_iretz dX8_isFirstInColumn_23 (by decide) (⟨(if_neg (fun z => by have := allB_iff.mp z i hi; simp at this; exact this h_19)).symm, rfl⟩)
  · rintro σ2 ⟨hi2, rfl⟩
    refine aw_iload_n dX8_isFirstInColumn_2 rfl ?_
    refine aw_iload_n dX8_isFirstInColumn_3 rfl ?_
    refine aw_icmp_geN dX8_isFirstInColumn_4 rfl rfl (by omega) (by omega) (fun h_4 => ?_) (fun h_4 => absurd h_4 (by omega))
    refine aw_ic (nI 1) dX8_isFirstInColumn_30 (by decide) ?_
    exact aw_iretz dX8_isFirstInColumn_31 (by decide) (⟨(if_pos (allB_iff.mpr hi2)).symm, rfl⟩)

set_option maxHeartbeats 4000000 in
set_option maxRecDepth 100000 in
theorem ct_headingOf {g : GG} {σ : SG} {o nr nc cc : Nat} {fc : Nat → Nat} {cv : Nat → Nat → Nat} (hC : TaC σ o nr nc cc fc cv) {c hd : Nat} (hhd : σ.1 267 o = nI hd) (hhn : hd ≤ nr) (h2 : c < nc) (k : Int32) : Cti g yX8_headingOf cX8_headingOf 5 (some .int) (rmm 2 46) [.ref (ad g o), .int (nI c), .int k] σ (fun x σ' => x = (if fst (fun r => isF nc fc c r && decide (nI (ctB (isF nc fc c) r) = k)) hd < hd then nI (fc (fst (fun r => isF nc fc c r && decide (nI (ctB (isF nc fc c) r) = k)) hd * nc + c)) else -6) ∧ σ' = σ) := by
  refine ct_of (own := RX8) (lv := [some (.ref (ad g o)), some (.int (nI c)), some (.int k), none, none]) rfl (by decide) (Nat.le_of_ble_eq_true rfl) (by intro u hu; simp only [List.mem_cons, List.not_mem_nil, or_false] at hu; rcases hu with rfl | rfl | rfl <;> rfl) (lv_ok [.ref (ad g o), .int (nI c), .int k] 2) ?_
  have hC0 := hC
  obtain ⟨hT0, hcc, hccl, hfc, hcv⟩ := hC
  obtain ⟨hk, hr, hc, r1, c1, r2, c2, cap6, cap7⟩ := id hT0
  have hl7 := ln_t7 hk
  have hl8 := (ln_t8 hk).1
  have e9 : ∀ j, j < 7 → ln (o + 8 + 1 + j) = ln (o + 7) := fun j hj => (ln_t9 hk hj).1
  
  refine aw_ic (nI 0) dX8_headingOf_0 (by decide) ?_
  refine aw_istore_n dX8_headingOf_1 (Nat.le_of_ble_eq_true rfl) ?_
  refine aw_ic (nI 0) dX8_headingOf_2 (by decide) ?_
  refine aw_istore dX8_headingOf_3 (Nat.le_of_ble_eq_true rfl) ?_
  refine for_up (fun i σ' => (∀ j, j < i → (isF nc fc c j && decide (nI (ctB (isF nc fc c) j) = k)) = false) ∧ σ' = σ) (fun i => [some (.ref (ad g o)), some (.int (nI c)), some (.int k), some (.int (nI (ctB (isF nc fc c) i))), some (.int (nI i))]) hd ?_ ?_ 0 σ (Nat.zero_le _) ⟨fun j h => absurd h (Nat.not_lt_zero j), rfl⟩
  · rintro i σ2 hi ⟨hi2, rfl⟩ ih
    have hsu : ctB (isF nc fc c) (i + 1) = ctB (isF nc fc c) i + (if isF nc fc c i = true then 1 else 0) := rfl
    refine aw_iload dX8_headingOf_5 rfl ?_
    refine aw_aload_n dX8_headingOf_7 rfl ?_
    refine gf8_heads dX8_headingOf_8 kf8_67 hk ?_
    refine aw_eq hhd ?_
    refine aw_icmp_geN dX8_headingOf_11 rfl rfl (by omega) (by omega) (fun h_11 => absurd h_11 (by omega)) (fun h_11 => ?_)
    refine aw_aload_n dX8_headingOf_14 rfl ?_
    refine aw_iload dX8_headingOf_15 rfl ?_
    refine aw_iload_n dX8_headingOf_17 rfl ?_
    refine cqi2 dX8_headingOf_18 km8_177 ok_X8_isFirstInColumn rfl rfl (by decide) hk (Nat.le_of_ble_eq_true rfl) ⟨Nat.le_of_ble_eq_true rfl, Nat.le_of_ble_eq_true rfl⟩ rfl rfl (ct_isFirst hC0 (r := i) (c := c) (by omega) h2) ?_
    refine aw_if_eqB dX8_headingOf_21 rfl (fun h_21 => ?_) (fun h_21 => ?_)
    · skip
      refine aw_inc (nI (i + 1)) dX8_headingOf_40 rfl (Nat.le_of_ble_eq_true rfl) (nI_1 i) ?_
      refine aw_goto dX8_headingOf_43 ?_
      refine aw_lv (lv' := [some (.ref (ad g o)), some (.int (nI c)), some (.int k), some (.int (nI (ctB (isF nc fc c) (i + 1)))), some (.int (nI (i + 1)))]) (by rw [hsu, if_neg h_21, Nat.add_zero]; rfl) (ih _ ⟨fun j hj => ?_, rfl⟩)
      rcases Nat.lt_or_ge j i with z | z
      · exact hi2 j z
      · rw [show j = i by omega]
        simp [h_21]
    · skip
      refine aw_iload_n dX8_headingOf_24 rfl ?_
      refine aw_iload_n dX8_headingOf_25 rfl ?_
      refine aw_icmp_ne dX8_headingOf_26 (fun h_26 => ?_) (fun h_26 => ?_)
      · skip
        refine aw_inc (nI (ctB (isF nc fc c) (i + 1))) dX8_headingOf_37 rfl (Nat.le_of_ble_eq_true rfl) (by rw [hsu, if_pos h_21]; exact nI_1 _) ?_
        refine aw_inc (nI (i + 1)) dX8_headingOf_40 rfl (Nat.le_of_ble_eq_true rfl) (nI_1 i) ?_
        refine aw_goto dX8_headingOf_43 ?_
        refine aw_lv (lv' := [some (.ref (ad g o)), some (.int (nI c)), some (.int k), some (.int (nI (ctB (isF nc fc c) (i + 1)))), some (.int (nI (i + 1)))]) (by rfl) (ih _ ⟨fun j hj => ?_, rfl⟩)
        rcases Nat.lt_or_ge j i with z | z
        · exact hi2 j z
        · rw [show j = i by omega]
          simp [h_26]
      · skip
        refine aw_aload_n dX8_headingOf_29 rfl ?_
        refine aw_iload dX8_headingOf_30 rfl ?_
        refine aw_iload_n dX8_headingOf_32 rfl ?_
        refine cqi2 dX8_headingOf_33 km8_163 ok_X8_cellOf rfl rfl (by decide) hk (Nat.le_of_ble_eq_true rfl) ⟨Nat.le_of_ble_eq_true rfl, Nat.le_of_ble_eq_true rfl⟩ rfl rfl (ct_cellOf hC0 (r := i) (c := c) (by omega) h2) ?_
        exact aw_ireti dX8_headingOf_36 (⟨by rw [fst_eq hi2 (by simp [h_21, h_26]) hi, if_pos hi], rfl⟩)
  · rintro σ2 ⟨hi2, rfl⟩
    refine aw_iload dX8_headingOf_5 rfl ?_
    refine aw_aload_n dX8_headingOf_7 rfl ?_
    refine gf8_heads dX8_headingOf_8 kf8_67 hk ?_
    refine aw_eq hhd ?_
    refine aw_icmp_geN dX8_headingOf_11 rfl rfl (by omega) (by omega) (fun h_11 => ?_) (fun h_11 => absurd h_11 (by omega))
    refine aw_bi (-6) dX8_headingOf_46 (by decide) ?_
    exact aw_ireti dX8_headingOf_48 (⟨by rw [fst_none hi2, if_neg (Nat.lt_irrefl _)], rfl⟩)

set_option maxHeartbeats 4000000 in
set_option maxRecDepth 100000 in
theorem ct_countWhole {g : GG} {σ : SG} {o nr nc cc : Nat} {fc : Nat → Nat} {cv : Nat → Nat → Nat} (hC : TaC σ o nr nc cc fc cv) : Cti g yX8_countWhole cX8_countWhole 3 (some .int) (rmm 0 0) [.ref (ad g o)] σ (fun x σ' => x = nI (ctB (fun q => decide (cv q 5 = 0)) cc) ∧ σ' = σ) := by
  refine ct_of (own := RX8) (lv := [some (.ref (ad g o)), none, none]) rfl (by decide) (Nat.le_of_ble_eq_true rfl) (by intro u hu; simp only [List.mem_cons, List.not_mem_nil, or_false] at hu; rcases hu with rfl <;> rfl) (lv_ok [.ref (ad g o)] 2) ?_
  have hC0 := hC
  obtain ⟨hT0, hcc, hccl, hfc, hcv⟩ := hC
  obtain ⟨hk, hr, hc, r1, c1, r2, c2, cap6, cap7⟩ := id hT0
  have hl7 := ln_t7 hk
  have hl8 := (ln_t8 hk).1
  have e9 : ∀ j, j < 7 → ln (o + 8 + 1 + j) = ln (o + 7) := fun j hj => (ln_t9 hk hj).1
  have e95 := e9 5 (by decide)
  refine aw_ic (nI 0) dX8_countWhole_0 (by decide) ?_
  refine aw_istore_n dX8_countWhole_1 (Nat.le_of_ble_eq_true rfl) ?_
  refine aw_ic (nI 0) dX8_countWhole_2 (by decide) ?_
  refine aw_istore_n dX8_countWhole_3 (Nat.le_of_ble_eq_true rfl) ?_
  refine for_up (fun i σ' => σ' = σ) (fun i => [some (.ref (ad g o)), some (.int (nI (ctB (fun q => decide (cv q 5 = 0)) i))), some (.int (nI i))]) cc ?_ ?_ 0 σ (Nat.zero_le _) rfl
  · rintro i σ2 hi rfl ih
    obtain ⟨v1, v2⟩ := hcv i 5 hi (by decide)
    have hsu : ctB (fun q => decide (cv q 5 = 0)) (i + 1) = ctB (fun q => decide (cv q 5 = 0)) i + (if decide (cv i 5 = 0) = true then 1 else 0) := rfl
    refine aw_iload_n dX8_countWhole_4 rfl ?_
    refine aw_aload_n dX8_countWhole_5 rfl ?_
    refine gf8_cellCount dX8_countWhole_6 kf8_149 hk ?_
    refine aw_eq hcc ?_
    refine aw_icmp_geN dX8_countWhole_9 rfl rfl (by omega) (by omega) (fun h_9 => absurd h_9 (by omega)) (fun h_9 => ?_)
    refine aw_aload_n dX8_countWhole_12 rfl ?_
    refine gf8_cells dX8_countWhole_13 kf8_36 hk ?_
    refine aw_ic (nI 5) dX8_countWhole_16 (by decide) ?_
    refine aw_ald16 (5) dX8_countWhole_17 (kf_8_cells hk) (rfl) (by omega) ?_
    refine aw_iload_n dX8_countWhole_18 rfl ?_
    refine aw_ld (i) dX8_countWhole_19 (ln_t9 hk (show 5 < 7 by decide)).2 (rfl) (by omega) ?_
    refine aw_eq v1 ?_
    refine aw_if_neN dX8_countWhole_20 rfl (by omega) (fun h_20 => ?_) (fun h_20 => ?_)
    · skip
      refine aw_inc (nI (i + 1)) dX8_countWhole_26 rfl (Nat.le_of_ble_eq_true rfl) (nI_1 i) ?_
      refine aw_goto dX8_countWhole_29 ?_
      refine aw_lv (lv' := [some (.ref (ad g o)), some (.int (nI (ctB (fun q => decide (cv q 5 = 0)) (i + 1)))), some (.int (nI (i + 1)))]) (by rw [hsu, if_neg (by simp [h_20]), Nat.add_zero]; rfl) (ih _ rfl)
    · skip
      refine aw_inc (nI (ctB (fun q => decide (cv q 5 = 0)) (i + 1))) dX8_countWhole_23 rfl (Nat.le_of_ble_eq_true rfl) (by rw [hsu, if_pos (by simp [h_20])]; exact nI_1 _) ?_
      refine aw_inc (nI (i + 1)) dX8_countWhole_26 rfl (Nat.le_of_ble_eq_true rfl) (nI_1 i) ?_
      refine aw_goto dX8_countWhole_29 ?_
      refine aw_lv (lv' := [some (.ref (ad g o)), some (.int (nI (ctB (fun q => decide (cv q 5 = 0)) (i + 1)))), some (.int (nI (i + 1)))]) (by rfl) (ih _ rfl)
  · rintro σ2 rfl
    refine aw_iload_n dX8_countWhole_4 rfl ?_
    refine aw_aload_n dX8_countWhole_5 rfl ?_
    refine gf8_cellCount dX8_countWhole_6 kf8_149 hk ?_
    refine aw_eq hcc ?_
    refine aw_icmp_geN dX8_countWhole_9 rfl rfl (by omega) (by omega) (fun h_9 => ?_) (fun h_9 => absurd h_9 (by omega))
    refine aw_iload_n dX8_countWhole_32 rfl ?_
    exact aw_ireti dX8_countWhole_33 (⟨rfl, rfl⟩)

