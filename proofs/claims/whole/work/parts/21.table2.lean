/-- lines out of the first k rules: how many of each way, and where -/
def lnS (inT : Nat → Bool) (R : Nat → Nat → Nat) : Nat → (Nat → Nat) × (Nat → Nat → Nat)
  | 0 => (fun _ => 0, fun _ _ => 0)
  | k + 1 => if inT k = true ∧ ¬ (0 < (lnS inT R k).1 (R k 0) ∧ (lnS inT R k).2 (R k 0) ((lnS inT R k).1 (R k 0) - 1) = R k 1) then (fun w => if w = R k 0 then (lnS inT R k).1 (R k 0) + 1 else (lnS inT R k).1 w, fun w j => if w = R k 0 ∧ j = (lnS inT R k).1 (R k 0) then R k 1 else (lnS inT R k).2 w j) else lnS inT R k
def cW (inT : Nat → Bool) (R : Nat → Nat → Nat) (w k : Nat) : Nat := ctB (fun k => inT k && decide (R k 0 = w)) k
theorem lnS_le (inT : Nat → Bool) (R : Nat → Nat → Nat) (w : Nat) : ∀ k, (lnS inT R k).1 w ≤ cW inT R w k
  | 0 => Nat.le_refl _
  | k + 1 => by
    have ih := lnS_le inT R w k
    have e : cW inT R w (k + 1) = cW inT R w k + (if (inT k && decide (R k 0 = w)) = true then 1 else 0) := rfl
    rw [e]
    unfold lnS
    split
    · rename_i h
      dsimp only
      by_cases q : w = R k 0
      · rw [if_pos q, if_pos (by simp [h.1, q]), ← q]
        omega
      · rw [if_neg q]
        omega
    · omega
theorem LinN.app {σ : SG} {p w x : Nat} {n : Nat → Nat} {pl : Nat → Nat → Nat} (h : LinN σ p n pl) (hw : w < 2) (hroom : n w < ln (p + 1 + 1 + w)) (hx : x ≤ 99) {I : Nat → Nat → Int32} {π : Nat → Nat} : LinN (I, uA (uA σ.2.1 (p + 1 + 1 + w) (upd (σ.2.1 (p + 1 + 1 + w)) (n w) (nI x))) (p + 4) (upd (σ.2.1 (p + 4)) w (nI (n w + 1))), π) p (fun w' => if w' = w then n w + 1 else n w') (fun w' j => if w' = w ∧ j = n w then x else pl w' j) := by
  refine ⟨h.1, fun w' hw' => ?_⟩
  obtain ⟨h1, h2, h3⟩ := h.2 w' hw'
  refine ⟨?_, ?_, fun k hk => ?_⟩
  · show uA _ (p + 4) _ (p + 4) w' = _
    rw [uA_s]
    dsimp only
    by_cases e : w' = w
    · rw [e, pk_us, if_pos rfl]
    · rw [pk_un e, if_neg e]
      exact h1
  · dsimp only
    by_cases e : w' = w
    · rw [if_pos e, e]
      omega
    · rw [if_neg e]
      exact h2
  · show uA _ (p + 4) _ (p + 1 + 1 + w') k = _ ∧ _
    rw [uA_n (show p + 1 + 1 + w' ≠ p + 4 by omega)]
    dsimp only at hk ⊢
    by_cases e : w' = w
    · subst e
      rw [if_pos rfl] at hk
      rw [uA_s]
      by_cases q : k = n w'
      · rw [q, pk_us, if_pos ⟨rfl, rfl⟩]
        exact ⟨rfl, hx⟩
      · rw [pk_un q, if_neg (fun z => q z.2)]
        exact h3 k (by omega)
    · rw [if_neg e] at hk
      rw [uA_n (show p + 1 + 1 + w' ≠ p + 1 + 1 + w by omega), if_neg (fun z => e z.1)]
      exact h3 k hk
theorem LinN.keep {σ σ' : SG} {p : Nat} {n : Nat → Nat} {pl : Nat → Nat → Nat} (h : LinN σ p n pl) (h4 : σ'.2.1 (p + 4) = σ.2.1 (p + 4)) (h2 : ∀ w, w < 2 → σ'.2.1 (p + 1 + 1 + w) = σ.2.1 (p + 1 + 1 + w)) : LinN σ' p n pl := ⟨h.1, fun w hw => by rw [h4, h2 w hw]; exact h.2 w hw⟩
set_option maxHeartbeats 4000000 in
set_option maxRecDepth 100000 in
theorem ct_hasRoom {g : GG} {σ : SG} {o nr nc : Nat} (hT : TaD σ o nr nc) : Cti g yX8_hasRoom cX8_hasRoom 1 (some .boolean) (rmm 0 0) [.ref (ad g o)] σ (fun x σ' => x = 1 ∧ σ' = σ) := by
  refine ct_of (own := RX8) (lv := [some (.ref (ad g o))]) rfl (by decide) (Nat.le_of_ble_eq_true rfl) (by intro u hu; simp only [List.mem_cons, List.not_mem_nil, or_false] at hu; rcases hu with rfl <;> rfl) (lv_ok [.ref (ad g o)] 0) ?_
  obtain ⟨hk, hr, hc, r1, c1, r2, c2, cap6, cap7⟩ := hT
  have hl6 := ln_t6 hk
  have hl7 := ln_t7 hk
  have hrr : nr < 2 ^ 31 := by omega
  have hcc : nc < 2 ^ 31 := by omega
  refine aw_aload_n dX8_hasRoom_0 rfl ?_
  refine gf8_rows dX8_hasRoom_1 kf8_110 hk ?_
  refine aw_eq hr ?_
  refine aw_if_leN dX8_hasRoom_4 rfl (by omega) (fun h_4 => absurd h_4 (by omega)) (fun h_4 => ?_)
  refine aw_aload_n dX8_hasRoom_7 rfl ?_
  refine gf8_columns dX8_hasRoom_8 kf8_113 hk ?_
  refine aw_eq hc ?_
  refine aw_if_leN dX8_hasRoom_11 rfl (by omega) (fun h_11 => absurd h_11 (by omega)) (fun h_11 => ?_)
  refine aw_aload_n dX8_hasRoom_14 rfl ?_
  refine gf8_rows dX8_hasRoom_15 kf8_110 hk ?_
  refine aw_eq hr ?_
  refine aw_aload_n dX8_hasRoom_18 rfl ?_
  refine gf8_columns dX8_hasRoom_19 kf8_113 hk ?_
  refine aw_eq hc ?_
  refine aw_imul dX8_hasRoom_22 ?_
  refine aw_eq (pk_mul nr nc) ?_
  refine aw_aload_n dX8_hasRoom_23 rfl ?_
  refine gf8_fieldCells dX8_hasRoom_24 kf8_30 hk ?_
  refine aw_alen dX8_hasRoom_27 (kf_8_fieldCells hk) (Or.inl rfl) ?_
  refine aw_icmp_gtN dX8_hasRoom_28 rfl rfl (by omega) (by omega) (fun h_28 => absurd h_28 (by omega)) (fun h_28 => ?_)
  refine aw_aload_n dX8_hasRoom_31 rfl ?_
  refine gf8_rows dX8_hasRoom_32 kf8_110 hk ?_
  refine aw_eq hr ?_
  refine aw_ic (nI 1) dX8_hasRoom_35 (by decide) ?_
  refine aw_iadd dX8_hasRoom_36 ?_
  refine aw_eq (nI_1 nr) ?_
  refine aw_aload_n dX8_hasRoom_37 rfl ?_
  refine gf8_columns dX8_hasRoom_38 kf8_113 hk ?_
  refine aw_eq hc ?_
  refine aw_imul dX8_hasRoom_41 ?_
  refine aw_eq (pk_mul (nr + 1) nc) ?_
  refine aw_aload_n dX8_hasRoom_42 rfl ?_
  refine gf8_rows dX8_hasRoom_43 kf8_110 hk ?_
  refine aw_eq hr ?_
  refine aw_aload_n dX8_hasRoom_46 rfl ?_
  refine gf8_columns dX8_hasRoom_47 kf8_113 hk ?_
  refine aw_eq hc ?_
  refine aw_ic (nI 1) dX8_hasRoom_50 (by decide) ?_
  refine aw_iadd dX8_hasRoom_51 ?_
  refine aw_eq (nI_1 nc) ?_
  refine aw_imul dX8_hasRoom_52 ?_
  refine aw_eq (pk_mul nr (nc + 1)) ?_
  refine aw_iadd dX8_hasRoom_53 ?_
  refine aw_eq (nI_add _ _) ?_
  refine aw_aload_n dX8_hasRoom_54 rfl ?_
  refine gf8_sides dX8_hasRoom_55 kf8_26 hk ?_
  refine aw_alen dX8_hasRoom_58 (kf_8_sides hk) (Or.inr rfl) ?_
  refine aw_icmp_gtN dX8_hasRoom_59 rfl rfl (by omega) (by omega) (fun h_59 => absurd h_59 (by omega)) (fun h_59 => ?_)
  refine aw_ic (nI 1) dX8_hasRoom_62 (by decide) ?_
  refine aw_goto dX8_hasRoom_63 ?_
  exact aw_iretz dX8_hasRoom_67 (by decide) (⟨rfl, rfl⟩)

set_option maxHeartbeats 4000000 in
set_option maxRecDepth 100000 in
theorem ct_takeLines {g : GG} {σ : SG} {o t m : Nat} {R : Nat → Nat → Nat} {inT : Nat → Bool} (hk : kd o = 8) (hR : RsN σ m R) (hway : ∀ k, k < m → R k 0 ≤ 1) (htb : ∀ k, k < m → (σ.1 200 (25 + 1 + σ.2.2 k) = nI t ↔ inT k = true)) (hcap : ∀ w, w < 2 → cW inT R w m ≤ ln (o + 1 + 1 + 1 + w)) (h20 : 2 ≤ (lnS inT R m).1 0) (h21 : 2 ≤ (lnS inT R m).1 1) (hr2 : (lnS inT R m).1 0 - 1 ≤ 21) (hc2 : (lnS inT R m).1 1 - 1 ≤ 21) (hc6 : ((lnS inT R m).1 0 - 1 + 1) * ((lnS inT R m).1 1 - 1) + ((lnS inT R m).1 0 - 1) * ((lnS inT R m).1 1 - 1 + 1) ≤ ln (o + 6)) (hc7 : ((lnS inT R m).1 0 - 1) * ((lnS inT R m).1 1 - 1) ≤ ln (o + 7)) : Ctv g yX8_takeLines cX8_takeLines 4 (rmm 1 23) [.ref (ad g o), .ref (ad g 24), .int (nI t)] σ (fun σ' => ∃ B, σ' = (uI (uI (uI σ.1 257 o (nI (ctB inT m))) 258 o (nI ((lnS inT R m).1 0 - 1))) 259 o (nI ((lnS inT R m).1 1 - 1)), B, σ.2.2) ∧ LinN σ' (o + 1) (lnS inT R m).1 (lnS inT R m).2 ∧ ∀ q, (q < o + 3 ∨ o + 5 < q) → B q = σ.2.1 q) := by
  refine ct_of (own := RX8) (lv := [some (.ref (ad g o)), some (.ref (ad g 24)), some (.int (nI t)), none]) rfl (by decide) (Nat.le_of_ble_eq_true rfl) (by intro u hu; simp only [List.mem_cons, List.not_mem_nil, or_false] at hu; rcases hu with rfl | rfl | rfl <;> rfl) (lv_ok [.ref (ad g o), .ref (ad g 24), .int (nI t)] 1) ?_
  obtain ⟨hm, hm24, hπ, hQ⟩ := hR
  have hl25 := l_25
  have hko : ∀ f q, kd q ≠ 8 → ∀ x : Int32, uI σ.1 257 o x f q = σ.1 f q := fun f q hq x => uI_o (fun e => by rw [e] at hq; exact hq hk)
  have hne24 : (24 : Nat) ≠ o := fun e => by rw [← e, k_24] at hk; exact absurd hk (by decide)
  refine aw_aload_n dX8_takeLines_0 rfl ?_
  refine gf8_lines dX8_takeLines_1 kf8_20 hk ?_
  refine cvv0 dX8_takeLines_4 km8_77 ok_X2_clear rfl rfl (by decide) (kf_8_lines hk) (Nat.le_of_ble_eq_true rfl) ⟨Nat.le_of_ble_eq_true rfl, Nat.le_of_ble_eq_true rfl⟩ rfl rfl (ct_Lines_clear (kf_8_lines hk)) ?_
  intro σ1 hp_4
  subst hp_4
  refine aw_aload_n dX8_takeLines_7 rfl ?_
  refine aw_ic (nI 0) dX8_takeLines_8 (by decide) ?_
  refine pf8_rules dX8_takeLines_9 kf8_80 hk ?_
  refine aw_ic (nI 0) dX8_takeLines_12 (by decide) ?_
  refine aw_istore_n dX8_takeLines_13 (Nat.le_of_ble_eq_true rfl) ?_
  refine for_up (fun i σ' => ∃ B, σ' = (uI σ.1 257 o (nI (ctB inT i)), B, σ.2.2) ∧ LinN σ' (o + 1) (lnS inT R i).1 (lnS inT R i).2 ∧ ∀ q, (q < o + 3 ∨ o + 5 < q) → B q = σ.2.1 q) (fun i => [some (.ref (ad g o)), some (.ref (ad g 24)), some (.int (nI t)), some (.int (nI i))]) m ?_ ?_ 0 _ (Nat.zero_le _) ⟨_, rfl, ⟨kf_8_lines hk, fun w hw => ⟨?_, Nat.zero_le _, fun k h => absurd h (Nat.not_lt_zero k)⟩⟩, fun q hq => uA_n (by omega)⟩
  rotate_left 2
  · show uA _ (o + 1 + 4) _ (o + 1 + 4) w = nI 0
    rw [uA_s]
    rcases (show w = 0 ∨ w = 1 by omega) with rfl | rfl
    · rw [pk_un (by decide), pk_us]
    · rw [pk_us]
  · rintro i σ2 hi ⟨B, rfl, hL, hB⟩ ih
    have hri := hπ.1 i (by omega)
    obtain ⟨F0, F1, -⟩ := (hQ i hi).1
    have b1 := (hQ i hi).2.2.1
    have hk6 : kd (25 + 1 + σ.2.2 i) ≠ 8 := by rw [k_rule hri]; decide
    have hct : ctB inT (i + 1) = ctB inT i + (if inT i = true then 1 else 0) := rfl
    have hcl := ctB_le inT i
    refine aw_iload_n dX8_takeLines_14 rfl ?_
    refine aw_aload_n dX8_takeLines_15 rfl ?_
    refine gf7_count dX8_takeLines_16 kf8_83 k_24 ?_
    refine aw_eq (show _ = nI m by rw [uI_o hne24]; exact hm) ?_
    refine aw_icmp_geN dX8_takeLines_19 rfl rfl (by omega) (by omega) (fun h_19 => absurd h_19 (by omega)) (fun h_19 => ?_)
    refine aw_aload_n dX8_takeLines_22 rfl ?_
    refine gf7_all dX8_takeLines_23 kf8_88 k_24 ?_
    refine aw_eqr (b := 25) rfl ?_
    refine aw_iload_n dX8_takeLines_26 rfl ?_
    refine aw_ald14 (i) dX8_takeLines_27 k_25 (rfl) (by omega) ?_
    refine gf6_table dX8_takeLines_28 kf8_92 (k_rule hri) ?_
    refine aw_eq (hko _ _ hk6 _) ?_
    refine aw_iload_n dX8_takeLines_31 rfl ?_
    refine aw_icmp_ne dX8_takeLines_32 (fun h_32 => ?_) (fun h_32 => ?_)
    · skip
      refine aw_inc (nI (i + 1)) dX8_takeLines_70 rfl (Nat.le_of_ble_eq_true rfl) (nI_1 i) ?_
      refine aw_goto dX8_takeLines_73 ?_
      refine ih _ ⟨B, ?_, ?_, hB⟩
      · rw [hct, if_neg (fun z => h_32 ((htb i hi).mpr z)), Nat.add_zero]
      · have e : lnS inT R (i + 1) = lnS inT R i := if_neg (fun z => h_32 ((htb i hi).mpr z.1))
        rw [e]
        exact hL.keep rfl (fun _ _ => rfl)
    · skip
      refine aw_aload_n dX8_takeLines_35 rfl ?_
      refine gf8_lines dX8_takeLines_36 kf8_20 hk ?_
      refine aw_aload_n dX8_takeLines_39 rfl ?_
      refine gf7_all dX8_takeLines_40 kf8_88 k_24 ?_
      refine aw_eqr (b := 25) rfl ?_
      refine aw_iload_n dX8_takeLines_43 rfl ?_
      refine aw_ald14 (i) dX8_takeLines_44 k_25 (rfl) (by omega) ?_
      refine gf6_way dX8_takeLines_45 kf8_97 (k_rule hri) ?_
      refine aw_eq ((hko _ _ hk6 _).trans F0) ?_
      refine aw_aload_n dX8_takeLines_48 rfl ?_
      refine gf7_all dX8_takeLines_49 kf8_88 k_24 ?_
      refine aw_eqr (b := 25) rfl ?_
      refine aw_iload_n dX8_takeLines_52 rfl ?_
      refine aw_ald14 (i) dX8_takeLines_53 k_25 (rfl) (by omega) ?_
      refine gf6_at dX8_takeLines_54 kf8_100 (k_rule hri) ?_
      refine aw_eq ((hko _ _ hk6 _).trans F1) ?_
      have hin : inT i = true := (htb i hi).mp h_32
      have hroom : (lnS inT R i).1 (R i 0) < ln (o + 1 + 1 + 1 + R i 0) := by
        have h1 := lnS_le inT R (R i 0) i
        have h2 : cW inT R (R i 0) (i + 1) = cW inT R (R i 0) i + 1 := by
          show cW inT R (R i 0) i + (if (inT i && decide (R i 0 = R i 0)) = true then 1 else 0) = _
          rw [if_pos (by simp [hin])]
        have h3 := ctB_mono (fun k => inT k && decide (R k 0 = R i 0)) (show i + 1 ≤ m by omega)
        have h4 := hcap (R i 0) (by have := hway i hi; omega)
        unfold cW at h1 h2 h4
        omega
      refine cvv2 dX8_takeLines_57 km8_103 ok_X2_add rfl rfl (by decide) (kf_8_lines hk) (Nat.le_of_ble_eq_true rfl) ⟨Nat.le_of_ble_eq_true rfl, Nat.le_of_ble_eq_true rfl⟩ rfl rfl (ct_Lines_add (w := R i 0) (p := R i 1) hL (by have := hway i hi; omega) hroom b1) ?_
      intro σ3 hp_57
      rcases hp_57 with ⟨g1, g2, rfl⟩ | ⟨g1, rfl⟩
      · skip
        refine aw_aload_n dX8_takeLines_60 rfl ?_
        refine aw_dup dX8_takeLines_61 rfl ?_
        refine gf8_rules dX8_takeLines_62 kf8_80 hk ?_
        refine aw_eq (uI_s _ _ _ _) ?_
        refine aw_ic (nI 1) dX8_takeLines_65 (by decide) ?_
        refine aw_iadd dX8_takeLines_66 ?_
        refine aw_eq (show _ = nI (ctB inT (i + 1)) by rw [hct, if_pos hin, nI_add]) ?_
        refine pf8_rules dX8_takeLines_67 kf8_80 hk ?_
        refine aw_inc (nI (i + 1)) dX8_takeLines_70 rfl (Nat.le_of_ble_eq_true rfl) (nI_1 i) ?_
        refine aw_goto dX8_takeLines_73 ?_
        refine ih _ ⟨B, by rw [uI_uI], ?_, hB⟩
        have e : lnS inT R (i + 1) = lnS inT R i := if_neg (fun z => z.2 ⟨g1, g2⟩)
        rw [e]
        exact hL.keep rfl (fun _ _ => rfl)
      · skip
        refine aw_aload_n dX8_takeLines_60 rfl ?_
        refine aw_dup dX8_takeLines_61 rfl ?_
        refine gf8_rules dX8_takeLines_62 kf8_80 hk ?_
        refine aw_eq (uI_s _ _ _ _) ?_
        refine aw_ic (nI 1) dX8_takeLines_65 (by decide) ?_
        refine aw_iadd dX8_takeLines_66 ?_
        refine aw_eq (show _ = nI (ctB inT (i + 1)) by rw [hct, if_pos hin, nI_add]) ?_
        refine pf8_rules dX8_takeLines_67 kf8_80 hk ?_
        refine aw_inc (nI (i + 1)) dX8_takeLines_70 rfl (Nat.le_of_ble_eq_true rfl) (nI_1 i) ?_
        refine aw_goto dX8_takeLines_73 ?_
        refine ih _ ⟨_, by rw [uI_uI], ?_, fun q hq => ?_⟩
        · have e : lnS inT R (i + 1) = (fun w => if w = R i 0 then (lnS inT R i).1 (R i 0) + 1 else (lnS inT R i).1 w, fun w j => if w = R i 0 ∧ j = (lnS inT R i).1 (R i 0) then R i 1 else (lnS inT R i).2 w j) := if_pos ⟨hin, fun z => g1 z.1 z.2⟩
          rw [e]
          exact hL.app (by have := hway i hi; omega) hroom b1
        · have := hway i hi
          rw [uA_n (by omega), uA_n (by omega)]
          exact hB q hq
  · rintro σ2 ⟨B, rfl, hL, hB⟩
    obtain ⟨n0, n0l, -⟩ := hL.2 0 (by decide)
    obtain ⟨n1, n1l, -⟩ := hL.2 1 (by decide)
    have hl4 := ln_l4 (kf_8_lines hk)
    refine aw_iload_n dX8_takeLines_14 rfl ?_
    refine aw_aload_n dX8_takeLines_15 rfl ?_
    refine gf7_count dX8_takeLines_16 kf8_83 k_24 ?_
    refine aw_eq (show _ = nI m by rw [uI_o hne24]; exact hm) ?_
    refine aw_icmp_geN dX8_takeLines_19 rfl rfl (by omega) (by omega) (fun h_19 => ?_) (fun h_19 => absurd h_19 (by omega))
    refine aw_aload_n dX8_takeLines_76 rfl ?_
    refine aw_aload_n dX8_takeLines_77 rfl ?_
    refine gf8_lines dX8_takeLines_78 kf8_20 hk ?_
    refine gf2_counts dX8_takeLines_81 kf8_107 (kf_8_lines hk) ?_
    refine aw_ic (nI 0) dX8_takeLines_84 (by decide) ?_
    refine aw_ld (0) dX8_takeLines_85 (kf_2_counts (kf_8_lines hk)) (rfl) (by omega) ?_
    refine aw_eq n0 ?_
    refine aw_ic (nI 1) dX8_takeLines_86 (by decide) ?_
    refine aw_isub dX8_takeLines_87 ?_
    refine aw_eq (show _ = nI ((lnS inT R m).1 0 - 1) from pk_sub (by omega)) ?_
    refine pf8_rows dX8_takeLines_88 kf8_110 hk ?_
    refine aw_aload_n dX8_takeLines_91 rfl ?_
    refine aw_aload_n dX8_takeLines_92 rfl ?_
    refine gf8_lines dX8_takeLines_93 kf8_20 hk ?_
    refine gf2_counts dX8_takeLines_96 kf8_107 (kf_8_lines hk) ?_
    refine aw_ic (nI 1) dX8_takeLines_99 (by decide) ?_
    refine aw_ld (1) dX8_takeLines_100 (kf_2_counts (kf_8_lines hk)) (rfl) (by omega) ?_
    refine aw_eq n1 ?_
    refine aw_ic (nI 1) dX8_takeLines_101 (by decide) ?_
    refine aw_isub dX8_takeLines_102 ?_
    refine aw_eq (show _ = nI ((lnS inT R m).1 1 - 1) from pk_sub (by omega)) ?_
    refine pf8_columns dX8_takeLines_103 kf8_113 hk ?_
    refine aw_aload_n dX8_takeLines_106 rfl ?_
    refine cqi0 dX8_takeLines_107 km8_116 ok_X8_hasRoom rfl rfl (by decide) hk (Nat.le_of_ble_eq_true rfl) ⟨Nat.le_of_ble_eq_true rfl, Nat.le_of_ble_eq_true rfl⟩ rfl rfl (ct_hasRoom (nr := (lnS inT R m).1 0 - 1) (nc := (lnS inT R m).1 1 - 1) ⟨hk, by simp [uI], by simp [uI], by omega, by omega, hr2, hc2, hc6, hc7⟩) ?_
    refine aw_if_ne dX8_takeLines_110 (fun h_110 => ?_) (fun h_110 => absurd h_110 (by decide))
    exact aw_ret dX8_takeLines_123 (⟨B, rfl, hL.keep rfl (fun _ _ => rfl), hB⟩)

