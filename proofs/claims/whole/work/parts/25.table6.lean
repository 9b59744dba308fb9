/-- the cell whose first field is ρ, out of the fields below f -/
def cFold (nc : Nat) (lab : Nat → Nat) (ρ : Nat) : Nat → (Nat → Nat)
  | 0 => fun _ => 0
  | f + 1 => if lab f = ρ then (if f = ρ then bvC (f / nc) (f % nc) else wvC (cFold nc lab ρ f) (f / nc) (f % nc)) else cFold nc lab ρ f
theorem wv_sum (v : Nat → Nat) (r c : Nat) : wvC v r c 1 + wvC v r c 3 = max (v 1 + v 3) (c + 1) := by
  simp only [wvC]
  simp
  split <;> omega
theorem cFold_B {nc nr : Nat} {lab : Nat → Nat} {ρ : Nat} (hn : 1 ≤ nc) (hρ : lab ρ = ρ) : ∀ f, ρ < f → f ≤ nr * nc → (cFold nc lab ρ f 0 = ρ / nc ∧ cFold nc lab ρ f 1 + cFold nc lab ρ f 3 ≤ nc ∧ cFold nc lab ρ f 4 ≤ f ∧ cFold nc lab ρ f 5 = 0 ∧ cFold nc lab ρ f 6 = 0 ∧ 1 ≤ cFold nc lab ρ f 4 ∧ 1 ≤ cFold nc lab ρ f 3 ∧ 1 ≤ cFold nc lab ρ f 2 ∧ cFold nc lab ρ f 0 + cFold nc lab ρ f 2 ≤ nr)
  | 0, h, _ => absurd h (Nat.not_lt_zero ρ)
  | f + 1, h, h2 => by
    have hmod := Nat.mod_lt f (show 0 < nc by omega)
    have hdiv : f / nc < nr := Nat.div_lt_of_lt_mul (by rw [Nat.mul_comm]; omega)
    by_cases e : f = ρ
    · have e1 : cFold nc lab ρ (f + 1) = bvC (f / nc) (f % nc) := by
        show (if lab f = ρ then _ else _) = _
        rw [if_pos (by rw [e]; exact hρ), if_pos e]
      rw [e1]
      simp [bvC, e]
      rw [e] at hmod hdiv
      omega
    · have ih := cFold_B (nr := nr) hn hρ f (by omega) (by omega)
      by_cases q : lab f = ρ
      · have e1 : cFold nc lab ρ (f + 1) = wvC (cFold nc lab ρ f) (f / nc) (f % nc) := by
          show (if lab f = ρ then _ else _) = _
          rw [if_pos q, if_neg e]
        have hs := wv_sum (cFold nc lab ρ f) (f / nc) (f % nc)
        have hd : ρ / nc ≤ f / nc := Nat.div_le_div_right (by omega)
        rw [e1, hs]
        simp [wvC]
        omega
      · have e1 : cFold nc lab ρ (f + 1) = cFold nc lab ρ f := by
          show (if lab f = ρ then _ else _) = _
          rw [if_neg q]
        rw [e1]
        omega
/-- the cells out of the fields below f -/
def NcP (σ : SG) (o nc : Nat) (lab : Nat → Nat) (f : Nat) (B : Nat → Nat → Int32) : Prop := (∀ q, q < f → B (o + 7) q = nI (cnt lab (lab q))) ∧ (∀ ρ, ρ < f → lab ρ = ρ → ∀ j, j < 7 → B (o + 8 + 1 + j) (cnt lab ρ) = nI (cFold nc lab ρ f j)) ∧ ∀ q, q ≠ o + 7 → (q < o + 9 ∨ o + 15 < q) → B q = σ.2.1 q
theorem NcP.beg {σ : SG} {o nc : Nat} {lab : Nat → Nat} {r c : Nat} {B C : Nat → Nat → Int32} (hcn : c < nc) (h : NcP σ o nc lab (r * nc + c) B) (hr : lab (r * nc + c) = r * nc + c) (h1 : C (o + 7) = upd (B (o + 7)) (r * nc + c) (nI (cnt lab (r * nc + c)))) (h2 : ∀ j, j < 7 → C (o + 8 + 1 + j) = upd (B (o + 8 + 1 + j)) (cnt lab (r * nc + c)) (nI (bvC r c j))) (h3 : ∀ q, q ≠ o + 7 → (q < o + 9 ∨ o + 15 < q) → C q = B q) : NcP σ o nc lab (r * nc + c + 1) C := by
  refine ⟨fun q hq => ?_, fun ρ h4 h5 j hj => ?_, fun q h4 h5 => (h3 q h4 h5).trans (h.2.2 q h4 h5)⟩
  · rw [h1]
    rcases Nat.lt_or_ge q (r * nc + c) with e | e
    · rw [pk_un (by omega)]
      exact h.1 q e
    · rw [show q = r * nc + c by omega, pk_us, hr]
  · rw [h2 j hj]
    rcases Nat.lt_or_ge ρ (r * nc + c) with e | e
    · have hf : cFold nc lab ρ (r * nc + c + 1) = cFold nc lab ρ (r * nc + c) := by
        show (if lab (r * nc + c) = ρ then _ else _) = _
        rw [if_neg (by omega)]
      have := cnt_lt h5 e
      rw [pk_un (by omega), hf]
      exact h.2.1 ρ e h5 j hj
    · have e1 : ρ = r * nc + c := by omega
      have hf : cFold nc lab (r * nc + c) (r * nc + c + 1) = bvC r c := by
        show (if lab (r * nc + c) = r * nc + c then _ else _) = _
        rw [if_pos hr, if_pos rfl, rc_div hcn, rc_mod hcn]
      rw [e1, pk_us, hf]
theorem NcP.wid {σ : SG} {o nc : Nat} {lab : Nat → Nat} {r c : Nat} {B C : Nat → Nat → Int32} (hcn : c < nc) (h : NcP σ o nc lab (r * nc + c) B) (hr : lab (r * nc + c) < r * nc + c) (hrr : lab (lab (r * nc + c)) = lab (r * nc + c)) (h1 : C (o + 7) = upd (B (o + 7)) (r * nc + c) (nI (cnt lab (lab (r * nc + c))))) (h2 : ∀ j, j < 7 → C (o + 8 + 1 + j) = upd (B (o + 8 + 1 + j)) (cnt lab (lab (r * nc + c))) (nI (wvC (cFold nc lab (lab (r * nc + c)) (r * nc + c)) r c j))) (h3 : ∀ q, q ≠ o + 7 → (q < o + 9 ∨ o + 15 < q) → C q = B q) : NcP σ o nc lab (r * nc + c + 1) C := by
  refine ⟨fun q hq => ?_, fun ρ h4 h5 j hj => ?_, fun q h4 h5 => (h3 q h4 h5).trans (h.2.2 q h4 h5)⟩
  · rw [h1]
    rcases Nat.lt_or_ge q (r * nc + c) with e | e
    · rw [pk_un (by omega)]
      exact h.1 q e
    · rw [show q = r * nc + c by omega, pk_us]
  · rw [h2 j hj]
    have hρ : ρ < r * nc + c := by
      rcases Nat.lt_or_ge ρ (r * nc + c) with e | e
      · exact e
      · rw [show ρ = r * nc + c by omega] at h5
        omega
    by_cases e : ρ = lab (r * nc + c)
    · have hf : cFold nc lab (lab (r * nc + c)) (r * nc + c + 1) = wvC (cFold nc lab (lab (r * nc + c)) (r * nc + c)) r c := by
        show (if lab (r * nc + c) = lab (r * nc + c) then _ else _) = _
        rw [if_pos rfl, if_neg (by omega), rc_div hcn, rc_mod hcn]
      rw [e, pk_us, hf]
    · have hf : cFold nc lab ρ (r * nc + c + 1) = cFold nc lab ρ (r * nc + c) := by
        show (if lab (r * nc + c) = ρ then _ else _) = _
        rw [if_neg (fun z => e z.symm)]
      rw [pk_un (fun z => e (cnt_inj h5 hrr z)), hf]
      exact h.2.1 ρ hρ h5 j hj
set_option maxHeartbeats 4000000 in
set_option maxRecDepth 100000 in
theorem ct_numberCells {g : GG} {σ : SG} {o nr nc : Nat} {lab : Nat → Nat} (hT : TaD σ o nr nc) (hF : Fo (nr * nc) lab (σ.2.1 23)) : Ctv g yX8_numberCells cX8_numberCells 6 (rmm 2 46) [.ref (ad g o), .ref (ad g 22)] σ (fun σ' => ∃ B, σ' = (uI σ.1 263 o (nI (cnt lab (nr * nc))), B, σ.2.2) ∧ NcP σ o nc lab (nr * nc) B) := by
  refine ct_of (own := RX8) (lv := [some (.ref (ad g o)), some (.ref (ad g 22)), none, none, none, none]) rfl (by decide) (Nat.le_of_ble_eq_true rfl) (by intro u hu; simp only [List.mem_cons, List.not_mem_nil, or_false] at hu; rcases hu with rfl | rfl <;> rfl) (lv_ok [.ref (ad g o), .ref (ad g 22)] 4) ?_
  have hT0 := hT
  obtain ⟨hk, hr, hc, r1, c1, r2, c2, cap6, cap7⟩ := hT
  have hl7 := ln_t7 hk
  have hne23 : (23 : Nat) ≠ o + 7 ∧ (23 < o + 9 ∨ o + 15 < 23) := by
    have ho : 50 < o := kd_all (P := fun o => 50 < o) 8 (by decide) (by decide +kernel) hk
    omega
  have hu : ∀ (x : Int32), uI σ.1 263 o x 258 o = nI nr ∧ uI σ.1 263 o x 259 o = nI nc := fun x => ⟨(uI_f (by decide)).trans hr, (uI_f (by decide)).trans hc⟩
  refine aw_aload_n dX8_numberCells_0 rfl ?_
  refine aw_ic (nI 0) dX8_numberCells_1 (by decide) ?_
  refine pf8_cellCount dX8_numberCells_2 kf8_149 hk ?_
  refine aw_ic (nI 0) dX8_numberCells_5 (by decide) ?_
  refine aw_istore_n dX8_numberCells_6 (Nat.le_of_ble_eq_true rfl) ?_
  refine for_wf (fun nn σ' lv => ∃ r, nn + r = nr ∧ ∃ B x y z, σ' = (uI σ.1 263 o (nI (cnt lab (r * nc))), B, σ.2.2) ∧ NcP σ o nc lab (r * nc) B ∧ lv = [some (.ref (ad g o)), some (.ref (ad g 22)), some (.int (nI r)), x, y, z]) ?_ nr _ _ ⟨0, by omega, _, _, _, _, by rw [Nat.zero_mul]; rfl, by rw [Nat.zero_mul]; exact ⟨fun q h => absurd h (Nat.not_lt_zero q), fun q h => absurd h (Nat.not_lt_zero q), fun _ _ _ => rfl⟩, rfl⟩
  rintro nn σ2 lv2 ⟨r, hn, B, x, y, z, rfl, hN, rfl⟩ ih
  refine aw_iload_n dX8_numberCells_7 rfl ?_
  refine aw_aload_n dX8_numberCells_8 rfl ?_
  refine gf8_rows dX8_numberCells_9 kf8_110 hk ?_
  refine aw_eq (hu _).1 ?_
  refine aw_icmp_geN dX8_numberCells_12 rfl rfl (by omega) (by omega) (fun h_12 => ?_) (fun h_12 => ?_)
  · skip
    exact aw_ret dX8_numberCells_98 (by
        have e : r = nr := by omega
        subst e
        exact ⟨B, rfl, hN⟩)
  · skip
    refine aw_ic (nI 0) dX8_numberCells_15 (by decide) ?_
    refine aw_istore_n dX8_numberCells_16 (Nat.le_of_ble_eq_true rfl) ?_
    refine for_wf (fun nn σ' lv => ∃ c, nn + c = nc ∧ ∃ B x y, σ' = (uI σ.1 263 o (nI (cnt lab (r * nc + c))), B, σ.2.2) ∧ NcP σ o nc lab (r * nc + c) B ∧ lv = [some (.ref (ad g o)), some (.ref (ad g 22)), some (.int (nI r)), some (.int (nI c)), x, y]) ?_ nc _ _ ⟨0, by omega, B, _, _, rfl, hN, rfl⟩
    rintro nn2 σ3 lv3 ⟨c, hn2, B, x, y, rfl, hN, rfl⟩ ih2
    by_cases hlast : nc ≤ c
    · have e : c = nc := by omega
      subst e
      refine aw_iload_n dX8_numberCells_17 rfl ?_
      refine aw_aload_n dX8_numberCells_18 rfl ?_
      refine gf8_columns dX8_numberCells_19 kf8_113 hk ?_
      refine aw_eq (hu _).2 ?_
      refine aw_icmp_geN dX8_numberCells_22 rfl rfl (by omega) (by omega) (fun h_22 => ?_) (fun h_22 => absurd h_22 (by omega))
      refine aw_inc (nI (r + 1)) dX8_numberCells_92 rfl (Nat.le_of_ble_eq_true rfl) (nI_1 r) ?_
      refine aw_goto dX8_numberCells_95 ?_
      exact ih (nn - 1) _ _ (by omega) ⟨r + 1, by omega, B, _, _, _, by rw [Nat.succ_mul], by rw [Nat.succ_mul]; exact hN, rfl⟩
    refine aw_iload_n dX8_numberCells_17 rfl ?_
    refine aw_aload_n dX8_numberCells_18 rfl ?_
    refine gf8_columns dX8_numberCells_19 kf8_113 hk ?_
    refine aw_eq (hu _).2 ?_
    refine aw_icmp_geN dX8_numberCells_22 rfl rfl (by omega) (by omega) (fun h_22 => absurd h_22 (by omega)) (fun h_22 => ?_)
    refine aw_iload_n dX8_numberCells_25 rfl ?_
    refine aw_aload_n dX8_numberCells_26 rfl ?_
    have hcn : c < nc := h_22
    have hfl := rc_lt (show r < nr by omega) hcn
    have hlf := hF.le (r * nc + c) (by omega)
    have hlff := hF.idem (r * nc + c) (by omega)
    have hcf := cnt_le lab (r * nc + c)
    have hcf2 := cnt_le lab (lab (r * nc + c))
    refine gf8_columns dX8_numberCells_27 kf8_113 hk ?_
    refine aw_eq (hu _).2 ?_
    refine aw_imul dX8_numberCells_30 ?_
    refine aw_eq (pk_mul r nc) ?_
    refine aw_iload_n dX8_numberCells_31 rfl ?_
    refine aw_iadd dX8_numberCells_32 ?_
    refine aw_eq (nI_add _ _) ?_
    refine aw_istore dX8_numberCells_33 (Nat.le_of_ble_eq_true rfl) ?_
    refine aw_aload_n dX8_numberCells_35 rfl ?_
    refine aw_iload dX8_numberCells_36 rfl ?_
    refine cqi1 dX8_numberCells_38 km8_152 ok_X1_firstOf rfl rfl (by decide) k_22 (Nat.le_of_ble_eq_true rfl) ⟨Nat.le_of_ble_eq_true rfl, Nat.le_of_ble_eq_true rfl⟩ rfl rfl (ct_Groups_firstOf (lab := lab) (k := r * nc + c) k_22 (n := nr * nc) (show Fo _ lab (B 23) by rw [hN.2.2 23 hne23.1 hne23.2]; exact hF) hfl (by omega)) ?_
    refine aw_istore dX8_numberCells_41 (Nat.le_of_ble_eq_true rfl) ?_
    refine aw_iload dX8_numberCells_43 rfl ?_
    refine aw_iload dX8_numberCells_45 rfl ?_
    refine aw_icmp_neN dX8_numberCells_47 rfl rfl (by omega) (by omega) (fun h_47 => ?_) (fun h_47 => ?_)
    · skip
      refine aw_aload_n dX8_numberCells_59 rfl ?_
      refine gf8_fieldCells dX8_numberCells_60 kf8_30 hk ?_
      refine aw_iload dX8_numberCells_63 rfl ?_
      refine aw_aload_n dX8_numberCells_65 rfl ?_
      refine gf8_fieldCells dX8_numberCells_66 kf8_30 hk ?_
      refine aw_iload dX8_numberCells_69 rfl ?_
      refine aw_ld (lab (r * nc + c)) dX8_numberCells_71 (kf_8_fieldCells hk) (rfl) (by omega) ?_
      refine aw_eq (show _ = nI (cnt lab (lab (r * nc + c))) by rw [hN.1 _ (by omega), hlff]) ?_
      refine aw_sto (r * nc + c) dX8_numberCells_72 (kf_8_fieldCells hk) (rfl) (by omega) ?_
      refine aw_aload_n dX8_numberCells_73 rfl ?_
      refine aw_aload_n dX8_numberCells_74 rfl ?_
      refine gf8_fieldCells dX8_numberCells_75 kf8_30 hk ?_
      refine aw_iload dX8_numberCells_78 rfl ?_
      refine aw_ld (r * nc + c) dX8_numberCells_80 (kf_8_fieldCells hk) (rfl) (by omega) ?_
      refine aw_eq (show _ = nI (cnt lab (lab (r * nc + c))) by rw [uA_s, pk_us]) ?_
      refine aw_iload_n dX8_numberCells_81 rfl ?_
      refine aw_iload_n dX8_numberCells_82 rfl ?_
      have hfB := cFold_B (nr := nr) c1 hlff (r * nc + c) (by omega) (by omega)
      have hdv : lab (r * nc + c) / nc ≤ r := by have := Nat.div_le_div_right (c := nc) hlf; rw [rc_div hcn] at this; exact this
      refine cvv3 dX8_numberCells_83 km8_159 ok_X8_widenCell rfl rfl (by decide) hk (Nat.le_of_ble_eq_true rfl) ⟨Nat.le_of_ble_eq_true rfl, Nat.le_of_ble_eq_true rfl⟩ rfl rfl (ct_widenCell (nr := nr) (nc := nc) (q := cnt lab (lab (r * nc + c))) (r := r) (c := c) (v := cFold nc lab (lab (r * nc + c)) (r * nc + c)) (show TaD _ o nr nc from ⟨hk, (hu (nI (cnt lab (r * nc + c)))).1, (hu (nI (cnt lab (r * nc + c)))).2, r1, c1, r2, c2, cap6, cap7⟩) (fun j hj => by show uA _ (o + 7) _ (o + 8 + 1 + j) _ = _; rw [uA_n (by omega)]; exact hN.2.1 _ (by omega) hlff j hj) (by omega) (by omega) (by omega) (by omega) (by omega) (by omega) (by omega)) ?_
      intro σ4 hp_83
      obtain ⟨C, rfl, g1, g2⟩ := hp_83
      dsimp only at g1 g2
      refine aw_inc (nI (c + 1)) dX8_numberCells_86 rfl (Nat.le_of_ble_eq_true rfl) (nI_1 c) ?_
      refine aw_goto dX8_numberCells_89 ?_
      exact ih2 (nn2 - 1) _ _ (by omega) ⟨c + 1, by omega, C, _, _, by show _ = (uI σ.1 263 o (nI (cnt lab (r * nc + c + 1))), C, σ.2.2); rw [show cnt lab (r * nc + c + 1) = cnt lab (r * nc + c) from by show cnt lab (r * nc + c) + _ = _; rw [if_neg h_47, Nat.add_zero]], hN.wid hcn (by omega) hlff (by rw [g2 (o + 7) (by omega), uA_s]) (fun j hj => by rw [g1 j hj]; congr 1; rw [uA_n (by omega)]) (fun q h5 h6 => by rw [g2 q h6, uA_n h5]), rfl⟩
    · skip
      refine aw_aload_n dX8_numberCells_50 rfl ?_
      refine aw_iload_n dX8_numberCells_51 rfl ?_
      refine aw_iload_n dX8_numberCells_52 rfl ?_
      refine cvv2 dX8_numberCells_53 km8_156 ok_X8_beginCell rfl rfl (by decide) hk (Nat.le_of_ble_eq_true rfl) ⟨Nat.le_of_ble_eq_true rfl, Nat.le_of_ble_eq_true rfl⟩ rfl rfl (ct_beginCell (cc := cnt lab (r * nc + c)) (nr := nr) (nc := nc) (show TaD (uI σ.1 263 o (nI (cnt lab (r * nc + c))), B, σ.2.2) o nr nc from ⟨hk, (hu (nI (cnt lab (r * nc + c)))).1, (hu (nI (cnt lab (r * nc + c)))).2, r1, c1, r2, c2, cap6, cap7⟩) (uI_s _ _ _ _) (by omega) (by omega)) ?_
      intro σ4 hp_53
      obtain ⟨C, rfl, g1, g2, g3⟩ := hp_53
      refine aw_goto dX8_numberCells_56 ?_
      refine aw_inc (nI (c + 1)) dX8_numberCells_86 rfl (Nat.le_of_ble_eq_true rfl) (nI_1 c) ?_
      refine aw_goto dX8_numberCells_89 ?_
      exact ih2 (nn2 - 1) _ _ (by omega) ⟨c + 1, by omega, C, _, _, by rw [uI_uI]; show _ = (uI σ.1 263 o (nI (cnt lab (r * nc + c + 1))), C, σ.2.2); rw [show cnt lab (r * nc + c + 1) = cnt lab (r * nc + c) + 1 from by show cnt lab (r * nc + c) + _ = _; rw [if_pos h_47]], hN.beg hcn h_47 g1 g2 g3, rfl⟩

