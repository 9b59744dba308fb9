def endN (wd : Nat → Nat → Nat) (w p x : Nat) : Bool := decide (wd x (if w = 1 then 2 else 3) ≤ p)
def begN (wd : Nat → Nat → Nat) (w p x : Nat) : Bool := decide (p ≤ wd x (if w = 1 then 0 else 1))
/-- the words that are said keep clear of a place, with one on each side at least -/
def kcN (wd : Nat → Nat → Nat) (inn : Nat → Bool) (c w p : Nat) : Bool := allB (fun x => !inn x || (endN wd w p x || begN wd w p x)) c && (anyB (fun x => inn x && endN wd w p x) c && anyB (fun x => inn x && begN wd w p x) c)
set_option maxHeartbeats 4000000 in
set_option maxRecDepth 100000 in
theorem ct_keepClear0 {g : GG} {σ : SG} {c p : Nat} {wd : Nat → Nat → Nat} {inn : Nat → Bool} (hR : RowN σ 4 c wd) (hc : σ.1 131 172 = nI c) (hc20 : c ≤ 20) (hp : p ≤ 99) (t q : Int32) (hin : ∀ x, x < c → ((σ.2.1 173 x = t ∧ σ.2.1 174 x = q) ↔ inn x = true)) : Cti g yX4_keepClear cX4_keepClear 11 (some .boolean) (rmm 1 23) [.ref (ad g 172), .ref (ad g 4), .int t, .int q, .int (nI 0), .int (nI p)] σ (fun r σ' => r = (if kcN wd inn c 0 p = true then 1 else 0) ∧ σ' = σ) := by
  refine ct_of (own := RX4) (lv := [some (.ref (ad g 172)), some (.ref (ad g 4)), some (.int t), some (.int q), some (.int (nI 0)), some (.int (nI p)), none, none, none, none, none]) rfl (by decide) (Nat.le_of_ble_eq_true rfl) (by intro u hu; simp only [List.mem_cons, List.not_mem_nil, or_false] at hu; rcases hu with rfl | rfl | rfl | rfl | rfl | rfl <;> rfl) (lv_ok [.ref (ad g 172), .ref (ad g 4), .int t, .int q, .int (nI 0), .int (nI p)] 5) ?_
  obtain ⟨pe, hpe⟩ : ∃ pe, pe = (fun x => inn x && endN wd 0 p x) := ⟨_, rfl⟩
  obtain ⟨pb, hpb⟩ : ∃ pb, pb = (fun x => inn x && begN wd 0 p x) := ⟨_, rfl⟩
  refine aw_ic (nI 0) dX4_keepClear_0 (by decide) ?_
  refine aw_istore dX4_keepClear_1 (Nat.le_of_ble_eq_true rfl) ?_
  refine aw_ic (nI 0) dX4_keepClear_3 (by decide) ?_
  refine aw_istore dX4_keepClear_4 (Nat.le_of_ble_eq_true rfl) ?_
  refine aw_ic (nI 0) dX4_keepClear_6 (by decide) ?_
  refine aw_istore dX4_keepClear_7 (Nat.le_of_ble_eq_true rfl) ?_
  refine for_wf (fun nn σ' lv => ∃ i, nn + i = c ∧ ∃ x y, (∀ j, j < i → (!inn j || (endN wd 0 p j || begN wd 0 p j)) = true) ∧ σ' = σ ∧ lv = [some (.ref (ad g 172)), some (.ref (ad g 4)), some (.int t), some (.int q), some (.int (nI 0)), some (.int (nI p)), some (.int (if anyB pe i = true then 1 else 0)), some (.int (if anyB pb i = true then 1 else 0)), some (.int (nI i)), x, y]) ?_ c _ _ ⟨0, by omega, _, _, fun j h => absurd h (Nat.not_lt_zero j), rfl, rfl⟩
  rintro nn σ2 lv2 ⟨i, hn, x, y, hi2, rfl, rfl⟩ ih
  refine aw_iload dX4_keepClear_9 rfl ?_
  refine aw_aload_n dX4_keepClear_11 rfl ?_
  refine gf4_count dX4_keepClear_12 kf4_27 k_172 ?_
  refine aw_eq hc ?_
  refine aw_icmp_geN dX4_keepClear_15 rfl rfl (by omega) (by omega) (fun h_15 => ?_) (fun h_15 => ?_)
  · skip
    refine aw_iload dX4_keepClear_139 rfl ?_
    refine aw_if_eqB dX4_keepClear_141 rfl (fun h_141 => ?_) (fun h_141 => ?_)
    · skip
      refine aw_ic (nI 0) dX4_keepClear_153 (by decide) ?_
      exact aw_iretz dX4_keepClear_154 (by decide) (by
          have e : i = c := by omega
          subst e
          refine ⟨?_, rfl⟩
          have ea : allB (fun x => !inn x || (endN wd 0 p x || begN wd 0 p x)) i = true := allB_iff.mpr hi2
          unfold kcN
          rw [ea]
          rw [hpe] at h_141
          skip
          simp [h_141]
          try rfl)
    · skip
      refine aw_iload dX4_keepClear_144 rfl ?_
      refine aw_if_eqB dX4_keepClear_146 rfl (fun h_146 => ?_) (fun h_146 => ?_)
      · skip
        refine aw_ic (nI 0) dX4_keepClear_153 (by decide) ?_
        exact aw_iretz dX4_keepClear_154 (by decide) (by
            have e : i = c := by omega
            subst e
            refine ⟨?_, rfl⟩
            have ea : allB (fun x => !inn x || (endN wd 0 p x || begN wd 0 p x)) i = true := allB_iff.mpr hi2
            unfold kcN
            rw [ea]
            rw [hpe] at h_141
            rw [hpb] at h_146
            simp [h_141, h_146]
            try rfl)
      · skip
        refine aw_ic (nI 1) dX4_keepClear_149 (by decide) ?_
        refine aw_goto dX4_keepClear_150 ?_
        exact aw_iretz dX4_keepClear_154 (by decide) (by
            have e : i = c := by omega
            subst e
            refine ⟨?_, rfl⟩
            have ea : allB (fun x => !inn x || (endN wd 0 p x || begN wd 0 p x)) i = true := allB_iff.mpr hi2
            unfold kcN
            rw [ea]
            rw [hpe] at h_141
            rw [hpb] at h_146
            simp [h_141, h_146]
            try rfl)
  · skip
    refine aw_aload_n dX4_keepClear_18 rfl ?_
    refine aw_iload dX4_keepClear_19 rfl ?_
    refine aw_iload_n dX4_keepClear_21 rfl ?_
    refine aw_iload_n dX4_keepClear_22 rfl ?_
    refine cqi3 dX4_keepClear_23 km4_71 ok_X4_isIn rfl rfl (by decide) k_172 (Nat.le_of_ble_eq_true rfl) ⟨Nat.le_of_ble_eq_true rfl, Nat.le_of_ble_eq_true rfl⟩ rfl rfl (ct_isIn (i := i) (by omega) t q) ?_
    refine aw_if_eqB dX4_keepClear_26 rfl (fun h_26 => ?_) (fun h_26 => ?_)
    · skip
      refine aw_inc (nI (i + 1)) dX4_keepClear_133 rfl (Nat.le_of_ble_eq_true rfl) (nI_1 i) ?_
      refine aw_goto dX4_keepClear_136 ?_
      have e0 : inn i = false := by simpa using (fun z => h_26 ((hin i (by omega)).mpr z))
      have e1 : anyB pe (i + 1) = anyB pe i := by show (anyB pe i || pe i) = _; rw [hpe]; simp [e0]
      have e2 : anyB pb (i + 1) = anyB pb i := by show (anyB pb i || pb i) = _; rw [hpb]; simp [e0]
      refine ih (nn - 1) _ _ (by omega) ⟨i + 1, by omega, _, _, fun j hj => ?_, rfl, by rw [e1, e2]; rfl⟩
      rcases Nat.lt_or_ge j i with z | z
      · exact hi2 j z
      · rw [show j = i by omega, e0]
        rfl
    · skip
      refine aw_aload_n dX4_keepClear_29 rfl ?_
      refine aw_iload dX4_keepClear_30 rfl ?_
      refine aw_iload dX4_keepClear_32 rfl ?_
      refine aw_ic (nI 1) dX4_keepClear_34 (by decide) ?_
      refine aw_icmp_neN dX4_keepClear_35 rfl rfl (by omega) (by omega) (fun h_35 => ?_) (fun h_35 => absurd h_35 (by omega))
      refine aw_ic (nI 3) dX4_keepClear_42 (by decide) ?_
      have b1 := (hR.2.2.2 i 3 (by omega) (by decide)).2
      have b2 := (hR.2.2.2 i 1 (by omega) (by decide)).2
      refine cqi2 dX4_keepClear_43 km4_39 ok_X5_number rfl rfl (by decide) k_4 (Nat.le_of_ble_eq_true rfl) ⟨Nat.le_of_ble_eq_true rfl, Nat.le_of_ble_eq_true rfl⟩ rfl rfl (ct_num hR (by omega) (by decide)) ?_
      refine aw_iload dX4_keepClear_46 rfl ?_
      refine aw_icmp_gtN dX4_keepClear_48 rfl rfl (by omega) (by omega) (fun h_48 => ?_) (fun h_48 => ?_)
      · skip
        refine aw_ic (nI 0) dX4_keepClear_55 (by decide) ?_
        refine aw_istore dX4_keepClear_56 (Nat.le_of_ble_eq_true rfl) ?_
        refine aw_aload_n dX4_keepClear_58 rfl ?_
        refine aw_iload dX4_keepClear_59 rfl ?_
        refine aw_iload dX4_keepClear_61 rfl ?_
        refine aw_ic (nI 1) dX4_keepClear_63 (by decide) ?_
        refine aw_icmp_neN dX4_keepClear_64 rfl rfl (by omega) (by omega) (fun h_64 => ?_) (fun h_64 => absurd h_64 (by omega))
        refine aw_ic (nI 1) dX4_keepClear_71 (by decide) ?_
        refine cqi2 dX4_keepClear_72 km4_39 ok_X5_number rfl rfl (by decide) k_4 (Nat.le_of_ble_eq_true rfl) ⟨Nat.le_of_ble_eq_true rfl, Nat.le_of_ble_eq_true rfl⟩ rfl rfl (ct_num hR (by omega) (by decide)) ?_
        refine aw_iload dX4_keepClear_75 rfl ?_
        refine aw_icmp_ltN dX4_keepClear_77 rfl rfl (by omega) (by omega) (fun h_77 => ?_) (fun h_77 => ?_)
        · skip
          refine aw_ic (nI 0) dX4_keepClear_84 (by decide) ?_
          refine aw_istore dX4_keepClear_85 (Nat.le_of_ble_eq_true rfl) ?_
          refine aw_iload dX4_keepClear_87 rfl ?_
          refine aw_if_ne dX4_keepClear_89 (fun h => absurd (by decide) h) (fun _ => ?_)
          refine aw_iload dX4_keepClear_92 rfl ?_
          refine aw_if_ne dX4_keepClear_94 (fun h => absurd (by decide) h) (fun _ => ?_)
          refine aw_ic (nI 0) dX4_keepClear_97 (by decide) ?_
          exact aw_iretz dX4_keepClear_98 (by decide) (by
              refine ⟨?_, rfl⟩
              have e0 : inn i = true := (hin i (by omega)).mp h_26
              have en : endN wd 0 p i = false := by unfold endN; simp; omega
              have eb : begN wd 0 p i = false := by unfold begN; simp; omega
              have ea : allB (fun x => !inn x || (endN wd 0 p x || begN wd 0 p x)) c = false := by
                cases hz : allB (fun x => !inn x || (endN wd 0 p x || begN wd 0 p x)) c with
                | false => rfl
                | true =>
                  have := allB_iff.mp hz i (by omega)
                  simp [e0, en, eb] at this
              unfold kcN
              rw [ea]
              rfl)
        · skip
          refine aw_ic (nI 1) dX4_keepClear_80 (by decide) ?_
          refine aw_goto dX4_keepClear_81 ?_
          refine aw_istore dX4_keepClear_85 (Nat.le_of_ble_eq_true rfl) ?_
          refine aw_iload dX4_keepClear_87 rfl ?_
          refine aw_if_ne dX4_keepClear_89 (fun h => absurd (by decide) h) (fun _ => ?_)
          refine aw_iload dX4_keepClear_92 rfl ?_
          refine aw_if_ne dX4_keepClear_94 (fun _ => ?_) (fun h => absurd h (by decide))
          refine aw_iload dX4_keepClear_99 rfl ?_
          refine aw_if_neB dX4_keepClear_101 rfl (fun h_101 => ?_) (fun h_101 => ?_)
          · skip
            refine aw_ic (nI 1) dX4_keepClear_109 (by decide) ?_
            refine aw_goto dX4_keepClear_110 ?_
            refine aw_istore dX4_keepClear_114 (Nat.le_of_ble_eq_true rfl) ?_
            refine aw_iload dX4_keepClear_116 rfl ?_
            refine aw_if_neB dX4_keepClear_118 rfl (fun h_118 => ?_) (fun h_118 => ?_)
            · skip
              refine aw_ic (nI 1) dX4_keepClear_126 (by decide) ?_
              refine aw_goto dX4_keepClear_127 ?_
              refine aw_istore dX4_keepClear_131 (Nat.le_of_ble_eq_true rfl) ?_
              refine aw_inc (nI (i + 1)) dX4_keepClear_133 rfl (Nat.le_of_ble_eq_true rfl) (nI_1 i) ?_
              refine aw_goto dX4_keepClear_136 ?_
              have e0 : inn i = true := (hin i (by omega)).mp h_26
              have en : endN wd 0 p i = false := by unfold endN; simp; omega
              have eb : begN wd 0 p i = true := by unfold begN; simp; omega
              have e1 : anyB pe (i + 1) = true := by show (anyB pe i || pe i) = _; rw [hpe] at h_101 ⊢; simp [e0, en] at h_101 ⊢; exact h_101
              have e2 : anyB pb (i + 1) = true := by show (anyB pb i || pb i) = _; rw [hpb] at h_118 ⊢; simp [e0, eb] at h_118 ⊢
              refine ih (nn - 1) _ _ (by omega) ⟨i + 1, by omega, _, _, fun j hj => ?_, rfl, by rw [e1, e2]; rfl⟩
              rcases Nat.lt_or_ge j i with z | z
              · exact hi2 j z
              · rw [show j = i by omega, en, eb]
                simp
            · skip
              refine aw_iload dX4_keepClear_121 rfl ?_
              refine aw_if_eq dX4_keepClear_123 (fun h => absurd h (by decide)) (fun _ => ?_)
              refine aw_ic (nI 1) dX4_keepClear_126 (by decide) ?_
              refine aw_goto dX4_keepClear_127 ?_
              refine aw_istore dX4_keepClear_131 (Nat.le_of_ble_eq_true rfl) ?_
              refine aw_inc (nI (i + 1)) dX4_keepClear_133 rfl (Nat.le_of_ble_eq_true rfl) (nI_1 i) ?_
              refine aw_goto dX4_keepClear_136 ?_
              have e0 : inn i = true := (hin i (by omega)).mp h_26
              have en : endN wd 0 p i = false := by unfold endN; simp; omega
              have eb : begN wd 0 p i = true := by unfold begN; simp; omega
              have e1 : anyB pe (i + 1) = true := by show (anyB pe i || pe i) = _; rw [hpe] at h_101 ⊢; simp [e0, en] at h_101 ⊢; exact h_101
              have e2 : anyB pb (i + 1) = true := by show (anyB pb i || pb i) = _; rw [hpb] at h_118 ⊢; simp [e0, eb] at h_118 ⊢
              refine ih (nn - 1) _ _ (by omega) ⟨i + 1, by omega, _, _, fun j hj => ?_, rfl, by rw [e1, e2]; rfl⟩
              rcases Nat.lt_or_ge j i with z | z
              · exact hi2 j z
              · rw [show j = i by omega, en, eb]
                simp
          · skip
            refine aw_iload dX4_keepClear_104 rfl ?_
            refine aw_if_eq dX4_keepClear_106 (fun _ => ?_) (fun h => absurd (by decide) h)
            refine aw_ic (nI 0) dX4_keepClear_113 (by decide) ?_
            refine aw_istore dX4_keepClear_114 (Nat.le_of_ble_eq_true rfl) ?_
            refine aw_iload dX4_keepClear_116 rfl ?_
            refine aw_if_neB dX4_keepClear_118 rfl (fun h_118 => ?_) (fun h_118 => ?_)
            · skip
              refine aw_ic (nI 1) dX4_keepClear_126 (by decide) ?_
              refine aw_goto dX4_keepClear_127 ?_
              refine aw_istore dX4_keepClear_131 (Nat.le_of_ble_eq_true rfl) ?_
              refine aw_inc (nI (i + 1)) dX4_keepClear_133 rfl (Nat.le_of_ble_eq_true rfl) (nI_1 i) ?_
              refine aw_goto dX4_keepClear_136 ?_
              have e0 : inn i = true := (hin i (by omega)).mp h_26
              have en : endN wd 0 p i = false := by unfold endN; simp; omega
              have eb : begN wd 0 p i = true := by unfold begN; simp; omega
              have e1 : anyB pe (i + 1) = false := by show (anyB pe i || pe i) = _; rw [hpe] at h_101 ⊢; simp [e0, en] at h_101 ⊢; exact h_101
              have e2 : anyB pb (i + 1) = true := by show (anyB pb i || pb i) = _; rw [hpb] at h_118 ⊢; simp [e0, eb] at h_118 ⊢
              refine ih (nn - 1) _ _ (by omega) ⟨i + 1, by omega, _, _, fun j hj => ?_, rfl, by rw [e1, e2]; rfl⟩
              rcases Nat.lt_or_ge j i with z | z
              · exact hi2 j z
              · rw [show j = i by omega, en, eb]
                simp
            · skip
              refine aw_iload dX4_keepClear_121 rfl ?_
              refine aw_if_eq dX4_keepClear_123 (fun h => absurd h (by decide)) (fun _ => ?_)
              refine aw_ic (nI 1) dX4_keepClear_126 (by decide) ?_
              refine aw_goto dX4_keepClear_127 ?_
              refine aw_istore dX4_keepClear_131 (Nat.le_of_ble_eq_true rfl) ?_
              refine aw_inc (nI (i + 1)) dX4_keepClear_133 rfl (Nat.le_of_ble_eq_true rfl) (nI_1 i) ?_
              refine aw_goto dX4_keepClear_136 ?_
              have e0 : inn i = true := (hin i (by omega)).mp h_26
              have en : endN wd 0 p i = false := by unfold endN; simp; omega
              have eb : begN wd 0 p i = true := by unfold begN; simp; omega
              have e1 : anyB pe (i + 1) = false := by show (anyB pe i || pe i) = _; rw [hpe] at h_101 ⊢; simp [e0, en] at h_101 ⊢; exact h_101
              have e2 : anyB pb (i + 1) = true := by show (anyB pb i || pb i) = _; rw [hpb] at h_118 ⊢; simp [e0, eb] at h_118 ⊢
              refine ih (nn - 1) _ _ (by omega) ⟨i + 1, by omega, _, _, fun j hj => ?_, rfl, by rw [e1, e2]; rfl⟩
              rcases Nat.lt_or_ge j i with z | z
              · exact hi2 j z
              · rw [show j = i by omega, en, eb]
                simp
      · skip
        refine aw_ic (nI 1) dX4_keepClear_51 (by decide) ?_
        refine aw_goto dX4_keepClear_52 ?_
        refine aw_istore dX4_keepClear_56 (Nat.le_of_ble_eq_true rfl) ?_
        refine aw_aload_n dX4_keepClear_58 rfl ?_
        refine aw_iload dX4_keepClear_59 rfl ?_
        refine aw_iload dX4_keepClear_61 rfl ?_
        refine aw_ic (nI 1) dX4_keepClear_63 (by decide) ?_
        refine aw_icmp_neN dX4_keepClear_64 rfl rfl (by omega) (by omega) (fun h_64 => ?_) (fun h_64 => absurd h_64 (by omega))
        refine aw_ic (nI 1) dX4_keepClear_71 (by decide) ?_
        refine cqi2 dX4_keepClear_72 km4_39 ok_X5_number rfl rfl (by decide) k_4 (Nat.le_of_ble_eq_true rfl) ⟨Nat.le_of_ble_eq_true rfl, Nat.le_of_ble_eq_true rfl⟩ rfl rfl (ct_num hR (by omega) (by decide)) ?_
        refine aw_iload dX4_keepClear_75 rfl ?_
        refine aw_icmp_ltN dX4_keepClear_77 rfl rfl (by omega) (by omega) (fun h_77 => ?_) (fun h_77 => ?_)
        · skip
          refine aw_ic (nI 0) dX4_keepClear_84 (by decide) ?_
          refine aw_istore dX4_keepClear_85 (Nat.le_of_ble_eq_true rfl) ?_
          refine aw_iload dX4_keepClear_87 rfl ?_
          refine aw_if_ne dX4_keepClear_89 (fun _ => ?_) (fun h => absurd h (by decide))
          refine aw_iload dX4_keepClear_99 rfl ?_
          refine aw_if_neB dX4_keepClear_101 rfl (fun h_101 => ?_) (fun h_101 => ?_)
          · skip
            refine aw_ic (nI 1) dX4_keepClear_109 (by decide) ?_
            refine aw_goto dX4_keepClear_110 ?_
            refine aw_istore dX4_keepClear_114 (Nat.le_of_ble_eq_true rfl) ?_
            refine aw_iload dX4_keepClear_116 rfl ?_
            refine aw_if_neB dX4_keepClear_118 rfl (fun h_118 => ?_) (fun h_118 => ?_)
            · skip
              refine aw_ic (nI 1) dX4_keepClear_126 (by decide) ?_
              refine aw_goto dX4_keepClear_127 ?_
              refine aw_istore dX4_keepClear_131 (Nat.le_of_ble_eq_true rfl) ?_
              refine aw_inc (nI (i + 1)) dX4_keepClear_133 rfl (Nat.le_of_ble_eq_true rfl) (nI_1 i) ?_
              refine aw_goto dX4_keepClear_136 ?_
              have e0 : inn i = true := (hin i (by omega)).mp h_26
              have en : endN wd 0 p i = true := by unfold endN; simp; omega
              have eb : begN wd 0 p i = false := by unfold begN; simp; omega
              have e1 : anyB pe (i + 1) = true := by show (anyB pe i || pe i) = _; rw [hpe] at h_101 ⊢; simp [e0, en] at h_101 ⊢
              have e2 : anyB pb (i + 1) = true := by show (anyB pb i || pb i) = _; rw [hpb] at h_118 ⊢; simp [e0, eb] at h_118 ⊢; exact h_118
              refine ih (nn - 1) _ _ (by omega) ⟨i + 1, by omega, _, _, fun j hj => ?_, rfl, by rw [e1, e2]; rfl⟩
              rcases Nat.lt_or_ge j i with z | z
              · exact hi2 j z
              · rw [show j = i by omega, en, eb]
                simp
            · skip
              refine aw_iload dX4_keepClear_121 rfl ?_
              refine aw_if_eq dX4_keepClear_123 (fun _ => ?_) (fun h => absurd (by decide) h)
              refine aw_ic (nI 0) dX4_keepClear_130 (by decide) ?_
              refine aw_istore dX4_keepClear_131 (Nat.le_of_ble_eq_true rfl) ?_
              refine aw_inc (nI (i + 1)) dX4_keepClear_133 rfl (Nat.le_of_ble_eq_true rfl) (nI_1 i) ?_
              refine aw_goto dX4_keepClear_136 ?_
              have e0 : inn i = true := (hin i (by omega)).mp h_26
              have en : endN wd 0 p i = true := by unfold endN; simp; omega
              have eb : begN wd 0 p i = false := by unfold begN; simp; omega
              have e1 : anyB pe (i + 1) = true := by show (anyB pe i || pe i) = _; rw [hpe] at h_101 ⊢; simp [e0, en] at h_101 ⊢
              have e2 : anyB pb (i + 1) = false := by show (anyB pb i || pb i) = _; rw [hpb] at h_118 ⊢; simp [e0, eb] at h_118 ⊢; exact h_118
              refine ih (nn - 1) _ _ (by omega) ⟨i + 1, by omega, _, _, fun j hj => ?_, rfl, by rw [e1, e2]; rfl⟩
              rcases Nat.lt_or_ge j i with z | z
              · exact hi2 j z
              · rw [show j = i by omega, en, eb]
                simp
          · skip
            refine aw_iload dX4_keepClear_104 rfl ?_
            refine aw_if_eq dX4_keepClear_106 (fun h => absurd h (by decide)) (fun _ => ?_)
            refine aw_ic (nI 1) dX4_keepClear_109 (by decide) ?_
            refine aw_goto dX4_keepClear_110 ?_
            refine aw_istore dX4_keepClear_114 (Nat.le_of_ble_eq_true rfl) ?_
            refine aw_iload dX4_keepClear_116 rfl ?_
            refine aw_if_neB dX4_keepClear_118 rfl (fun h_118 => ?_) (fun h_118 => ?_)
            · skip
              refine aw_ic (nI 1) dX4_keepClear_126 (by decide) ?_
              refine aw_goto dX4_keepClear_127 ?_
              refine aw_istore dX4_keepClear_131 (Nat.le_of_ble_eq_true rfl) ?_
              refine aw_inc (nI (i + 1)) dX4_keepClear_133 rfl (Nat.le_of_ble_eq_true rfl) (nI_1 i) ?_
              refine aw_goto dX4_keepClear_136 ?_
              have e0 : inn i = true := (hin i (by omega)).mp h_26
              have en : endN wd 0 p i = true := by unfold endN; simp; omega
              have eb : begN wd 0 p i = false := by unfold begN; simp; omega
              have e1 : anyB pe (i + 1) = true := by show (anyB pe i || pe i) = _; rw [hpe] at h_101 ⊢; simp [e0, en] at h_101 ⊢
              have e2 : anyB pb (i + 1) = true := by show (anyB pb i || pb i) = _; rw [hpb] at h_118 ⊢; simp [e0, eb] at h_118 ⊢; exact h_118
              refine ih (nn - 1) _ _ (by omega) ⟨i + 1, by omega, _, _, fun j hj => ?_, rfl, by rw [e1, e2]; rfl⟩
              rcases Nat.lt_or_ge j i with z | z
              · exact hi2 j z
              · rw [show j = i by omega, en, eb]
                simp
            · skip
              refine aw_iload dX4_keepClear_121 rfl ?_
              refine aw_if_eq dX4_keepClear_123 (fun _ => ?_) (fun h => absurd (by decide) h)
              refine aw_ic (nI 0) dX4_keepClear_130 (by decide) ?_
              refine aw_istore dX4_keepClear_131 (Nat.le_of_ble_eq_true rfl) ?_
              refine aw_inc (nI (i + 1)) dX4_keepClear_133 rfl (Nat.le_of_ble_eq_true rfl) (nI_1 i) ?_
              refine aw_goto dX4_keepClear_136 ?_
              have e0 : inn i = true := (hin i (by omega)).mp h_26
              have en : endN wd 0 p i = true := by unfold endN; simp; omega
              have eb : begN wd 0 p i = false := by unfold begN; simp; omega
              have e1 : anyB pe (i + 1) = true := by show (anyB pe i || pe i) = _; rw [hpe] at h_101 ⊢; simp [e0, en] at h_101 ⊢
              have e2 : anyB pb (i + 1) = false := by show (anyB pb i || pb i) = _; rw [hpb] at h_118 ⊢; simp [e0, eb] at h_118 ⊢; exact h_118
              refine ih (nn - 1) _ _ (by omega) ⟨i + 1, by omega, _, _, fun j hj => ?_, rfl, by rw [e1, e2]; rfl⟩
              rcases Nat.lt_or_ge j i with z | z
              · exact hi2 j z
              · rw [show j = i by omega, en, eb]
                simp
        · skip
          refine aw_ic (nI 1) dX4_keepClear_80 (by decide) ?_
          refine aw_goto dX4_keepClear_81 ?_
          refine aw_istore dX4_keepClear_85 (Nat.le_of_ble_eq_true rfl) ?_
          refine aw_iload dX4_keepClear_87 rfl ?_
          refine aw_if_ne dX4_keepClear_89 (fun _ => ?_) (fun h => absurd h (by decide))
          refine aw_iload dX4_keepClear_99 rfl ?_
          refine aw_if_neB dX4_keepClear_101 rfl (fun h_101 => ?_) (fun h_101 => ?_)
          · skip
            refine aw_ic (nI 1) dX4_keepClear_109 (by decide) ?_
            refine aw_goto dX4_keepClear_110 ?_
            refine aw_istore dX4_keepClear_114 (Nat.le_of_ble_eq_true rfl) ?_
            refine aw_iload dX4_keepClear_116 rfl ?_
            refine aw_if_neB dX4_keepClear_118 rfl (fun h_118 => ?_) (fun h_118 => ?_)
            · skip
              refine aw_ic (nI 1) dX4_keepClear_126 (by decide) ?_
              refine aw_goto dX4_keepClear_127 ?_
              refine aw_istore dX4_keepClear_131 (Nat.le_of_ble_eq_true rfl) ?_
              refine aw_inc (nI (i + 1)) dX4_keepClear_133 rfl (Nat.le_of_ble_eq_true rfl) (nI_1 i) ?_
              refine aw_goto dX4_keepClear_136 ?_
              have e0 : inn i = true := (hin i (by omega)).mp h_26
              have en : endN wd 0 p i = true := by unfold endN; simp; omega
              have eb : begN wd 0 p i = true := by unfold begN; simp; omega
              have e1 : anyB pe (i + 1) = true := by show (anyB pe i || pe i) = _; rw [hpe] at h_101 ⊢; simp [e0, en] at h_101 ⊢
              have e2 : anyB pb (i + 1) = true := by show (anyB pb i || pb i) = _; rw [hpb] at h_118 ⊢; simp [e0, eb] at h_118 ⊢
              refine ih (nn - 1) _ _ (by omega) ⟨i + 1, by omega, _, _, fun j hj => ?_, rfl, by rw [e1, e2]; rfl⟩
              rcases Nat.lt_or_ge j i with z | z
              · exact hi2 j z
              · rw [show j = i by omega, en, eb]
                simp
            · skip
              refine aw_iload dX4_keepClear_121 rfl ?_
              refine aw_if_eq dX4_keepClear_123 (fun h => absurd h (by decide)) (fun _ => ?_)
              refine aw_ic (nI 1) dX4_keepClear_126 (by decide) ?_
              refine aw_goto dX4_keepClear_127 ?_
              refine aw_istore dX4_keepClear_131 (Nat.le_of_ble_eq_true rfl) ?_
              refine aw_inc (nI (i + 1)) dX4_keepClear_133 rfl (Nat.le_of_ble_eq_true rfl) (nI_1 i) ?_
              refine aw_goto dX4_keepClear_136 ?_
              have e0 : inn i = true := (hin i (by omega)).mp h_26
              have en : endN wd 0 p i = true := by unfold endN; simp; omega
              have eb : begN wd 0 p i = true := by unfold begN; simp; omega
              have e1 : anyB pe (i + 1) = true := by show (anyB pe i || pe i) = _; rw [hpe] at h_101 ⊢; simp [e0, en] at h_101 ⊢
              have e2 : anyB pb (i + 1) = true := by show (anyB pb i || pb i) = _; rw [hpb] at h_118 ⊢; simp [e0, eb] at h_118 ⊢
              refine ih (nn - 1) _ _ (by omega) ⟨i + 1, by omega, _, _, fun j hj => ?_, rfl, by rw [e1, e2]; rfl⟩
              rcases Nat.lt_or_ge j i with z | z
              · exact hi2 j z
              · rw [show j = i by omega, en, eb]
                simp
          · skip
            refine aw_iload dX4_keepClear_104 rfl ?_
            refine aw_if_eq dX4_keepClear_106 (fun h => absurd h (by decide)) (fun _ => ?_)
            refine aw_ic (nI 1) dX4_keepClear_109 (by decide) ?_
            refine aw_goto dX4_keepClear_110 ?_
            refine aw_istore dX4_keepClear_114 (Nat.le_of_ble_eq_true rfl) ?_
            refine aw_iload dX4_keepClear_116 rfl ?_
            refine aw_if_neB dX4_keepClear_118 rfl (fun h_118 => ?_) (fun h_118 => ?_)
            · skip
              refine aw_ic (nI 1) dX4_keepClear_126 (by decide) ?_
              refine aw_goto dX4_keepClear_127 ?_
              refine aw_istore dX4_keepClear_131 (Nat.le_of_ble_eq_true rfl) ?_
              refine aw_inc (nI (i + 1)) dX4_keepClear_133 rfl (Nat.le_of_ble_eq_true rfl) (nI_1 i) ?_
              refine aw_goto dX4_keepClear_136 ?_
              have e0 : inn i = true := (hin i (by omega)).mp h_26
              have en : endN wd 0 p i = true := by unfold endN; simp; omega
              have eb : begN wd 0 p i = true := by unfold begN; simp; omega
              have e1 : anyB pe (i + 1) = true := by show (anyB pe i || pe i) = _; rw [hpe] at h_101 ⊢; simp [e0, en] at h_101 ⊢
              have e2 : anyB pb (i + 1) = true := by show (anyB pb i || pb i) = _; rw [hpb] at h_118 ⊢; simp [e0, eb] at h_118 ⊢
              refine ih (nn - 1) _ _ (by omega) ⟨i + 1, by omega, _, _, fun j hj => ?_, rfl, by rw [e1, e2]; rfl⟩
              rcases Nat.lt_or_ge j i with z | z
              · exact hi2 j z
              · rw [show j = i by omega, en, eb]
                simp
            · skip
              refine aw_iload dX4_keepClear_121 rfl ?_
              refine aw_if_eq dX4_keepClear_123 (fun h => absurd h (by decide)) (fun _ => ?_)
              refine aw_ic (nI 1) dX4_keepClear_126 (by decide) ?_
              refine aw_goto dX4_keepClear_127 ?_
              refine aw_istore dX4_keepClear_131 (Nat.le_of_ble_eq_true rfl) ?_
              refine aw_inc (nI (i + 1)) dX4_keepClear_133 rfl (Nat.le_of_ble_eq_true rfl) (nI_1 i) ?_
              refine aw_goto dX4_keepClear_136 ?_
              have e0 : inn i = true := (hin i (by omega)).mp h_26
              have en : endN wd 0 p i = true := by unfold endN; simp; omega
              have eb : begN wd 0 p i = true := by unfold begN; simp; omega
              have e1 : anyB pe (i + 1) = true := by show (anyB pe i || pe i) = _; rw [hpe] at h_101 ⊢; simp [e0, en] at h_101 ⊢
              have e2 : anyB pb (i + 1) = true := by show (anyB pb i || pb i) = _; rw [hpb] at h_118 ⊢; simp [e0, eb] at h_118 ⊢
              refine ih (nn - 1) _ _ (by omega) ⟨i + 1, by omega, _, _, fun j hj => ?_, rfl, by rw [e1, e2]; rfl⟩
              rcases Nat.lt_or_ge j i with z | z
              · exact hi2 j z
              · rw [show j = i by omega, en, eb]
                simp

set_option maxHeartbeats 4000000 in
set_option maxRecDepth 100000 in
theorem ct_keepClear1 {g : GG} {σ : SG} {c p : Nat} {wd : Nat → Nat → Nat} {inn : Nat → Bool} (hR : RowN σ 4 c wd) (hc : σ.1 131 172 = nI c) (hc20 : c ≤ 20) (hp : p ≤ 99) (t q : Int32) (hin : ∀ x, x < c → ((σ.2.1 173 x = t ∧ σ.2.1 174 x = q) ↔ inn x = true)) : Cti g yX4_keepClear cX4_keepClear 11 (some .boolean) (rmm 1 23) [.ref (ad g 172), .ref (ad g 4), .int t, .int q, .int (nI 1), .int (nI p)] σ (fun r σ' => r = (if kcN wd inn c 1 p = true then 1 else 0) ∧ σ' = σ) := by
  refine ct_of (own := RX4) (lv := [some (.ref (ad g 172)), some (.ref (ad g 4)), some (.int t), some (.int q), some (.int (nI 1)), some (.int (nI p)), none, none, none, none, none]) rfl (by decide) (Nat.le_of_ble_eq_true rfl) (by intro u hu; simp only [List.mem_cons, List.not_mem_nil, or_false] at hu; rcases hu with rfl | rfl | rfl | rfl | rfl | rfl <;> rfl) (lv_ok [.ref (ad g 172), .ref (ad g 4), .int t, .int q, .int (nI 1), .int (nI p)] 5) ?_
  obtain ⟨pe, hpe⟩ : ∃ pe, pe = (fun x => inn x && endN wd 1 p x) := ⟨_, rfl⟩
  obtain ⟨pb, hpb⟩ : ∃ pb, pb = (fun x => inn x && begN wd 1 p x) := ⟨_, rfl⟩
  refine aw_ic (nI 0) dX4_keepClear_0 (by decide) ?_
  refine aw_istore dX4_keepClear_1 (Nat.le_of_ble_eq_true rfl) ?_
  refine aw_ic (nI 0) dX4_keepClear_3 (by decide) ?_
  refine aw_istore dX4_keepClear_4 (Nat.le_of_ble_eq_true rfl) ?_
  refine aw_ic (nI 0) dX4_keepClear_6 (by decide) ?_
  refine aw_istore dX4_keepClear_7 (Nat.le_of_ble_eq_true rfl) ?_
  refine for_wf (fun nn σ' lv => ∃ i, nn + i = c ∧ ∃ x y, (∀ j, j < i → (!inn j || (endN wd 1 p j || begN wd 1 p j)) = true) ∧ σ' = σ ∧ lv = [some (.ref (ad g 172)), some (.ref (ad g 4)), some (.int t), some (.int q), some (.int (nI 1)), some (.int (nI p)), some (.int (if anyB pe i = true then 1 else 0)), some (.int (if anyB pb i = true then 1 else 0)), some (.int (nI i)), x, y]) ?_ c _ _ ⟨0, by omega, _, _, fun j h => absurd h (Nat.not_lt_zero j), rfl, rfl⟩
  rintro nn σ2 lv2 ⟨i, hn, x, y, hi2, rfl, rfl⟩ ih
  refine aw_iload dX4_keepClear_9 rfl ?_
  refine aw_aload_n dX4_keepClear_11 rfl ?_
  refine gf4_count dX4_keepClear_12 kf4_27 k_172 ?_
  refine aw_eq hc ?_
  refine aw_icmp_geN dX4_keepClear_15 rfl rfl (by omega) (by omega) (fun h_15 => ?_) (fun h_15 => ?_)
  · skip
    refine aw_iload dX4_keepClear_139 rfl ?_
    refine aw_if_eqB dX4_keepClear_141 rfl (fun h_141 => ?_) (fun h_141 => ?_)
    · skip
      refine aw_ic (nI 0) dX4_keepClear_153 (by decide) ?_
      exact aw_iretz dX4_keepClear_154 (by decide) (by
          have e : i = c := by omega
          subst e
          refine ⟨?_, rfl⟩
          have ea : allB (fun x => !inn x || (endN wd 1 p x || begN wd 1 p x)) i = true := allB_iff.mpr hi2
          unfold kcN
          rw [ea]
          rw [hpe] at h_141
          skip
          simp [h_141]
          try rfl)
    · skip
      refine aw_iload dX4_keepClear_144 rfl ?_
      refine aw_if_eqB dX4_keepClear_146 rfl (fun h_146 => ?_) (fun h_146 => ?_)
      · skip
        refine aw_ic (nI 0) dX4_keepClear_153 (by decide) ?_
        exact aw_iretz dX4_keepClear_154 (by decide) (by
            have e : i = c := by omega
            subst e
            refine ⟨?_, rfl⟩
            have ea : allB (fun x => !inn x || (endN wd 1 p x || begN wd 1 p x)) i = true := allB_iff.mpr hi2
            unfold kcN
            rw [ea]
            rw [hpe] at h_141
            rw [hpb] at h_146
            simp [h_141, h_146]
            try rfl)
      · skip
        refine aw_ic (nI 1) dX4_keepClear_149 (by decide) ?_
        refine aw_goto dX4_keepClear_150 ?_
        exact aw_iretz dX4_keepClear_154 (by decide) (by
            have e : i = c := by omega
            subst e
            refine ⟨?_, rfl⟩
            have ea : allB (fun x => !inn x || (endN wd 1 p x || begN wd 1 p x)) i = true := allB_iff.mpr hi2
            unfold kcN
            rw [ea]
            rw [hpe] at h_141
            rw [hpb] at h_146
            simp [h_141, h_146]
            try rfl)
  · skip
    refine aw_aload_n dX4_keepClear_18 rfl ?_
    refine aw_iload dX4_keepClear_19 rfl ?_
    refine aw_iload_n dX4_keepClear_21 rfl ?_
    refine aw_iload_n dX4_keepClear_22 rfl ?_
    refine cqi3 dX4_keepClear_23 km4_71 ok_X4_isIn rfl rfl (by decide) k_172 (Nat.le_of_ble_eq_true rfl) ⟨Nat.le_of_ble_eq_true rfl, Nat.le_of_ble_eq_true rfl⟩ rfl rfl (ct_isIn (i := i) (by omega) t q) ?_
    refine aw_if_eqB dX4_keepClear_26 rfl (fun h_26 => ?_) (fun h_26 => ?_)
    · skip
      refine aw_inc (nI (i + 1)) dX4_keepClear_133 rfl (Nat.le_of_ble_eq_true rfl) (nI_1 i) ?_
      refine aw_goto dX4_keepClear_136 ?_
      have e0 : inn i = false := by simpa using (fun z => h_26 ((hin i (by omega)).mpr z))
      have e1 : anyB pe (i + 1) = anyB pe i := by show (anyB pe i || pe i) = _; rw [hpe]; simp [e0]
      have e2 : anyB pb (i + 1) = anyB pb i := by show (anyB pb i || pb i) = _; rw [hpb]; simp [e0]
      refine ih (nn - 1) _ _ (by omega) ⟨i + 1, by omega, _, _, fun j hj => ?_, rfl, by rw [e1, e2]; rfl⟩
      rcases Nat.lt_or_ge j i with z | z
      · exact hi2 j z
      · rw [show j = i by omega, e0]
        rfl
    · skip
      refine aw_aload_n dX4_keepClear_29 rfl ?_
      refine aw_iload dX4_keepClear_30 rfl ?_
      refine aw_iload dX4_keepClear_32 rfl ?_
      refine aw_ic (nI 1) dX4_keepClear_34 (by decide) ?_
      refine aw_icmp_neN dX4_keepClear_35 rfl rfl (by omega) (by omega) (fun h_35 => absurd h_35 (by omega)) (fun h_35 => ?_)
      refine aw_ic (nI 2) dX4_keepClear_38 (by decide) ?_
      refine aw_goto dX4_keepClear_39 ?_
      have b1 := (hR.2.2.2 i 2 (by omega) (by decide)).2
      have b2 := (hR.2.2.2 i 0 (by omega) (by decide)).2
      refine cqi2 dX4_keepClear_43 km4_39 ok_X5_number rfl rfl (by decide) k_4 (Nat.le_of_ble_eq_true rfl) ⟨Nat.le_of_ble_eq_true rfl, Nat.le_of_ble_eq_true rfl⟩ rfl rfl (ct_num hR (by omega) (by decide)) ?_
      refine aw_iload dX4_keepClear_46 rfl ?_
      refine aw_icmp_gtN dX4_keepClear_48 rfl rfl (by omega) (by omega) (fun h_48 => ?_) (fun h_48 => ?_)
      · skip
        refine aw_ic (nI 0) dX4_keepClear_55 (by decide) ?_
        refine aw_istore dX4_keepClear_56 (Nat.le_of_ble_eq_true rfl) ?_
        refine aw_aload_n dX4_keepClear_58 rfl ?_
        refine aw_iload dX4_keepClear_59 rfl ?_
        refine aw_iload dX4_keepClear_61 rfl ?_
        refine aw_ic (nI 1) dX4_keepClear_63 (by decide) ?_
        refine aw_icmp_neN dX4_keepClear_64 rfl rfl (by omega) (by omega) (fun h_64 => absurd h_64 (by omega)) (fun h_64 => ?_)
        refine aw_ic (nI 0) dX4_keepClear_67 (by decide) ?_
        refine aw_goto dX4_keepClear_68 ?_
        refine cqi2 dX4_keepClear_72 km4_39 ok_X5_number rfl rfl (by decide) k_4 (Nat.le_of_ble_eq_true rfl) ⟨Nat.le_of_ble_eq_true rfl, Nat.le_of_ble_eq_true rfl⟩ rfl rfl (ct_num hR (by omega) (by decide)) ?_
        refine aw_iload dX4_keepClear_75 rfl ?_
        refine aw_icmp_ltN dX4_keepClear_77 rfl rfl (by omega) (by omega) (fun h_77 => ?_) (fun h_77 => ?_)
        · skip
          refine aw_ic (nI 0) dX4_keepClear_84 (by decide) ?_
          refine aw_istore dX4_keepClear_85 (Nat.le_of_ble_eq_true rfl) ?_
          refine aw_iload dX4_keepClear_87 rfl ?_
          refine aw_if_ne dX4_keepClear_89 (fun h => absurd (by decide) h) (fun _ => ?_)
          refine aw_iload dX4_keepClear_92 rfl ?_
          refine aw_if_ne dX4_keepClear_94 (fun h => absurd (by decide) h) (fun _ => ?_)
          refine aw_ic (nI 0) dX4_keepClear_97 (by decide) ?_
          exact aw_iretz dX4_keepClear_98 (by decide) (by
              refine ⟨?_, rfl⟩
              have e0 : inn i = true := (hin i (by omega)).mp h_26
              have en : endN wd 1 p i = false := by unfold endN; simp; omega
              have eb : begN wd 1 p i = false := by unfold begN; simp; omega
              have ea : allB (fun x => !inn x || (endN wd 1 p x || begN wd 1 p x)) c = false := by
                cases hz : allB (fun x => !inn x || (endN wd 1 p x || begN wd 1 p x)) c with
                | false => rfl
                | true =>
                  have := allB_iff.mp hz i (by omega)
                  simp [e0, en, eb] at this
              unfold kcN
              rw [ea]
              rfl)
        · skip
          refine aw_ic (nI 1) dX4_keepClear_80 (by decide) ?_
          refine aw_goto dX4_keepClear_81 ?_
          refine aw_istore dX4_keepClear_85 (Nat.le_of_ble_eq_true rfl) ?_
          refine aw_iload dX4_keepClear_87 rfl ?_
          refine aw_if_ne dX4_keepClear_89 (fun h => absurd (by decide) h) (fun _ => ?_)
          refine aw_iload dX4_keepClear_92 rfl ?_
          refine aw_if_ne dX4_keepClear_94 (fun _ => ?_) (fun h => absurd h (by decide))
          refine aw_iload dX4_keepClear_99 rfl ?_
          refine aw_if_neB dX4_keepClear_101 rfl (fun h_101 => ?_) (fun h_101 => ?_)
          · skip
            refine aw_ic (nI 1) dX4_keepClear_109 (by decide) ?_
            refine aw_goto dX4_keepClear_110 ?_
            refine aw_istore dX4_keepClear_114 (Nat.le_of_ble_eq_true rfl) ?_
            refine aw_iload dX4_keepClear_116 rfl ?_
            refine aw_if_neB dX4_keepClear_118 rfl (fun h_118 => ?_) (fun h_118 => ?_)
            · skip
              refine aw_ic (nI 1) dX4_keepClear_126 (by decide) ?_
              refine aw_goto dX4_keepClear_127 ?_
              refine aw_istore dX4_keepClear_131 (Nat.le_of_ble_eq_true rfl) ?_
              refine aw_inc (nI (i + 1)) dX4_keepClear_133 rfl (Nat.le_of_ble_eq_true rfl) (nI_1 i) ?_
              refine aw_goto dX4_keepClear_136 ?_
              have e0 : inn i = true := (hin i (by omega)).mp h_26
              have en : endN wd 1 p i = false := by unfold endN; simp; omega
              have eb : begN wd 1 p i = true := by unfold begN; simp; omega
              have e1 : anyB pe (i + 1) = true := by show (anyB pe i || pe i) = _; rw [hpe] at h_101 ⊢; simp [e0, en] at h_101 ⊢; exact h_101
              have e2 : anyB pb (i + 1) = true := by show (anyB pb i || pb i) = _; rw [hpb] at h_118 ⊢; simp [e0, eb] at h_118 ⊢
              refine ih (nn - 1) _ _ (by omega) ⟨i + 1, by omega, _, _, fun j hj => ?_, rfl, by rw [e1, e2]; rfl⟩
              rcases Nat.lt_or_ge j i with z | z
              · exact hi2 j z
              · rw [show j = i by omega, en, eb]
                simp
            · skip
              refine aw_iload dX4_keepClear_121 rfl ?_
              refine aw_if_eq dX4_keepClear_123 (fun h => absurd h (by decide)) (fun _ => ?_)
              refine aw_ic (nI 1) dX4_keepClear_126 (by decide) ?_
              refine aw_goto dX4_keepClear_127 ?_
              refine aw_istore dX4_keepClear_131 (Nat.le_of_ble_eq_true rfl) ?_
              refine aw_inc (nI (i + 1)) dX4_keepClear_133 rfl (Nat.le_of_ble_eq_true rfl) (nI_1 i) ?_
              refine aw_goto dX4_keepClear_136 ?_
              have e0 : inn i = true := (hin i (by omega)).mp h_26
              have en : endN wd 1 p i = false := by unfold endN; simp; omega
              have eb : begN wd 1 p i = true := by unfold begN; simp; omega
              have e1 : anyB pe (i + 1) = true := by show (anyB pe i || pe i) = _; rw [hpe] at h_101 ⊢; simp [e0, en] at h_101 ⊢; exact h_101
              have e2 : anyB pb (i + 1) = true := by show (anyB pb i || pb i) = _; rw [hpb] at h_118 ⊢; simp [e0, eb] at h_118 ⊢
              refine ih (nn - 1) _ _ (by omega) ⟨i + 1, by omega, _, _, fun j hj => ?_, rfl, by rw [e1, e2]; rfl⟩
              rcases Nat.lt_or_ge j i with z | z
              · exact hi2 j z
              · rw [show j = i by omega, en, eb]
                simp
          · skip
            refine aw_iload dX4_keepClear_104 rfl ?_
            refine aw_if_eq dX4_keepClear_106 (fun _ => ?_) (fun h => absurd (by decide) h)
            refine aw_ic (nI 0) dX4_keepClear_113 (by decide) ?_
            refine aw_istore dX4_keepClear_114 (Nat.le_of_ble_eq_true rfl) ?_
            refine aw_iload dX4_keepClear_116 rfl ?_
            refine aw_if_neB dX4_keepClear_118 rfl (fun h_118 => ?_) (fun h_118 => ?_)
            · skip
              refine aw_ic (nI 1) dX4_keepClear_126 (by decide) ?_
              refine aw_goto dX4_keepClear_127 ?_
              refine aw_istore dX4_keepClear_131 (Nat.le_of_ble_eq_true rfl) ?_
              refine aw_inc (nI (i + 1)) dX4_keepClear_133 rfl (Nat.le_of_ble_eq_true rfl) (nI_1 i) ?_
              refine aw_goto dX4_keepClear_136 ?_
              have e0 : inn i = true := (hin i (by omega)).mp h_26
              have en : endN wd 1 p i = false := by unfold endN; simp; omega
              have eb : begN wd 1 p i = true := by unfold begN; simp; omega
              have e1 : anyB pe (i + 1) = false := by show (anyB pe i || pe i) = _; rw [hpe] at h_101 ⊢; simp [e0, en] at h_101 ⊢; exact h_101
              have e2 : anyB pb (i + 1) = true := by show (anyB pb i || pb i) = _; rw [hpb] at h_118 ⊢; simp [e0, eb] at h_118 ⊢
              refine ih (nn - 1) _ _ (by omega) ⟨i + 1, by omega, _, _, fun j hj => ?_, rfl, by rw [e1, e2]; rfl⟩
              rcases Nat.lt_or_ge j i with z | z
              · exact hi2 j z
              · rw [show j = i by omega, en, eb]
                simp
            · skip
              refine aw_iload dX4_keepClear_121 rfl ?_
              refine aw_if_eq dX4_keepClear_123 (fun h => absurd h (by decide)) (fun _ => ?_)
              refine aw_ic (nI 1) dX4_keepClear_126 (by decide) ?_
              refine aw_goto dX4_keepClear_127 ?_
              refine aw_istore dX4_keepClear_131 (Nat.le_of_ble_eq_true rfl) ?_
              refine aw_inc (nI (i + 1)) dX4_keepClear_133 rfl (Nat.le_of_ble_eq_true rfl) (nI_1 i) ?_
              refine aw_goto dX4_keepClear_136 ?_
              have e0 : inn i = true := (hin i (by omega)).mp h_26
              have en : endN wd 1 p i = false := by unfold endN; simp; omega
              have eb : begN wd 1 p i = true := by unfold begN; simp; omega
              have e1 : anyB pe (i + 1) = false := by show (anyB pe i || pe i) = _; rw [hpe] at h_101 ⊢; simp [e0, en] at h_101 ⊢; exact h_101
              have e2 : anyB pb (i + 1) = true := by show (anyB pb i || pb i) = _; rw [hpb] at h_118 ⊢; simp [e0, eb] at h_118 ⊢
              refine ih (nn - 1) _ _ (by omega) ⟨i + 1, by omega, _, _, fun j hj => ?_, rfl, by rw [e1, e2]; rfl⟩
              rcases Nat.lt_or_ge j i with z | z
              · exact hi2 j z
              · rw [show j = i by omega, en, eb]
                simp
      · skip
        refine aw_ic (nI 1) dX4_keepClear_51 (by decide) ?_
        refine aw_goto dX4_keepClear_52 ?_
        refine aw_istore dX4_keepClear_56 (Nat.le_of_ble_eq_true rfl) ?_
        refine aw_aload_n dX4_keepClear_58 rfl ?_
        refine aw_iload dX4_keepClear_59 rfl ?_
        refine aw_iload dX4_keepClear_61 rfl ?_
        refine aw_ic (nI 1) dX4_keepClear_63 (by decide) ?_
        refine aw_icmp_neN dX4_keepClear_64 rfl rfl (by omega) (by omega) (fun h_64 => absurd h_64 (by omega)) (fun h_64 => ?_)
        refine aw_ic (nI 0) dX4_keepClear_67 (by decide) ?_
        refine aw_goto dX4_keepClear_68 ?_
        refine cqi2 dX4_keepClear_72 km4_39 ok_X5_number rfl rfl (by decide) k_4 (Nat.le_of_ble_eq_true rfl) ⟨Nat.le_of_ble_eq_true rfl, Nat.le_of_ble_eq_true rfl⟩ rfl rfl (ct_num hR (by omega) (by decide)) ?_
        refine aw_iload dX4_keepClear_75 rfl ?_
        refine aw_icmp_ltN dX4_keepClear_77 rfl rfl (by omega) (by omega) (fun h_77 => ?_) (fun h_77 => ?_)
        · skip
          refine aw_ic (nI 0) dX4_keepClear_84 (by decide) ?_
          refine aw_istore dX4_keepClear_85 (Nat.le_of_ble_eq_true rfl) ?_
          refine aw_iload dX4_keepClear_87 rfl ?_
          refine aw_if_ne dX4_keepClear_89 (fun _ => ?_) (fun h => absurd h (by decide))
          refine aw_iload dX4_keepClear_99 rfl ?_
          refine aw_if_neB dX4_keepClear_101 rfl (fun h_101 => ?_) (fun h_101 => ?_)
          · skip
            refine aw_ic (nI 1) dX4_keepClear_109 (by decide) ?_
            refine aw_goto dX4_keepClear_110 ?_
            refine aw_istore dX4_keepClear_114 (Nat.le_of_ble_eq_true rfl) ?_
            refine aw_iload dX4_keepClear_116 rfl ?_
            refine aw_if_neB dX4_keepClear_118 rfl (fun h_118 => ?_) (fun h_118 => ?_)
            · skip
              refine aw_ic (nI 1) dX4_keepClear_126 (by decide) ?_
              refine aw_goto dX4_keepClear_127 ?_
              refine aw_istore dX4_keepClear_131 (Nat.le_of_ble_eq_true rfl) ?_
              refine aw_inc (nI (i + 1)) dX4_keepClear_133 rfl (Nat.le_of_ble_eq_true rfl) (nI_1 i) ?_
              refine aw_goto dX4_keepClear_136 ?_
              have e0 : inn i = true := (hin i (by omega)).mp h_26
              have en : endN wd 1 p i = true := by unfold endN; simp; omega
              have eb : begN wd 1 p i = false := by unfold begN; simp; omega
              have e1 : anyB pe (i + 1) = true := by show (anyB pe i || pe i) = _; rw [hpe] at h_101 ⊢; simp [e0, en] at h_101 ⊢
              have e2 : anyB pb (i + 1) = true := by show (anyB pb i || pb i) = _; rw [hpb] at h_118 ⊢; simp [e0, eb] at h_118 ⊢; exact h_118
              refine ih (nn - 1) _ _ (by omega) ⟨i + 1, by omega, _, _, fun j hj => ?_, rfl, by rw [e1, e2]; rfl⟩
              rcases Nat.lt_or_ge j i with z | z
              · exact hi2 j z
              · rw [show j = i by omega, en, eb]
                simp
            · skip
              refine aw_iload dX4_keepClear_121 rfl ?_
              refine aw_if_eq dX4_keepClear_123 (fun _ => ?_) (fun h => absurd (by decide) h)
              refine aw_ic (nI 0) dX4_keepClear_130 (by decide) ?_
              refine aw_istore dX4_keepClear_131 (Nat.le_of_ble_eq_true rfl) ?_
              refine aw_inc (nI (i + 1)) dX4_keepClear_133 rfl (Nat.le_of_ble_eq_true rfl) (nI_1 i) ?_
              refine aw_goto dX4_keepClear_136 ?_
              have e0 : inn i = true := (hin i (by omega)).mp h_26
              have en : endN wd 1 p i = true := by unfold endN; simp; omega
              have eb : begN wd 1 p i = false := by unfold begN; simp; omega
              have e1 : anyB pe (i + 1) = true := by show (anyB pe i || pe i) = _; rw [hpe] at h_101 ⊢; simp [e0, en] at h_101 ⊢
              have e2 : anyB pb (i + 1) = false := by show (anyB pb i || pb i) = _; rw [hpb] at h_118 ⊢; simp [e0, eb] at h_118 ⊢; exact h_118
              refine ih (nn - 1) _ _ (by omega) ⟨i + 1, by omega, _, _, fun j hj => ?_, rfl, by rw [e1, e2]; rfl⟩
              rcases Nat.lt_or_ge j i with z | z
              · exact hi2 j z
              · rw [show j = i by omega, en, eb]
                simp
          · skip
            refine aw_iload dX4_keepClear_104 rfl ?_
            refine aw_if_eq dX4_keepClear_106 (fun h => absurd h (by decide)) (fun _ => ?_)
            refine aw_ic (nI 1) dX4_keepClear_109 (by decide) ?_
            refine aw_goto dX4_keepClear_110 ?_
            refine aw_istore dX4_keepClear_114 (Nat.le_of_ble_eq_true rfl) ?_
            refine aw_iload dX4_keepClear_116 rfl ?_
            refine aw_if_neB dX4_keepClear_118 rfl (fun h_118 => ?_) (fun h_118 => ?_)
            · skip
              refine aw_ic (nI 1) dX4_keepClear_126 (by decide) ?_
              refine aw_goto dX4_keepClear_127 ?_
              refine aw_istore dX4_keepClear_131 (Nat.le_of_ble_eq_true rfl) ?_
              refine aw_inc (nI (i + 1)) dX4_keepClear_133 rfl (Nat.le_of_ble_eq_true rfl) (nI_1 i) ?_
              refine aw_goto dX4_keepClear_136 ?_
              have e0 : inn i = true := (hin i (by omega)).mp h_26
              have en : endN wd 1 p i = true := by unfold endN; simp; omega
              have eb : begN wd 1 p i = false := by unfold begN; simp; omega
              have e1 : anyB pe (i + 1) = true := by show (anyB pe i || pe i) = _; rw [hpe] at h_101 ⊢; simp [e0, en] at h_101 ⊢
              have e2 : anyB pb (i + 1) = true := by show (anyB pb i || pb i) = _; rw [hpb] at h_118 ⊢; simp [e0, eb] at h_118 ⊢; exact h_118
              refine ih (nn - 1) _ _ (by omega) ⟨i + 1, by omega, _, _, fun j hj => ?_, rfl, by rw [e1, e2]; rfl⟩
              rcases Nat.lt_or_ge j i with z | z
              · exact hi2 j z
              · rw [show j = i by omega, en, eb]
                simp
            · skip
              refine aw_iload dX4_keepClear_121 rfl ?_
              refine aw_if_eq dX4_keepClear_123 (fun _ => ?_) (fun h => absurd (by decide) h)
              refine aw_ic (nI 0) dX4_keepClear_130 (by decide) ?_
              refine aw_istore dX4_keepClear_131 (Nat.le_of_ble_eq_true rfl) ?_
              refine aw_inc (nI (i + 1)) dX4_keepClear_133 rfl (Nat.le_of_ble_eq_true rfl) (nI_1 i) ?_
              refine aw_goto dX4_keepClear_136 ?_
              have e0 : inn i = true := (hin i (by omega)).mp h_26
              have en : endN wd 1 p i = true := by unfold endN; simp; omega
              have eb : begN wd 1 p i = false := by unfold begN; simp; omega
              have e1 : anyB pe (i + 1) = true := by show (anyB pe i || pe i) = _; rw [hpe] at h_101 ⊢; simp [e0, en] at h_101 ⊢
              have e2 : anyB pb (i + 1) = false := by show (anyB pb i || pb i) = _; rw [hpb] at h_118 ⊢; simp [e0, eb] at h_118 ⊢; exact h_118
              refine ih (nn - 1) _ _ (by omega) ⟨i + 1, by omega, _, _, fun j hj => ?_, rfl, by rw [e1, e2]; rfl⟩
              rcases Nat.lt_or_ge j i with z | z
              · exact hi2 j z
              · rw [show j = i by omega, en, eb]
                simp
        · skip
          refine aw_ic (nI 1) dX4_keepClear_80 (by decide) ?_
          refine aw_goto dX4_keepClear_81 ?_
          refine aw_istore dX4_keepClear_85 (Nat.le_of_ble_eq_true rfl) ?_
          refine aw_iload dX4_keepClear_87 rfl ?_
          refine aw_if_ne dX4_keepClear_89 (fun _ => ?_) (fun h => absurd h (by decide))
          refine aw_iload dX4_keepClear_99 rfl ?_
          refine aw_if_neB dX4_keepClear_101 rfl (fun h_101 => ?_) (fun h_101 => ?_)
          · skip
            refine aw_ic (nI 1) dX4_keepClear_109 (by decide) ?_
            refine aw_goto dX4_keepClear_110 ?_
            refine aw_istore dX4_keepClear_114 (Nat.le_of_ble_eq_true rfl) ?_
            refine aw_iload dX4_keepClear_116 rfl ?_
            refine aw_if_neB dX4_keepClear_118 rfl (fun h_118 => ?_) (fun h_118 => ?_)
            · skip
              refine aw_ic (nI 1) dX4_keepClear_126 (by decide) ?_
              refine aw_goto dX4_keepClear_127 ?_
              refine aw_istore dX4_keepClear_131 (Nat.le_of_ble_eq_true rfl) ?_
              refine aw_inc (nI (i + 1)) dX4_keepClear_133 rfl (Nat.le_of_ble_eq_true rfl) (nI_1 i) ?_
              refine aw_goto dX4_keepClear_136 ?_
              have e0 : inn i = true := (hin i (by omega)).mp h_26
              have en : endN wd 1 p i = true := by unfold endN; simp; omega
              have eb : begN wd 1 p i = true := by unfold begN; simp; omega
              have e1 : anyB pe (i + 1) = true := by show (anyB pe i || pe i) = _; rw [hpe] at h_101 ⊢; simp [e0, en] at h_101 ⊢
              have e2 : anyB pb (i + 1) = true := by show (anyB pb i || pb i) = _; rw [hpb] at h_118 ⊢; simp [e0, eb] at h_118 ⊢
              refine ih (nn - 1) _ _ (by omega) ⟨i + 1, by omega, _, _, fun j hj => ?_, rfl, by rw [e1, e2]; rfl⟩
              rcases Nat.lt_or_ge j i with z | z
              · exact hi2 j z
              · rw [show j = i by omega, en, eb]
                simp
            · skip
              refine aw_iload dX4_keepClear_121 rfl ?_
              refine aw_if_eq dX4_keepClear_123 (fun h => absurd h (by decide)) (fun _ => ?_)
              refine aw_ic (nI 1) dX4_keepClear_126 (by decide) ?_
              refine aw_goto dX4_keepClear_127 ?_
              refine aw_istore dX4_keepClear_131 (Nat.le_of_ble_eq_true rfl) ?_
              refine aw_inc (nI (i + 1)) dX4_keepClear_133 rfl (Nat.le_of_ble_eq_true rfl) (nI_1 i) ?_
              refine aw_goto dX4_keepClear_136 ?_
              have e0 : inn i = true := (hin i (by omega)).mp h_26
              have en : endN wd 1 p i = true := by unfold endN; simp; omega
              have eb : begN wd 1 p i = true := by unfold begN; simp; omega
              have e1 : anyB pe (i + 1) = true := by show (anyB pe i || pe i) = _; rw [hpe] at h_101 ⊢; simp [e0, en] at h_101 ⊢
              have e2 : anyB pb (i + 1) = true := by show (anyB pb i || pb i) = _; rw [hpb] at h_118 ⊢; simp [e0, eb] at h_118 ⊢
              refine ih (nn - 1) _ _ (by omega) ⟨i + 1, by omega, _, _, fun j hj => ?_, rfl, by rw [e1, e2]; rfl⟩
              rcases Nat.lt_or_ge j i with z | z
              · exact hi2 j z
              · rw [show j = i by omega, en, eb]
                simp
          · skip
            refine aw_iload dX4_keepClear_104 rfl ?_
            refine aw_if_eq dX4_keepClear_106 (fun h => absurd h (by decide)) (fun _ => ?_)
            refine aw_ic (nI 1) dX4_keepClear_109 (by decide) ?_
            refine aw_goto dX4_keepClear_110 ?_
            refine aw_istore dX4_keepClear_114 (Nat.le_of_ble_eq_true rfl) ?_
            refine aw_iload dX4_keepClear_116 rfl ?_
            refine aw_if_neB dX4_keepClear_118 rfl (fun h_118 => ?_) (fun h_118 => ?_)
            · skip
              refine aw_ic (nI 1) dX4_keepClear_126 (by decide) ?_
              refine aw_goto dX4_keepClear_127 ?_
              refine aw_istore dX4_keepClear_131 (Nat.le_of_ble_eq_true rfl) ?_
              refine aw_inc (nI (i + 1)) dX4_keepClear_133 rfl (Nat.le_of_ble_eq_true rfl) (nI_1 i) ?_
              refine aw_goto dX4_keepClear_136 ?_
              have e0 : inn i = true := (hin i (by omega)).mp h_26
              have en : endN wd 1 p i = true := by unfold endN; simp; omega
              have eb : begN wd 1 p i = true := by unfold begN; simp; omega
              have e1 : anyB pe (i + 1) = true := by show (anyB pe i || pe i) = _; rw [hpe] at h_101 ⊢; simp [e0, en] at h_101 ⊢
              have e2 : anyB pb (i + 1) = true := by show (anyB pb i || pb i) = _; rw [hpb] at h_118 ⊢; simp [e0, eb] at h_118 ⊢
              refine ih (nn - 1) _ _ (by omega) ⟨i + 1, by omega, _, _, fun j hj => ?_, rfl, by rw [e1, e2]; rfl⟩
              rcases Nat.lt_or_ge j i with z | z
              · exact hi2 j z
              · rw [show j = i by omega, en, eb]
                simp
            · skip
              refine aw_iload dX4_keepClear_121 rfl ?_
              refine aw_if_eq dX4_keepClear_123 (fun h => absurd h (by decide)) (fun _ => ?_)
              refine aw_ic (nI 1) dX4_keepClear_126 (by decide) ?_
              refine aw_goto dX4_keepClear_127 ?_
              refine aw_istore dX4_keepClear_131 (Nat.le_of_ble_eq_true rfl) ?_
              refine aw_inc (nI (i + 1)) dX4_keepClear_133 rfl (Nat.le_of_ble_eq_true rfl) (nI_1 i) ?_
              refine aw_goto dX4_keepClear_136 ?_
              have e0 : inn i = true := (hin i (by omega)).mp h_26
              have en : endN wd 1 p i = true := by unfold endN; simp; omega
              have eb : begN wd 1 p i = true := by unfold begN; simp; omega
              have e1 : anyB pe (i + 1) = true := by show (anyB pe i || pe i) = _; rw [hpe] at h_101 ⊢; simp [e0, en] at h_101 ⊢
              have e2 : anyB pb (i + 1) = true := by show (anyB pb i || pb i) = _; rw [hpb] at h_118 ⊢; simp [e0, eb] at h_118 ⊢
              refine ih (nn - 1) _ _ (by omega) ⟨i + 1, by omega, _, _, fun j hj => ?_, rfl, by rw [e1, e2]; rfl⟩
              rcases Nat.lt_or_ge j i with z | z
              · exact hi2 j z
              · rw [show j = i by omega, en, eb]
                simp

/-- what is missed: cell, way, line of each -/
def MiN (σ : SG) (o : Nat) (l : List (Nat × Nat × Nat)) : Prop := σ.1 265 o = nI l.length ∧ ∀ k e, l[k]? = some e → σ.2.1 (o + 16 + 1 + 0) k = nI e.1 ∧ σ.2.1 (o + 16 + 1 + 1) k = nI e.2.1 ∧ σ.2.1 (o + 16 + 1 + 2) k = nI e.2.2
set_option maxHeartbeats 4000000 in
set_option maxRecDepth 100000 in
theorem ct_addMissed {g : GG} {σ : SG} {o q w li : Nat} {l : List (Nat × Nat × Nat)} (hk : kd o = 8) (hM : MiN σ o l) (hroom : l.length < ln (o + 7)) : Ctv g yX8_addMissed cX8_addMissed 4 (rmm 0 0) [.ref (ad g o), .int (nI q), .int (nI w), .int (nI li)] σ (fun σ' => ∃ B, σ' = (uI σ.1 265 o (nI (l.length + 1)), B, σ.2.2) ∧ MiN (uI σ.1 265 o (nI (l.length + 1)), B, σ.2.2) o (l ++ [(q, w, li)]) ∧ ∀ p, (p < o + 17 ∨ o + 19 < p) → B p = σ.2.1 p) := by
  refine ct_of (own := RX8) (lv := [some (.ref (ad g o)), some (.int (nI q)), some (.int (nI w)), some (.int (nI li))]) rfl (by decide) (Nat.le_of_ble_eq_true rfl) (by intro u hu; simp only [List.mem_cons, List.not_mem_nil, or_false] at hu; rcases hu with rfl | rfl | rfl | rfl <;> rfl) (lv_ok [.ref (ad g o), .int (nI q), .int (nI w), .int (nI li)] 0) ?_
  have hl16 := (ln_t8 hk).2
  have hl7 := ln_t7 hk
  have e0 := (ln_t17 hk (show 0 < 3 by decide)).1
  have e1 := (ln_t17 hk (show 1 < 3 by decide)).1
  have e2 := (ln_t17 hk (show 2 < 3 by decide)).1
  have hm := hM.1
  refine aw_aload_n dX8_addMissed_0 rfl ?_
  refine gf8_missedCount dX8_addMissed_1 kf8_74 hk ?_
  refine aw_eq hm ?_
  refine aw_aload_n dX8_addMissed_4 rfl ?_
  refine gf8_missedLines dX8_addMissed_5 kf8_39 hk ?_
  refine aw_ic (nI 0) dX8_addMissed_8 (by decide) ?_
  refine aw_ald16 (0) dX8_addMissed_9 (kf_8_missedLines hk) (rfl) (by omega) ?_
  refine aw_alen dX8_addMissed_10 (ln_t17 hk (show 0 < 3 by decide)).2 (Or.inl rfl) ?_
  refine aw_icmp_geN dX8_addMissed_11 rfl rfl (by omega) (by omega) (fun h_11 => absurd h_11 (by omega)) (fun h_11 => ?_)
  refine aw_aload_n dX8_addMissed_14 rfl ?_
  refine gf8_missedLines dX8_addMissed_15 kf8_39 hk ?_
  refine aw_ic (nI 0) dX8_addMissed_18 (by decide) ?_
  refine aw_ald16 (0) dX8_addMissed_19 (kf_8_missedLines hk) (rfl) (by omega) ?_
  refine aw_aload_n dX8_addMissed_20 rfl ?_
  refine gf8_missedCount dX8_addMissed_21 kf8_74 hk ?_
  refine aw_eq hm ?_
  refine aw_iload_n dX8_addMissed_24 rfl ?_
  refine aw_sto (l.length) dX8_addMissed_25 (ln_t17 hk (show 0 < 3 by decide)).2 (rfl) (by omega) ?_
  refine aw_aload_n dX8_addMissed_26 rfl ?_
  refine gf8_missedLines dX8_addMissed_27 kf8_39 hk ?_
  refine aw_ic (nI 1) dX8_addMissed_30 (by decide) ?_
  refine aw_ald16 (1) dX8_addMissed_31 (kf_8_missedLines hk) (rfl) (by omega) ?_
  refine aw_aload_n dX8_addMissed_32 rfl ?_
  refine gf8_missedCount dX8_addMissed_33 kf8_74 hk ?_
  refine aw_eq hm ?_
  refine aw_iload_n dX8_addMissed_36 rfl ?_
  refine aw_sto (l.length) dX8_addMissed_37 (ln_t17 hk (show 1 < 3 by decide)).2 (rfl) (by omega) ?_
  refine aw_aload_n dX8_addMissed_38 rfl ?_
  refine gf8_missedLines dX8_addMissed_39 kf8_39 hk ?_
  refine aw_ic (nI 2) dX8_addMissed_42 (by decide) ?_
  refine aw_ald16 (2) dX8_addMissed_43 (kf_8_missedLines hk) (rfl) (by omega) ?_
  refine aw_aload_n dX8_addMissed_44 rfl ?_
  refine gf8_missedCount dX8_addMissed_45 kf8_74 hk ?_
  refine aw_eq hm ?_
  refine aw_iload_n dX8_addMissed_48 rfl ?_
  refine aw_sto (l.length) dX8_addMissed_49 (ln_t17 hk (show 2 < 3 by decide)).2 (rfl) (by omega) ?_
  refine aw_aload_n dX8_addMissed_50 rfl ?_
  refine aw_dup dX8_addMissed_51 rfl ?_
  refine gf8_missedCount dX8_addMissed_52 kf8_74 hk ?_
  refine aw_eq hm ?_
  refine aw_ic (nI 1) dX8_addMissed_55 (by decide) ?_
  refine aw_iadd dX8_addMissed_56 ?_
  refine aw_eq (nI_1 _) ?_
  refine pf8_missedCount dX8_addMissed_57 kf8_74 hk ?_
  exact aw_ret dX8_addMissed_60 (by
      refine ⟨_, rfl, ⟨by rw [List.length_append]; exact uI_s _ _ _ _, fun k e he => ?_⟩, fun p hp => ?_⟩
      · rw [List.getElem?_append] at he
        split at he
        · rename_i hlt
          obtain ⟨a, b, c⟩ := hM.2 k e he
          simp [uA, pk_un (show k ≠ l.length by omega)]
          exact ⟨a, b, c⟩
        · rename_i hge
          have hk0 : k - l.length = 0 := by
            have := (List.getElem?_eq_some_iff.mp he).1
            simp at this
            omega
          rw [hk0] at he
          have e9 : (q, w, li) = e := by simpa using he
          subst e9
          have ek : k = l.length := by omega
          subst ek
          simp [uA, pk_us]
      · simp only [uA]
        rw [if_neg (by omega), if_neg (by omega), if_neg (by omega)])

