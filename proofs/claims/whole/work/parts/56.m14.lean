theorem MsF.trans {I J L : Nat → Nat → Int32} (h : MsF I J) (k : MsF J L) : MsF I L := fun f q z => (k f q z).trans (h f q z)
theorem FnS.ms {σ : SG} {P : Pg} {J B : Nat → Nat → Int32} (h : FnS σ P) (hM : MsF σ.1 J) (hB : ∀ q, q ≠ 191 → B q = σ.2.1 q) : FnS (J, B, σ.2.2) P := by
  unfold FnS at h ⊢
  rw [show ((J, B, σ.2.2) : SG).1 = J from rfl, show ((J, B, σ.2.2) : SG).2.1 = B from rfl, hM 328 176 (by decide), hM 330 176 (by decide), hB 181 (by decide), hB 182 (by decide), hB 183 (by decide), hB 184 (by decide), hB 185 (by decide), hB 186 (by decide), hB 187 (by decide), hB 188 (by decide), hB 189 (by decide), hB 190 (by decide)]
  exact h
theorem PgS.ms {σ : SG} {P : Pg} {J B : Nat → Nat → Int32} (h : PgS σ P) (hM : MsF σ.1 J) (hB : ∀ q, q ≠ 191 → B q = σ.2.1 q) : PgS (J, B, σ.2.2) P := by
  unfold PgS at h ⊢
  rw [show ((J, B, σ.2.2) : SG).1 = J from rfl, show ((J, B, σ.2.2) : SG).2.1 = B from rfl, hM 321 176 (by decide), hM 323 176 (by decide), hB 177 (by decide), hB 178 (by decide), hB 179 (by decide)]
  exact h
theorem InvM.ms {σ : SG} {S : Sp} {J B : Nat → Nat → Int32} (h : InvM σ S) (hM : MsF σ.1 J) (hB : ∀ q, q ≠ 191 → B q = σ.2.1 q) : InvM (J, B, σ.2.2) S := by
  refine ⟨h.1.ms hM hB, h.2.1, fun k hk => (h.2.2.1 k hk).keep (hB 193 (by decide)) (hB 192 (by decide)), ?_⟩
  rcases h.2.2.2 with z | ⟨z, y⟩
  · exact Or.inl ((hM 325 176 (by decide)).trans z)
  · exact Or.inr ⟨(hM 325 176 (by decide)).trans z, y.ms hM hB⟩
theorem FrM.ms {σ σ1 : SG} {J B : Nat → Nat → Int32} (h : FrM σ σ1) (hM : MsF σ1.1 J) (hB : ∀ q, q ≠ 191 → B q = σ1.2.1 q) : FrM σ (J, B, σ1.2.2) := ⟨h.1, fun f q hq => (hM f q (by omega)).trans (h.2.1 f q hq), fun q hq => (hB q (by omega)).trans (h.2.2 q hq)⟩
theorem pCw_j {P : Pg} {t q j : Nat} (hj : j < 6) : pCw P t q j = gCv (pR P) (pM P) (rcP P) t q j := if_neg (by omega)
theorem pCw_5 {P : Pg} {t q : Nat} (hK : FOKs) (hV : PgV P) (ht : t < pT P) (hq : q < pCc P t) : pCw P t q 5 ≤ 2 := by
  obtain ⟨-, -, a1, a2, -⟩ := pB hK hV ht
  obtain ⟨ρ, hρ, hr, rfl⟩ := cnt_onto hq
  have e := (tcv_eq (rc := rcP P) (m := pM P) (R := pR P) (inT := pIn P t) a1 a2 hρ hr).2
  rw [pCw_j (by decide)]
  refine Nat.le_trans (Nat.le_of_eq e) ?_
  unfold kiN
  split
  · omega
  · split <;> omega
theorem pSp {P : Pg} {t q w : Nat} (hK : FOKs) (hV : PgV P) (ht : t < pT P) (hq : q < pCc P t) (hw : w < 2) : pCw P t q w + pCw P t q (2 + w) ≤ pN P t w - 1 ∧ 1 ≤ pCw P t q (2 + w) := by
  rw [pCw_j (by omega), pCw_j (by omega)]
  exact ((hK P hV).2.2.2 t ht).2.2.2.1 q w hq hw
theorem mis_b {P : Pg} {t i : Nat} (hK : FOKs) (hV : PgV P) (ht : t < pT P) (hi : i ≤ pCc P t) : (misC P.2.2.2.1 (pInn P t) P.2.2.1 (pPl P t) (pCw P t) i).length ≤ 121 := by
  have hT := pT_le hK hV
  have h1 := misC_le P.2.2.2.1 (pInn P t) P.2.2.1 (pPl P t) (pCw P t) i
  have h2 := misM_mono (pCw P t) hi
  have h3 : misM (pCw P t) (pCc P t) ≤ ln (51 + 1 + 20 * t + 7) := Nat.le_trans (Nat.le_of_eq (misM_cong (fun q j hj => pCw_j hj))) ((hK P hV).2.2.2 t ht).2.2.2.2.1
  have h4 := ln_t7 (k_tab (show t < 6 by omega))
  omega
theorem misC_s {wd : Nat → Nat → Nat} {inn : Nat → Nat → Bool} {c : Nat} {pl cv : Nat → Nat → Nat} {q : Nat} : misC wd inn c pl cv (q + 1) = if cv q 5 = 0 then (misC wd inn c pl cv q ++ misL (fun l => kcN wd (inn q) c 1 (pl 1 l)) q 1 (cv q 1 + 1) (cv q 3 - 1)) ++ misL (fun l => kcN wd (inn q) c 0 (pl 0 l)) q 0 (cv q 0 + 1) (cv q 2 - 1) else misC wd inn c pl cv q := rfl
set_option maxHeartbeats 4000000 in
set_option maxRecDepth 100000 in
theorem ctM_findMissed {g : GG} {σ : SG} {P : Pg} {t : Nat} {k : Int32} (hF : FnS σ P) (hPg : PgS σ P) (hK : FOKs) (hV : PgV P) (ht : t < pT P) : Ctv g yX10_findMissed cX10_findMissed 4 (rmm 3 75) [.ref (ad g 176), .int (nI t), .int k] σ (fun σ' => ∃ J, σ' = (J, σ.2.1, σ.2.2) ∧ MsF σ.1 J ∧ MsN J (pCF P t) k (pMis P t)) := by
  refine ct_of (own := RX10) (lv := [some (.ref (ad g 176)), some (.int (nI t)), some (.int k), none]) rfl (by decide) (Nat.le_of_ble_eq_true rfl) (by intro u hu; simp only [List.mem_cons, List.not_mem_nil, or_false] at hu; rcases hu with rfl | rfl | rfl <;> rfl) (lv_ok [.ref (ad g 176), .int (nI t), .int k] 1) ?_
  have hT6 := pT_le hK hV
  obtain ⟨f1, f2, f3, f4, f5, f6, f7, f8, f9, f10⟩ := id hF
  have hl186 := l_186
  have hff := pFF_le hK hV (show t + 1 ≤ pT P from ht)
  have hb2 := pCF_le P (t + 1)
  have hb3 : pCF P (t + 1) = pCF P t + pCc P t := rfl
  refine aw_aload_n dX10_findMissed_0 rfl ?_
  refine aw_ic (nI 0) dX10_findMissed_1 (by decide) ?_
  refine pf10_missedMany dX10_findMissed_2 kf10_211 k_176 ?_
  refine aw_aload_n dX10_findMissed_5 rfl ?_
  refine gf10_cellFrom dX10_findMissed_6 kf10_37 k_176 ?_
  refine aw_eqr (b := 186) rfl ?_
  refine aw_iload_n dX10_findMissed_9 rfl ?_
  refine aw_ld (t) dX10_findMissed_10 k_186 (rfl) (by omega) ?_
  refine aw_eq (f7 t (by omega)).2 ?_
  refine aw_istore_n dX10_findMissed_11 (Nat.le_of_ble_eq_true rfl) ?_
  refine for_ux (fun i σ' lv' => ∃ J, σ' = (J, σ.2.1, σ.2.2) ∧ MsF σ.1 J ∧ MsN J (pCF P t) k (misC P.2.2.2.1 (pInn P t) P.2.2.1 (pPl P t) (pCw P t) i) ∧ lv' = [some (.ref (ad g 176)), some (.int (nI t)), some (.int k), some (.int (nI (pCF P t + i)))]) (pCc P t) ?_ ?_ (0) _ _ (by omega) (⟨_, rfl, MsF.put (fun _ _ _ => rfl) (by decide) _, ⟨uI_s _ _ _ _, fun i e h => by cases h⟩, rfl⟩)
  · rintro i σ2 lv2 hi ⟨J, rfl, hM, hN, rfl⟩ ih
    have c5 := pCw_5 hK hV ht hi
    have s0 := pSp (w := 0) hK hV ht hi (by decide)
    have s1 := pSp (w := 1) hK hV ht hi (by decide)
    have hn0 := (pN_le (w := 0) hK hV ht (by decide)).1
    have hn1 := (pN_le (w := 1) hK hV ht (by decide)).1
    have hmb := mis_b hK hV ht (Nat.le_of_lt hi)
    have hl1 := misL_le (fun l => kcN P.2.2.2.1 (pInn P t i) P.2.2.1 1 (pPl P t 1 l)) i 1 (pCw P t i 1 + 1) (pCw P t i 3 - 1)
    have e23 : pCw P t i (2 + 1) = pCw P t i 3 := rfl
    have e20 : pCw P t i (2 + 0) = pCw P t i 2 := rfl
    by_cases hc : pCw P t i 5 = 0
    · skip
      refine aw_iload_n dX10_findMissed_12 rfl ?_
      refine aw_aload_n dX10_findMissed_13 rfl ?_
      refine gf10_cellFrom dX10_findMissed_14 kf10_37 k_176 ?_
      refine aw_eqr (b := 186) rfl ?_
      refine aw_iload_n dX10_findMissed_17 rfl ?_
      refine aw_ic (nI 1) dX10_findMissed_18 (by decide) ?_
      refine aw_iadd dX10_findMissed_19 ?_
      refine aw_eq (nI_add _ _) ?_
      refine aw_ld (t + 1) dX10_findMissed_20 k_186 (rfl) (by omega) ?_
      refine aw_eq (show _ = nI (pCF P t + pCc P t) from (f7 (t + 1) ht).2) ?_
      refine aw_icmp_geN dX10_findMissed_21 rfl rfl (by omega) (by omega) (fun h_21 => absurd h_21 (by omega)) (fun h_21 => ?_)
      refine aw_aload_n dX10_findMissed_24 rfl ?_
      refine aw_iload_n dX10_findMissed_25 rfl ?_
      refine aw_ic (nI 5) dX10_findMissed_26 (by decide) ?_
      refine cqi2 dX10_findMissed_27 km10_174 ok_X10_cellAt rfl rfl (by decide) k_176 (Nat.le_of_ble_eq_true rfl) ⟨Nat.le_of_ble_eq_true rfl, Nat.le_of_ble_eq_true rfl⟩ rfl rfl (ct_cellAt (r := pCF P t + i) (w := 5) (by omega)) ?_
      refine aw_eq (f9 t i 5 ht hi (by decide)) ?_
      refine aw_if_neN dX10_findMissed_30 rfl (by omega) (fun h_30 => absurd h_30 (by omega)) (fun h_30 => ?_)
      refine aw_aload_n dX10_findMissed_33 rfl ?_
      refine aw_iload_n dX10_findMissed_34 rfl ?_
      refine aw_iload_n dX10_findMissed_35 rfl ?_
      refine aw_ic (nI 1) dX10_findMissed_36 (by decide) ?_
      refine aw_iload_n dX10_findMissed_37 rfl ?_
      refine cvv4 dX10_findMissed_38 km10_223 ok_X10_missBy rfl rfl (by decide) k_176 (Nat.le_of_ble_eq_true rfl) ⟨Nat.le_of_ble_eq_true rfl, Nat.le_of_ble_eq_true rfl⟩ rfl rfl (ct_missBy (t := t) (q := i) (w := 1) (a := pCw P t i 1) (s := pCw P t i 3) (CF := pCF P t) (nw := P.2.2.1) (k := k) (l := misC P.2.2.2.1 (pInn P t) P.2.2.1 (pPl P t) (pCw P t) i) (pl := pPl P t 1) (wd := P.2.2.2.1) (inn := pInn P t i) (by omega) (by omega) (by decide) (f9 t i 1 ht hi (by decide)) (f9 t i 3 ht hi (by decide)) s1.2 (by omega) (fun l _ hl => (f6 t 1 ht (by decide)).2 l (by omega)) (fun l => lnS_b (hK P hV).2.1 _ _ _) ((hM 323 176 (by decide)).trans hPg.2.2.1) hV.2.2.1 hPg.2.2.2.1 hV.2.2.2.2.2.2.2 (wd_p (hF.ms hM (fun q _ => rfl)) hK hV ht hi) hN (by omega)) ?_
      intro σ1 hp_38
      obtain ⟨J1, rfl, hM1, hN1⟩ := hp_38
      replace hM1 := hM.trans hM1
      try dsimp only
      refine aw_aload_n dX10_findMissed_41 rfl ?_
      refine aw_iload_n dX10_findMissed_42 rfl ?_
      refine aw_iload_n dX10_findMissed_43 rfl ?_
      refine aw_ic (nI 0) dX10_findMissed_44 (by decide) ?_
      refine aw_iload_n dX10_findMissed_45 rfl ?_
      refine cvv4 dX10_findMissed_46 km10_223 ok_X10_missBy rfl rfl (by decide) k_176 (Nat.le_of_ble_eq_true rfl) ⟨Nat.le_of_ble_eq_true rfl, Nat.le_of_ble_eq_true rfl⟩ rfl rfl (ct_missBy (t := t) (q := i) (w := 0) (a := pCw P t i 0) (s := pCw P t i 2) (CF := pCF P t) (nw := P.2.2.1) (k := k) (l := (misC P.2.2.2.1 (pInn P t) P.2.2.1 (pPl P t) (pCw P t) i ++ misL (fun l => kcN P.2.2.2.1 (pInn P t i) P.2.2.1 1 (pPl P t 1 l)) i 1 (pCw P t i 1 + 1) (pCw P t i 3 - 1))) (pl := pPl P t 0) (wd := P.2.2.2.1) (inn := pInn P t i) (by omega) (by omega) (by decide) (f9 t i 0 ht hi (by decide)) (f9 t i 2 ht hi (by decide)) s0.2 (by omega) (fun l _ hl => (f6 t 0 ht (by decide)).2 l (by omega)) (fun l => lnS_b (hK P hV).2.1 _ _ _) ((hM1 323 176 (by decide)).trans hPg.2.2.1) hV.2.2.1 hPg.2.2.2.1 hV.2.2.2.2.2.2.2 (wd_p (hF.ms hM1 (fun q _ => rfl)) hK hV ht hi) hN1 (by rw [List.length_append]; omega)) ?_
      intro σ1 hp_46
      obtain ⟨J2, rfl, hM2, hN2⟩ := hp_46
      replace hM2 := hM1.trans hM2
      try dsimp only
      refine aw_inc (nI (pCF P t + (i + 1))) dX10_findMissed_49 rfl (Nat.le_of_ble_eq_true rfl) (nI_1 _) ?_
      refine aw_goto dX10_findMissed_52 ?_
      exact ih _ _ ⟨J2, rfl, hM2, by rw [misC_s, if_pos hc]; exact hN2, rfl⟩
    · skip
      refine aw_iload_n dX10_findMissed_12 rfl ?_
      refine aw_aload_n dX10_findMissed_13 rfl ?_
      refine gf10_cellFrom dX10_findMissed_14 kf10_37 k_176 ?_
      refine aw_eqr (b := 186) rfl ?_
      refine aw_iload_n dX10_findMissed_17 rfl ?_
      refine aw_ic (nI 1) dX10_findMissed_18 (by decide) ?_
      refine aw_iadd dX10_findMissed_19 ?_
      refine aw_eq (nI_add _ _) ?_
      refine aw_ld (t + 1) dX10_findMissed_20 k_186 (rfl) (by omega) ?_
      refine aw_eq (show _ = nI (pCF P t + pCc P t) from (f7 (t + 1) ht).2) ?_
      refine aw_icmp_geN dX10_findMissed_21 rfl rfl (by omega) (by omega) (fun h_21 => absurd h_21 (by omega)) (fun h_21 => ?_)
      refine aw_aload_n dX10_findMissed_24 rfl ?_
      refine aw_iload_n dX10_findMissed_25 rfl ?_
      refine aw_ic (nI 5) dX10_findMissed_26 (by decide) ?_
      refine cqi2 dX10_findMissed_27 km10_174 ok_X10_cellAt rfl rfl (by decide) k_176 (Nat.le_of_ble_eq_true rfl) ⟨Nat.le_of_ble_eq_true rfl, Nat.le_of_ble_eq_true rfl⟩ rfl rfl (ct_cellAt (r := pCF P t + i) (w := 5) (by omega)) ?_
      refine aw_eq (f9 t i 5 ht hi (by decide)) ?_
      refine aw_if_neN dX10_findMissed_30 rfl (by omega) (fun h_30 => ?_) (fun h_30 => absurd h_30 (by omega))
      refine aw_inc (nI (pCF P t + (i + 1))) dX10_findMissed_49 rfl (Nat.le_of_ble_eq_true rfl) (nI_1 _) ?_
      refine aw_goto dX10_findMissed_52 ?_
      exact ih _ _ ⟨J, rfl, hM, by rw [misC_s, if_neg hc]; exact hN, rfl⟩
  · rintro σ2 lv2 ⟨J, rfl, hM, hN, rfl⟩
    refine aw_iload_n dX10_findMissed_12 rfl ?_
    refine aw_aload_n dX10_findMissed_13 rfl ?_
    refine gf10_cellFrom dX10_findMissed_14 kf10_37 k_176 ?_
    refine aw_eqr (b := 186) rfl ?_
    refine aw_iload_n dX10_findMissed_17 rfl ?_
    refine aw_ic (nI 1) dX10_findMissed_18 (by decide) ?_
    refine aw_iadd dX10_findMissed_19 ?_
    refine aw_eq (nI_add _ _) ?_
    refine aw_ld (t + 1) dX10_findMissed_20 k_186 (rfl) (by omega) ?_
    refine aw_eq (show _ = nI (pCF P t + pCc P t) from (f7 (t + 1) ht).2) ?_
    refine aw_icmp_geN dX10_findMissed_21 rfl rfl (by omega) (by omega) (fun h_21 => ?_) (fun h_21 => absurd h_21 (by omega))
    exact aw_ret dX10_findMissed_55 (⟨J, rfl, hM, hN⟩)

set_option maxHeartbeats 4000000 in
set_option maxRecDepth 100000 in
theorem ctM_missed {g : GG} {σ : SG} {S : Sp} (hK : FOKs) (hI : InvM σ S) (x k what : Int32) : Cti g yX10_missed cX10_missed 4 (some .int) (rmm 7 170) [.ref (ad g 176), .int x, .int k, .int what] σ (PoM σ (aMissed S.1 x k what, S)) := by
  refine ct_of (own := RX10) (lv := [some (.ref (ad g 176)), some (.int x), some (.int k), some (.int what)]) rfl (by decide) (Nat.le_of_ble_eq_true rfl) (by intro u hu; simp only [List.mem_cons, List.not_mem_nil, or_false] at hu; rcases hu with rfl | rfl | rfl | rfl <;> rfl) (lv_ok [.ref (ad g 176), .int x, .int k, .int what] 0) ?_
  have hV := hI.2.1
  have hT6 := pT_le hK hV
  have hM24 := pM_le hV
  have hc24 := hV.1
  have hw20 := hV.2.2.1
  have hl186 := l_186
  rcases ix_cases x (n := pT S.1) (by omega) with ⟨h, e⟩ | ⟨t, ht, rfl, e⟩
  · skip
    refine aw_aload_n dX10_missed_0 rfl ?_
    refine aw_iload_n dX10_missed_1 rfl ?_
    refine cvi1 dX10_missed_2 km10_198 ok_X10_isTable rfl rfl (by decide) k_176 (Nat.le_of_ble_eq_true rfl) ⟨Nat.le_of_ble_eq_true rfl, Nat.le_of_ble_eq_true rfl⟩ rfl rfl (ct_isTable hK hI _) ?_
    intro r9 σ1 hp_t
    obtain ⟨rfl, hI1, hF, hFr⟩ := hp_t
    obtain ⟨f1, f2, f3, f4, f5, f6, f7, f8, f9, f10⟩ := id hF
    have G := FnS.g.mp hF
    obtain ⟨⟨hc1, hp1, hcw1, hw1, hs01, hs11, hs21⟩, -, -, -⟩ := id hI1
    refine aw_if_neB dX10_missed_5 rfl (fun h_5 => absurd h_5 (ix_no rfl h)) (fun h_5 => ?_)
    refine aw_ic (-1) dX10_missed_8 (by decide) ?_
    exact aw_ireti dX10_missed_9 (PoM.mk (by unfold aMissed; rw [e]) hI1 hFr)
  · skip
    have hlen : (pMis S.1 t).length ≤ 121 := mis_b hK hV ht (Nat.le_refl _)
    rcases ix_cases what (n := 3) (by decide) with ⟨h, e2⟩ | ⟨w, hw, rfl, e2⟩
    · skip
      refine aw_aload_n dX10_missed_0 rfl ?_
      refine aw_iload_n dX10_missed_1 rfl ?_
      refine cvi1 dX10_missed_2 km10_198 ok_X10_isTable rfl rfl (by decide) k_176 (Nat.le_of_ble_eq_true rfl) ⟨Nat.le_of_ble_eq_true rfl, Nat.le_of_ble_eq_true rfl⟩ rfl rfl (ct_isTable hK hI _) ?_
      intro r9 σ1 hp_t
      obtain ⟨rfl, hI1, hF, hFr⟩ := hp_t
      obtain ⟨f1, f2, f3, f4, f5, f6, f7, f8, f9, f10⟩ := id hF
      have G := FnS.g.mp hF
      obtain ⟨⟨hc1, hp1, hcw1, hw1, hs01, hs11, hs21⟩, -, -, -⟩ := id hI1
      refine aw_if_neB dX10_missed_5 rfl (fun h_5 => ?_) (fun h_5 => absurd h_5 (not_not_intro (ix_yes rfl ht (by omega))))
      refine aw_iload_n dX10_missed_10 rfl ?_
      refine aw_i2l dX10_missed_11 ?_
      refine aw_lconst dX10_missed_12 ?_
      refine aw_ldc2 dX10_missed_13 kl10_62 ?_
      refine csq3 dX10_missed_16 km10_64 ok_X10_in (Nat.le_of_ble_eq_true rfl) ⟨Nat.le_of_ble_eq_true rfl, Nat.le_of_ble_eq_true rfl⟩ rfl rfl (ct_inN _ 3 (by decide) (by decide) (by decide)) ?_
      refine aw_if_neB dX10_missed_19 rfl (fun h_19 => absurd h_19 (ix_no rfl h)) (fun h_19 => ?_)
      refine aw_bi (-2) dX10_missed_22 (by decide) ?_
      exact aw_ireti dX10_missed_24 (PoM.mk (by unfold aMissed; rw [e]; dsimp only; rw [e2]) hI1 hFr)
    · skip
      rcases ix_cases k (n := (pMis S.1 t).length) (by omega) with ⟨h, e3⟩ | ⟨i, hi, rfl, e3⟩
      · skip
        refine aw_aload_n dX10_missed_0 rfl ?_
        refine aw_iload_n dX10_missed_1 rfl ?_
        refine cvi1 dX10_missed_2 km10_198 ok_X10_isTable rfl rfl (by decide) k_176 (Nat.le_of_ble_eq_true rfl) ⟨Nat.le_of_ble_eq_true rfl, Nat.le_of_ble_eq_true rfl⟩ rfl rfl (ct_isTable hK hI _) ?_
        intro r9 σ1 hp_t
        obtain ⟨rfl, hI1, hF, hFr⟩ := hp_t
        obtain ⟨f1, f2, f3, f4, f5, f6, f7, f8, f9, f10⟩ := id hF
        have G := FnS.g.mp hF
        obtain ⟨⟨hc1, hp1, hcw1, hw1, hs01, hs11, hs21⟩, -, -, -⟩ := id hI1
        refine aw_if_neB dX10_missed_5 rfl (fun h_5 => ?_) (fun h_5 => absurd h_5 (not_not_intro (ix_yes rfl ht (by omega))))
        refine aw_iload_n dX10_missed_10 rfl ?_
        refine aw_i2l dX10_missed_11 ?_
        refine aw_lconst dX10_missed_12 ?_
        refine aw_ldc2 dX10_missed_13 kl10_62 ?_
        refine csq3 dX10_missed_16 km10_64 ok_X10_in (Nat.le_of_ble_eq_true rfl) ⟨Nat.le_of_ble_eq_true rfl, Nat.le_of_ble_eq_true rfl⟩ rfl rfl (ct_inN _ 3 (by decide) (by decide) (by decide)) ?_
        refine aw_if_neB dX10_missed_19 rfl (fun h_19 => ?_) (fun h_19 => absurd h_19 (not_not_intro (ix_yes rfl hw (by omega))))
        refine aw_aload_n dX10_missed_25 rfl ?_
        refine aw_iload_n dX10_missed_26 rfl ?_
        refine aw_iload_n dX10_missed_27 rfl ?_
        refine cvv2 dX10_missed_28 km10_226 ok_X10_findMissed rfl rfl (by decide) k_176 (Nat.le_of_ble_eq_true rfl) ⟨Nat.le_of_ble_eq_true rfl, Nat.le_of_ble_eq_true rfl⟩ rfl rfl (ctM_findMissed hF hI1.1 hK hV ht) ?_
        intro σ2 hp_m
        obtain ⟨J, rfl, hM, hN⟩ := hp_m
        have hI2 := hI1.ms hM (fun q _ => rfl)
        have hFr2 := hFr.ms hM (fun q _ => rfl)
        try dsimp only
        refine aw_iload_n dX10_missed_31 rfl ?_
        refine aw_i2l dX10_missed_32 ?_
        refine aw_lconst dX10_missed_33 ?_
        refine aw_aload_n dX10_missed_34 rfl ?_
        refine gf10_missedMany dX10_missed_35 kf10_211 k_176 ?_
        refine aw_eq hN.1 ?_
        refine aw_ic (nI 1) dX10_missed_38 (by decide) ?_
        refine aw_isub dX10_missed_39 ?_
        refine aw_i2l dX10_missed_40 ?_
        refine csq3 dX10_missed_41 km10_64 ok_X10_in (Nat.le_of_ble_eq_true rfl) ⟨Nat.le_of_ble_eq_true rfl, Nat.le_of_ble_eq_true rfl⟩ rfl rfl (ct_inN _ (pMis S.1 t).length (by decide) (i64_m (by omega)) (by omega)) ?_
        refine aw_if_neB dX10_missed_44 rfl (fun h_44 => absurd h_44 (ix_no rfl h)) (fun h_44 => ?_)
        refine aw_bi (-6) dX10_missed_47 (by decide) ?_
        exact aw_ireti dX10_missed_49 (PoM.mk (by unfold aMissed; rw [e]; dsimp only; rw [e2]; dsimp only; rw [e3]) hI2 hFr2)
      · skip
        have he := List.getElem?_eq_getElem hi
        rcases (by omega : w = 0 ∨ w = 1 ∨ w = 2) with rfl | rfl | rfl
        · skip
          refine aw_aload_n dX10_missed_0 rfl ?_
          refine aw_iload_n dX10_missed_1 rfl ?_
          refine cvi1 dX10_missed_2 km10_198 ok_X10_isTable rfl rfl (by decide) k_176 (Nat.le_of_ble_eq_true rfl) ⟨Nat.le_of_ble_eq_true rfl, Nat.le_of_ble_eq_true rfl⟩ rfl rfl (ct_isTable hK hI _) ?_
          intro r9 σ1 hp_t
          obtain ⟨rfl, hI1, hF, hFr⟩ := hp_t
          obtain ⟨f1, f2, f3, f4, f5, f6, f7, f8, f9, f10⟩ := id hF
          have G := FnS.g.mp hF
          obtain ⟨⟨hc1, hp1, hcw1, hw1, hs01, hs11, hs21⟩, -, -, -⟩ := id hI1
          refine aw_if_neB dX10_missed_5 rfl (fun h_5 => ?_) (fun h_5 => absurd h_5 (not_not_intro (ix_yes rfl ht (by omega))))
          refine aw_iload_n dX10_missed_10 rfl ?_
          refine aw_i2l dX10_missed_11 ?_
          refine aw_lconst dX10_missed_12 ?_
          refine aw_ldc2 dX10_missed_13 kl10_62 ?_
          refine csq3 dX10_missed_16 km10_64 ok_X10_in (Nat.le_of_ble_eq_true rfl) ⟨Nat.le_of_ble_eq_true rfl, Nat.le_of_ble_eq_true rfl⟩ rfl rfl (ct_inN _ 3 (by decide) (by decide) (by decide)) ?_
          refine aw_if_neB dX10_missed_19 rfl (fun h_19 => ?_) (fun h_19 => absurd h_19 (not_not_intro (ix_yes rfl hw (by omega))))
          refine aw_aload_n dX10_missed_25 rfl ?_
          refine aw_iload_n dX10_missed_26 rfl ?_
          refine aw_iload_n dX10_missed_27 rfl ?_
          refine cvv2 dX10_missed_28 km10_226 ok_X10_findMissed rfl rfl (by decide) k_176 (Nat.le_of_ble_eq_true rfl) ⟨Nat.le_of_ble_eq_true rfl, Nat.le_of_ble_eq_true rfl⟩ rfl rfl (ctM_findMissed hF hI1.1 hK hV ht) ?_
          intro σ2 hp_m
          obtain ⟨J, rfl, hM, hN⟩ := hp_m
          have hI2 := hI1.ms hM (fun q _ => rfl)
          have hFr2 := hFr.ms hM (fun q _ => rfl)
          try dsimp only
          obtain ⟨v1, v2, v3⟩ := hN.2 i _ he rfl
          refine aw_iload_n dX10_missed_31 rfl ?_
          refine aw_i2l dX10_missed_32 ?_
          refine aw_lconst dX10_missed_33 ?_
          refine aw_aload_n dX10_missed_34 rfl ?_
          refine gf10_missedMany dX10_missed_35 kf10_211 k_176 ?_
          refine aw_eq hN.1 ?_
          refine aw_ic (nI 1) dX10_missed_38 (by decide) ?_
          refine aw_isub dX10_missed_39 ?_
          refine aw_i2l dX10_missed_40 ?_
          refine csq3 dX10_missed_41 km10_64 ok_X10_in (Nat.le_of_ble_eq_true rfl) ⟨Nat.le_of_ble_eq_true rfl, Nat.le_of_ble_eq_true rfl⟩ rfl rfl (ct_inN _ (pMis S.1 t).length (by decide) (i64_m (by omega)) (by omega)) ?_
          refine aw_if_neB dX10_missed_44 rfl (fun h_44 => ?_) (fun h_44 => absurd h_44 (not_not_intro (ix_yes rfl hi (by omega))))
          refine aw_iload_n dX10_missed_50 rfl ?_
          refine aw_if_neN dX10_missed_51 (a := 0) rfl (by decide) (fun h_51 => absurd h_51 (by omega)) (fun h_51 => ?_)
          refine aw_aload_n dX10_missed_54 rfl ?_
          refine gf10_missedCell dX10_missed_55 kf10_214 k_176 ?_
          refine aw_eq v1 ?_
          refine aw_aload_n dX10_missed_58 rfl ?_
          refine gf10_cellFrom dX10_missed_59 kf10_37 k_176 ?_
          refine aw_eqr (b := 186) rfl ?_
          refine aw_iload_n dX10_missed_62 rfl ?_
          refine aw_ld (t) dX10_missed_63 k_186 (rfl) (by omega) ?_
          refine aw_eq (f7 t (by omega)).2 ?_
          refine aw_isub dX10_missed_64 ?_
          refine aw_eq (show _ = nI _ from (pk_sub (Nat.le_add_right _ _)).trans (congrArg nI (Nat.add_sub_cancel_left _ _))) ?_
          refine aw_goto dX10_missed_65 ?_
          exact aw_ireti dX10_missed_84 (PoM.mk (by unfold aMissed; rw [e]; dsimp only; rw [e2]; dsimp only; rw [e3]; dsimp only; rw [he]; rfl) hI2 hFr2)
        · skip
          refine aw_aload_n dX10_missed_0 rfl ?_
          refine aw_iload_n dX10_missed_1 rfl ?_
          refine cvi1 dX10_missed_2 km10_198 ok_X10_isTable rfl rfl (by decide) k_176 (Nat.le_of_ble_eq_true rfl) ⟨Nat.le_of_ble_eq_true rfl, Nat.le_of_ble_eq_true rfl⟩ rfl rfl (ct_isTable hK hI _) ?_
          intro r9 σ1 hp_t
          obtain ⟨rfl, hI1, hF, hFr⟩ := hp_t
          obtain ⟨f1, f2, f3, f4, f5, f6, f7, f8, f9, f10⟩ := id hF
          have G := FnS.g.mp hF
          obtain ⟨⟨hc1, hp1, hcw1, hw1, hs01, hs11, hs21⟩, -, -, -⟩ := id hI1
          refine aw_if_neB dX10_missed_5 rfl (fun h_5 => ?_) (fun h_5 => absurd h_5 (not_not_intro (ix_yes rfl ht (by omega))))
          refine aw_iload_n dX10_missed_10 rfl ?_
          refine aw_i2l dX10_missed_11 ?_
          refine aw_lconst dX10_missed_12 ?_
          refine aw_ldc2 dX10_missed_13 kl10_62 ?_
          refine csq3 dX10_missed_16 km10_64 ok_X10_in (Nat.le_of_ble_eq_true rfl) ⟨Nat.le_of_ble_eq_true rfl, Nat.le_of_ble_eq_true rfl⟩ rfl rfl (ct_inN _ 3 (by decide) (by decide) (by decide)) ?_
          refine aw_if_neB dX10_missed_19 rfl (fun h_19 => ?_) (fun h_19 => absurd h_19 (not_not_intro (ix_yes rfl hw (by omega))))
          refine aw_aload_n dX10_missed_25 rfl ?_
          refine aw_iload_n dX10_missed_26 rfl ?_
          refine aw_iload_n dX10_missed_27 rfl ?_
          refine cvv2 dX10_missed_28 km10_226 ok_X10_findMissed rfl rfl (by decide) k_176 (Nat.le_of_ble_eq_true rfl) ⟨Nat.le_of_ble_eq_true rfl, Nat.le_of_ble_eq_true rfl⟩ rfl rfl (ctM_findMissed hF hI1.1 hK hV ht) ?_
          intro σ2 hp_m
          obtain ⟨J, rfl, hM, hN⟩ := hp_m
          have hI2 := hI1.ms hM (fun q _ => rfl)
          have hFr2 := hFr.ms hM (fun q _ => rfl)
          try dsimp only
          obtain ⟨v1, v2, v3⟩ := hN.2 i _ he rfl
          refine aw_iload_n dX10_missed_31 rfl ?_
          refine aw_i2l dX10_missed_32 ?_
          refine aw_lconst dX10_missed_33 ?_
          refine aw_aload_n dX10_missed_34 rfl ?_
          refine gf10_missedMany dX10_missed_35 kf10_211 k_176 ?_
          refine aw_eq hN.1 ?_
          refine aw_ic (nI 1) dX10_missed_38 (by decide) ?_
          refine aw_isub dX10_missed_39 ?_
          refine aw_i2l dX10_missed_40 ?_
          refine csq3 dX10_missed_41 km10_64 ok_X10_in (Nat.le_of_ble_eq_true rfl) ⟨Nat.le_of_ble_eq_true rfl, Nat.le_of_ble_eq_true rfl⟩ rfl rfl (ct_inN _ (pMis S.1 t).length (by decide) (i64_m (by omega)) (by omega)) ?_
          refine aw_if_neB dX10_missed_44 rfl (fun h_44 => ?_) (fun h_44 => absurd h_44 (not_not_intro (ix_yes rfl hi (by omega))))
          refine aw_iload_n dX10_missed_50 rfl ?_
          refine aw_if_neN dX10_missed_51 (a := 1) rfl (by decide) (fun h_51 => ?_) (fun h_51 => absurd h_51 (by omega))
          refine aw_iload_n dX10_missed_68 rfl ?_
          refine aw_ic (nI 1) dX10_missed_69 (by decide) ?_
          refine aw_icmp_neN dX10_missed_70 (a := 1) rfl (b := 1) rfl (by decide) (by decide) (fun h_70 => absurd h_70 (by omega)) (fun h_70 => ?_)
          refine aw_aload_n dX10_missed_73 rfl ?_
          refine gf10_missedWay dX10_missed_74 kf10_217 k_176 ?_
          refine aw_eq v2 ?_
          refine aw_goto dX10_missed_77 ?_
          exact aw_ireti dX10_missed_84 (PoM.mk (by unfold aMissed; rw [e]; dsimp only; rw [e2]; dsimp only; rw [e3]; dsimp only; rw [he]; rfl) hI2 hFr2)
        · skip
          refine aw_aload_n dX10_missed_0 rfl ?_
          refine aw_iload_n dX10_missed_1 rfl ?_
          refine cvi1 dX10_missed_2 km10_198 ok_X10_isTable rfl rfl (by decide) k_176 (Nat.le_of_ble_eq_true rfl) ⟨Nat.le_of_ble_eq_true rfl, Nat.le_of_ble_eq_true rfl⟩ rfl rfl (ct_isTable hK hI _) ?_
          intro r9 σ1 hp_t
          obtain ⟨rfl, hI1, hF, hFr⟩ := hp_t
          obtain ⟨f1, f2, f3, f4, f5, f6, f7, f8, f9, f10⟩ := id hF
          have G := FnS.g.mp hF
          obtain ⟨⟨hc1, hp1, hcw1, hw1, hs01, hs11, hs21⟩, -, -, -⟩ := id hI1
          refine aw_if_neB dX10_missed_5 rfl (fun h_5 => ?_) (fun h_5 => absurd h_5 (not_not_intro (ix_yes rfl ht (by omega))))
          refine aw_iload_n dX10_missed_10 rfl ?_
          refine aw_i2l dX10_missed_11 ?_
          refine aw_lconst dX10_missed_12 ?_
          refine aw_ldc2 dX10_missed_13 kl10_62 ?_
          refine csq3 dX10_missed_16 km10_64 ok_X10_in (Nat.le_of_ble_eq_true rfl) ⟨Nat.le_of_ble_eq_true rfl, Nat.le_of_ble_eq_true rfl⟩ rfl rfl (ct_inN _ 3 (by decide) (by decide) (by decide)) ?_
          refine aw_if_neB dX10_missed_19 rfl (fun h_19 => ?_) (fun h_19 => absurd h_19 (not_not_intro (ix_yes rfl hw (by omega))))
          refine aw_aload_n dX10_missed_25 rfl ?_
          refine aw_iload_n dX10_missed_26 rfl ?_
          refine aw_iload_n dX10_missed_27 rfl ?_
          refine cvv2 dX10_missed_28 km10_226 ok_X10_findMissed rfl rfl (by decide) k_176 (Nat.le_of_ble_eq_true rfl) ⟨Nat.le_of_ble_eq_true rfl, Nat.le_of_ble_eq_true rfl⟩ rfl rfl (ctM_findMissed hF hI1.1 hK hV ht) ?_
          intro σ2 hp_m
          obtain ⟨J, rfl, hM, hN⟩ := hp_m
          have hI2 := hI1.ms hM (fun q _ => rfl)
          have hFr2 := hFr.ms hM (fun q _ => rfl)
          try dsimp only
          obtain ⟨v1, v2, v3⟩ := hN.2 i _ he rfl
          refine aw_iload_n dX10_missed_31 rfl ?_
          refine aw_i2l dX10_missed_32 ?_
          refine aw_lconst dX10_missed_33 ?_
          refine aw_aload_n dX10_missed_34 rfl ?_
          refine gf10_missedMany dX10_missed_35 kf10_211 k_176 ?_
          refine aw_eq hN.1 ?_
          refine aw_ic (nI 1) dX10_missed_38 (by decide) ?_
          refine aw_isub dX10_missed_39 ?_
          refine aw_i2l dX10_missed_40 ?_
          refine csq3 dX10_missed_41 km10_64 ok_X10_in (Nat.le_of_ble_eq_true rfl) ⟨Nat.le_of_ble_eq_true rfl, Nat.le_of_ble_eq_true rfl⟩ rfl rfl (ct_inN _ (pMis S.1 t).length (by decide) (i64_m (by omega)) (by omega)) ?_
          refine aw_if_neB dX10_missed_44 rfl (fun h_44 => ?_) (fun h_44 => absurd h_44 (not_not_intro (ix_yes rfl hi (by omega))))
          refine aw_iload_n dX10_missed_50 rfl ?_
          refine aw_if_neN dX10_missed_51 (a := 2) rfl (by decide) (fun h_51 => ?_) (fun h_51 => absurd h_51 (by omega))
          refine aw_iload_n dX10_missed_68 rfl ?_
          refine aw_ic (nI 1) dX10_missed_69 (by decide) ?_
          refine aw_icmp_neN dX10_missed_70 (a := 2) rfl (b := 1) rfl (by decide) (by decide) (fun h_70 => ?_) (fun h_70 => absurd h_70 (by omega))
          refine aw_aload_n dX10_missed_80 rfl ?_
          refine gf10_missedLine dX10_missed_81 kf10_220 k_176 ?_
          refine aw_eq v3 ?_
          exact aw_ireti dX10_missed_84 (PoM.mk (by unfold aMissed; rw [e]; dsimp only; rw [e2]; dsimp only; rw [e3]; dsimp only; rw [he]; rfl) hI2 hFr2)

theorem wT_t {σ : SG} {P : Pg} {t : Nat} (hF : FnS σ P) (hT : pT P ≤ 6) (ht : t < pT P) : ∀ y, y < P.2.2.1 → (σ.2.1 189 y = nI t ↔ decide (pWT P y = t) = true) := fun y hy => by
  rw [(hF.2.2.2.2.2.2.2.2.2 y hy).1, decide_eq_true_eq]
  by_cases h : pWT P y < pT P
  · rw [if_pos h]
    constructor
    · intro e
      have := congrArg Int32.toInt e
      rw [nI_toInt (by omega), nI_toInt (by omega)] at this
      omega
    · intro e
      rw [e]
  · rw [if_neg h]
    constructor
    · intro e
      exact absurd e (m6ne (by omega))
    · intro e
      omega
theorem wT_6 {σ : SG} {P : Pg} (hF : FnS σ P) (hT : pT P ≤ 6) : ∀ y, y < P.2.2.1 → (σ.2.1 189 y = -6 ↔ (!decide (pWT P y < pT P)) = true) := fun y hy => by
  rw [(hF.2.2.2.2.2.2.2.2.2 y hy).1]
  by_cases h : pWT P y < pT P
  · rw [if_pos h, decide_eq_true h]
    constructor
    · intro e
      exact absurd e.symm (m6ne (by omega))
    · intro e
      exact absurd e (by decide)
  · rw [if_neg h, decide_eq_false h]
    exact ⟨fun _ => rfl, fun _ => rfl⟩
theorem ix8_some {k : Nat} (h : k < 8) : ix (nI k) 8 = some k := ix_some h (by decide)
set_option maxHeartbeats 4000000 in
set_option maxRecDepth 100000 in
theorem ctM_table {g : GG} {σ : SG} {S : Sp} (hK : FOKs) (hI : InvM σ S) (x what : Int32) : Cti g yX10_table cX10_table 3 (some .int) (rmm 7 170) [.ref (ad g 176), .int x, .int what] σ (PoM σ (aTable S.1 x what, S)) := by
  refine ct_of (own := RX10) (lv := [some (.ref (ad g 176)), some (.int x), some (.int what)]) rfl (by decide) (Nat.le_of_ble_eq_true rfl) (by intro u hu; simp only [List.mem_cons, List.not_mem_nil, or_false] at hu; rcases hu with rfl | rfl | rfl <;> rfl) (lv_ok [.ref (ad g 176), .int x, .int what] 0) ?_
  have hV := hI.2.1
  have hT6 := pT_le hK hV
  have hM24 := pM_le hV
  have hc24 := hV.1
  have hw20 := hV.2.2.1
  have hl186 := l_186
  rcases ix_cases x (n := pT S.1) (by omega) with ⟨h, e⟩ | ⟨t, ht, rfl, e⟩
  · skip
    refine aw_aload_n dX10_table_0 rfl ?_
    refine aw_iload_n dX10_table_1 rfl ?_
    refine cvi1 dX10_table_2 km10_198 ok_X10_isTable rfl rfl (by decide) k_176 (Nat.le_of_ble_eq_true rfl) ⟨Nat.le_of_ble_eq_true rfl, Nat.le_of_ble_eq_true rfl⟩ rfl rfl (ct_isTable hK hI x) ?_
    intro r9 σ1 hp_t
    obtain ⟨rfl, hI1, hF, hFr⟩ := hp_t
    obtain ⟨f1, f2, f3, f4, f5, f6, f7, f8, f9, f10⟩ := id hF
    have G := FnS.g.mp hF
    obtain ⟨⟨hc1, hp1, hcw1, hw1, hs01, hs11, hs21⟩, -, -, -⟩ := id hI1
    refine aw_if_neB dX10_table_5 rfl (fun h_5 => absurd h_5 (ix_no rfl h)) (fun h_5 => ?_)
    refine aw_ic (-1) dX10_table_8 (by decide) ?_
    exact aw_ireti dX10_table_9 (PoM.mk (by unfold aTable; rw [e]) hI1 hFr)
  · skip
    have hlen : (pMis S.1 t).length ≤ 121 := mis_b hK hV ht (Nat.le_refl _)
    have hff := pFF_le hK hV (show t + 1 ≤ pT S.1 from ht)
    have hb2 := pCF_le S.1 (t + 1)
    have hb3 : pCF S.1 (t + 1) = pCF S.1 t + pCc S.1 t := rfl
    rcases sw8 what with h | ⟨k, hk8, rfl⟩
    · skip
      refine aw_aload_n dX10_table_0 rfl ?_
      refine aw_iload_n dX10_table_1 rfl ?_
      refine cvi1 dX10_table_2 km10_198 ok_X10_isTable rfl rfl (by decide) k_176 (Nat.le_of_ble_eq_true rfl) ⟨Nat.le_of_ble_eq_true rfl, Nat.le_of_ble_eq_true rfl⟩ rfl rfl (ct_isTable hK hI _) ?_
      intro r9 σ1 hp_t
      obtain ⟨rfl, hI1, hF, hFr⟩ := hp_t
      obtain ⟨f1, f2, f3, f4, f5, f6, f7, f8, f9, f10⟩ := id hF
      have G := FnS.g.mp hF
      obtain ⟨⟨hc1, hp1, hcw1, hw1, hs01, hs11, hs21⟩, -, -, -⟩ := id hI1
      refine aw_if_neB dX10_table_5 rfl (fun h_5 => ?_) (fun h_5 => absurd h_5 (not_not_intro (ix_yes rfl ht (by omega))))
      refine aw_iload_n dX10_table_10 rfl ?_
      refine aw_tout dX10_table_11 h (tgt := 120) (by decide) ?_
      refine aw_bi (-2) dX10_table_120 (by decide) ?_
      exact aw_ireti dX10_table_122 (PoM.mk (by unfold aTable; rw [e]; dsimp only; rw [ix_out h]) hI1 hFr)
    · rcases (by omega : k = 0 ∨ k = 1 ∨ k = 2 ∨ k = 3 ∨ k = 4 ∨ k = 5 ∨ k = 6 ∨ k = 7) with rfl | rfl | rfl | rfl | rfl | rfl | rfl | rfl
      · skip
        refine aw_aload_n dX10_table_0 rfl ?_
        refine aw_iload_n dX10_table_1 rfl ?_
        refine cvi1 dX10_table_2 km10_198 ok_X10_isTable rfl rfl (by decide) k_176 (Nat.le_of_ble_eq_true rfl) ⟨Nat.le_of_ble_eq_true rfl, Nat.le_of_ble_eq_true rfl⟩ rfl rfl (ct_isTable hK hI _) ?_
        intro r9 σ1 hp_t
        obtain ⟨rfl, hI1, hF, hFr⟩ := hp_t
        obtain ⟨f1, f2, f3, f4, f5, f6, f7, f8, f9, f10⟩ := id hF
        have G := FnS.g.mp hF
        obtain ⟨⟨hc1, hp1, hcw1, hw1, hs01, hs11, hs21⟩, -, -, -⟩ := id hI1
        refine aw_if_neB dX10_table_5 rfl (fun h_5 => ?_) (fun h_5 => absurd h_5 (not_not_intro (ix_yes rfl ht (by omega))))
        refine aw_iload_n dX10_table_10 rfl ?_
        refine aw_tin dX10_table_11 (tgt := 56) (off := 45) (by decide) (by decide) (by decide +kernel) (by decide) ?_
        refine aw_aload_n dX10_table_56 rfl ?_
        refine aw_iload_n dX10_table_57 rfl ?_
        refine cqi1 dX10_table_58 km10_148 ok_X10_rowsOf rfl rfl (by decide) k_176 (Nat.le_of_ble_eq_true rfl) ⟨Nat.le_of_ble_eq_true rfl, Nat.le_of_ble_eq_true rfl⟩ rfl rfl (ct_rowsF (G.tbf hK hV hs21 ht)) ?_
        refine aw_eq (show _ = nI (pNr S.1 t) by rw [Nat.add_sub_cancel]) ?_
        exact aw_ireti dX10_table_61 (PoM.mk (by unfold aTable; rw [e]; dsimp only; rw [ix8_some (by decide)]; rfl) hI1 hFr)
      · skip
        refine aw_aload_n dX10_table_0 rfl ?_
        refine aw_iload_n dX10_table_1 rfl ?_
        refine cvi1 dX10_table_2 km10_198 ok_X10_isTable rfl rfl (by decide) k_176 (Nat.le_of_ble_eq_true rfl) ⟨Nat.le_of_ble_eq_true rfl, Nat.le_of_ble_eq_true rfl⟩ rfl rfl (ct_isTable hK hI _) ?_
        intro r9 σ1 hp_t
        obtain ⟨rfl, hI1, hF, hFr⟩ := hp_t
        obtain ⟨f1, f2, f3, f4, f5, f6, f7, f8, f9, f10⟩ := id hF
        have G := FnS.g.mp hF
        obtain ⟨⟨hc1, hp1, hcw1, hw1, hs01, hs11, hs21⟩, -, -, -⟩ := id hI1
        refine aw_if_neB dX10_table_5 rfl (fun h_5 => ?_) (fun h_5 => absurd h_5 (not_not_intro (ix_yes rfl ht (by omega))))
        refine aw_iload_n dX10_table_10 rfl ?_
        refine aw_tin dX10_table_11 (tgt := 62) (off := 51) (by decide) (by decide) (by decide +kernel) (by decide) ?_
        refine aw_aload_n dX10_table_62 rfl ?_
        refine aw_iload_n dX10_table_63 rfl ?_
        refine cqi1 dX10_table_64 km10_152 ok_X10_columnsOf rfl rfl (by decide) k_176 (Nat.le_of_ble_eq_true rfl) ⟨Nat.le_of_ble_eq_true rfl, Nat.le_of_ble_eq_true rfl⟩ rfl rfl (ct_columnsF (G.tbf hK hV hs21 ht)) ?_
        refine aw_eq (show _ = nI (pNc S.1 t) by rw [Nat.add_sub_cancel]) ?_
        exact aw_ireti dX10_table_67 (PoM.mk (by unfold aTable; rw [e]; dsimp only; rw [ix8_some (by decide)]; rfl) hI1 hFr)
      · skip
        refine aw_aload_n dX10_table_0 rfl ?_
        refine aw_iload_n dX10_table_1 rfl ?_
        refine cvi1 dX10_table_2 km10_198 ok_X10_isTable rfl rfl (by decide) k_176 (Nat.le_of_ble_eq_true rfl) ⟨Nat.le_of_ble_eq_true rfl, Nat.le_of_ble_eq_true rfl⟩ rfl rfl (ct_isTable hK hI _) ?_
        intro r9 σ1 hp_t
        obtain ⟨rfl, hI1, hF, hFr⟩ := hp_t
        obtain ⟨f1, f2, f3, f4, f5, f6, f7, f8, f9, f10⟩ := id hF
        have G := FnS.g.mp hF
        obtain ⟨⟨hc1, hp1, hcw1, hw1, hs01, hs11, hs21⟩, -, -, -⟩ := id hI1
        refine aw_if_neB dX10_table_5 rfl (fun h_5 => ?_) (fun h_5 => absurd h_5 (not_not_intro (ix_yes rfl ht (by omega))))
        refine aw_iload_n dX10_table_10 rfl ?_
        refine aw_tin dX10_table_11 (tgt := 68) (off := 57) (by decide) (by decide) (by decide +kernel) (by decide) ?_
        refine aw_aload_n dX10_table_68 rfl ?_
        refine gf10_cellFrom dX10_table_69 kf10_37 k_176 ?_
        refine aw_eqr (b := 186) rfl ?_
        refine aw_iload_n dX10_table_72 rfl ?_
        refine aw_ic (nI 1) dX10_table_73 (by decide) ?_
        refine aw_iadd dX10_table_74 ?_
        refine aw_eq (nI_add _ _) ?_
        refine aw_ld (t + 1) dX10_table_75 k_186 (rfl) (by omega) ?_
        refine aw_eq (f7 (t + 1) ht).2 ?_
        refine aw_aload_n dX10_table_76 rfl ?_
        refine gf10_cellFrom dX10_table_77 kf10_37 k_176 ?_
        refine aw_eqr (b := 186) rfl ?_
        refine aw_iload_n dX10_table_80 rfl ?_
        refine aw_ld (t) dX10_table_81 k_186 (rfl) (by omega) ?_
        refine aw_eq (f7 t (by omega)).2 ?_
        refine aw_isub dX10_table_82 ?_
        refine aw_eq (show _ = nI (pCc S.1 t) from (pk_sub (Nat.le_add_right _ _)).trans (congrArg nI (Nat.add_sub_cancel_left _ _))) ?_
        exact aw_ireti dX10_table_83 (PoM.mk (by unfold aTable; rw [e]; dsimp only; rw [ix8_some (by decide)]; rfl) hI1 hFr)
      · skip
        refine aw_aload_n dX10_table_0 rfl ?_
        refine aw_iload_n dX10_table_1 rfl ?_
        refine cvi1 dX10_table_2 km10_198 ok_X10_isTable rfl rfl (by decide) k_176 (Nat.le_of_ble_eq_true rfl) ⟨Nat.le_of_ble_eq_true rfl, Nat.le_of_ble_eq_true rfl⟩ rfl rfl (ct_isTable hK hI _) ?_
        intro r9 σ1 hp_t
        obtain ⟨rfl, hI1, hF, hFr⟩ := hp_t
        obtain ⟨f1, f2, f3, f4, f5, f6, f7, f8, f9, f10⟩ := id hF
        have G := FnS.g.mp hF
        obtain ⟨⟨hc1, hp1, hcw1, hw1, hs01, hs11, hs21⟩, -, -, -⟩ := id hI1
        refine aw_if_neB dX10_table_5 rfl (fun h_5 => ?_) (fun h_5 => absurd h_5 (not_not_intro (ix_yes rfl ht (by omega))))
        refine aw_iload_n dX10_table_10 rfl ?_
        refine aw_tin dX10_table_11 (tgt := 84) (off := 73) (by decide) (by decide) (by decide +kernel) (by decide) ?_
        refine aw_aload_n dX10_table_84 rfl ?_
        refine aw_iload_n dX10_table_85 rfl ?_
        refine cqi1 dX10_table_86 km10_235 ok_X10_rulesOf rfl rfl (by decide) k_176 (Nat.le_of_ble_eq_true rfl) ⟨Nat.le_of_ble_eq_true rfl, Nat.le_of_ble_eq_true rfl⟩ rfl rfl (ct_rulesOf (G.tbf hK hV hs21 ht)) ?_
        exact aw_ireti dX10_table_89 (PoM.mk (by unfold aTable; rw [e]; dsimp only; rw [ix8_some (by decide)]; rfl) hI1 hFr)
      · skip
        refine aw_aload_n dX10_table_0 rfl ?_
        refine aw_iload_n dX10_table_1 rfl ?_
        refine cvi1 dX10_table_2 km10_198 ok_X10_isTable rfl rfl (by decide) k_176 (Nat.le_of_ble_eq_true rfl) ⟨Nat.le_of_ble_eq_true rfl, Nat.le_of_ble_eq_true rfl⟩ rfl rfl (ct_isTable hK hI _) ?_
        intro r9 σ1 hp_t
        obtain ⟨rfl, hI1, hF, hFr⟩ := hp_t
        obtain ⟨f1, f2, f3, f4, f5, f6, f7, f8, f9, f10⟩ := id hF
        have G := FnS.g.mp hF
        obtain ⟨⟨hc1, hp1, hcw1, hw1, hs01, hs11, hs21⟩, -, -, -⟩ := id hI1
        refine aw_if_neB dX10_table_5 rfl (fun h_5 => ?_) (fun h_5 => absurd h_5 (not_not_intro (ix_yes rfl ht (by omega))))
        refine aw_iload_n dX10_table_10 rfl ?_
        refine aw_tin dX10_table_11 (tgt := 90) (off := 79) (by decide) (by decide) (by decide +kernel) (by decide) ?_
        refine aw_aload_n dX10_table_90 rfl ?_
        refine aw_iload_n dX10_table_91 rfl ?_
        refine cqi1 dX10_table_92 km10_238 ok_X10_wordsOf rfl rfl (by decide) k_176 (Nat.le_of_ble_eq_true rfl) ⟨Nat.le_of_ble_eq_true rfl, Nat.le_of_ble_eq_true rfl⟩ rfl rfl (ct_wordsOf (p := fun y => decide (pWT S.1 y = t)) hcw1 hw20 (wT_t hF hT6 ht)) ?_
        exact aw_ireti dX10_table_95 (PoM.mk (by unfold aTable; rw [e]; dsimp only; rw [ix8_some (by decide)]; rfl) hI1 hFr)
      · skip
        refine aw_aload_n dX10_table_0 rfl ?_
        refine aw_iload_n dX10_table_1 rfl ?_
        refine cvi1 dX10_table_2 km10_198 ok_X10_isTable rfl rfl (by decide) k_176 (Nat.le_of_ble_eq_true rfl) ⟨Nat.le_of_ble_eq_true rfl, Nat.le_of_ble_eq_true rfl⟩ rfl rfl (ct_isTable hK hI _) ?_
        intro r9 σ1 hp_t
        obtain ⟨rfl, hI1, hF, hFr⟩ := hp_t
        obtain ⟨f1, f2, f3, f4, f5, f6, f7, f8, f9, f10⟩ := id hF
        have G := FnS.g.mp hF
        obtain ⟨⟨hc1, hp1, hcw1, hw1, hs01, hs11, hs21⟩, -, -, -⟩ := id hI1
        refine aw_if_neB dX10_table_5 rfl (fun h_5 => ?_) (fun h_5 => absurd h_5 (not_not_intro (ix_yes rfl ht (by omega))))
        refine aw_iload_n dX10_table_10 rfl ?_
        refine aw_tin dX10_table_11 (tgt := 96) (off := 85) (by decide) (by decide) (by decide +kernel) (by decide) ?_
        refine aw_aload_n dX10_table_96 rfl ?_
        refine aw_iload_n dX10_table_97 rfl ?_
        refine cqi1 dX10_table_98 km10_241 ok_X10_headsOf rfl rfl (by decide) k_176 (Nat.le_of_ble_eq_true rfl) ⟨Nat.le_of_ble_eq_true rfl, Nat.le_of_ble_eq_true rfl⟩ rfl rfl (ct_headsOf hF hK hV hs21 ht) ?_
        exact aw_ireti dX10_table_101 (PoM.mk (by unfold aTable; rw [e]; dsimp only; rw [ix8_some (by decide)]; rfl) hI1 hFr)
      · skip
        refine aw_aload_n dX10_table_0 rfl ?_
        refine aw_iload_n dX10_table_1 rfl ?_
        refine cvi1 dX10_table_2 km10_198 ok_X10_isTable rfl rfl (by decide) k_176 (Nat.le_of_ble_eq_true rfl) ⟨Nat.le_of_ble_eq_true rfl, Nat.le_of_ble_eq_true rfl⟩ rfl rfl (ct_isTable hK hI _) ?_
        intro r9 σ1 hp_t
        obtain ⟨rfl, hI1, hF, hFr⟩ := hp_t
        obtain ⟨f1, f2, f3, f4, f5, f6, f7, f8, f9, f10⟩ := id hF
        have G := FnS.g.mp hF
        obtain ⟨⟨hc1, hp1, hcw1, hw1, hs01, hs11, hs21⟩, -, -, -⟩ := id hI1
        refine aw_if_neB dX10_table_5 rfl (fun h_5 => ?_) (fun h_5 => absurd h_5 (not_not_intro (ix_yes rfl ht (by omega))))
        refine aw_iload_n dX10_table_10 rfl ?_
        refine aw_tin dX10_table_11 (tgt := 102) (off := 91) (by decide) (by decide) (by decide +kernel) (by decide) ?_
        refine aw_aload_n dX10_table_102 rfl ?_
        refine aw_iload_n dX10_table_103 rfl ?_
        refine aw_bi (-6) dX10_table_104 (by decide) ?_
        refine cvv2 dX10_table_106 km10_226 ok_X10_findMissed rfl rfl (by decide) k_176 (Nat.le_of_ble_eq_true rfl) ⟨Nat.le_of_ble_eq_true rfl, Nat.le_of_ble_eq_true rfl⟩ rfl rfl (ctM_findMissed hF hI1.1 hK hV ht) ?_
        intro σ2 hp_m
        obtain ⟨J, rfl, hM, hN⟩ := hp_m
        have hI2 := hI1.ms hM (fun q _ => rfl)
        have hFr2 := hFr.ms hM (fun q _ => rfl)
        try dsimp only
        refine aw_aload_n dX10_table_109 rfl ?_
        refine gf10_missedMany dX10_table_110 kf10_211 k_176 ?_
        refine aw_eq hN.1 ?_
        exact aw_ireti dX10_table_113 (PoM.mk (by unfold aTable; rw [e]; dsimp only; rw [ix8_some (by decide)]; rfl) hI2 hFr2)
      · skip
        refine aw_aload_n dX10_table_0 rfl ?_
        refine aw_iload_n dX10_table_1 rfl ?_
        refine cvi1 dX10_table_2 km10_198 ok_X10_isTable rfl rfl (by decide) k_176 (Nat.le_of_ble_eq_true rfl) ⟨Nat.le_of_ble_eq_true rfl, Nat.le_of_ble_eq_true rfl⟩ rfl rfl (ct_isTable hK hI _) ?_
        intro r9 σ1 hp_t
        obtain ⟨rfl, hI1, hF, hFr⟩ := hp_t
        obtain ⟨f1, f2, f3, f4, f5, f6, f7, f8, f9, f10⟩ := id hF
        have G := FnS.g.mp hF
        obtain ⟨⟨hc1, hp1, hcw1, hw1, hs01, hs11, hs21⟩, -, -, -⟩ := id hI1
        refine aw_if_neB dX10_table_5 rfl (fun h_5 => ?_) (fun h_5 => absurd h_5 (not_not_intro (ix_yes rfl ht (by omega))))
        refine aw_iload_n dX10_table_10 rfl ?_
        refine aw_tin dX10_table_11 (tgt := 114) (off := 103) (by decide) (by decide) (by decide +kernel) (by decide) ?_
        refine aw_aload_n dX10_table_114 rfl ?_
        refine aw_iload_n dX10_table_115 rfl ?_
        refine cqi1 dX10_table_116 km10_244 ok_X10_wholeOf rfl rfl (by decide) k_176 (Nat.le_of_ble_eq_true rfl) ⟨Nat.le_of_ble_eq_true rfl, Nat.le_of_ble_eq_true rfl⟩ rfl rfl (ct_wholeOf (t := t) (CF := pCF S.1 t) (cc := pCc S.1 t) (cv := pCw S.1 t) (by omega) (f7 t (by omega)).2 (f7 (t + 1) ht).2 (by omega) (fun q hq => f9 t q 5 ht hq (by decide)) (fun q hq => by have := pCw_5 hK hV ht hq; omega)) ?_
        exact aw_ireti dX10_table_119 (PoM.mk (by unfold aTable; rw [e]; dsimp only; rw [ix8_some (by decide)]; rfl) hI1 hFr)

set_option maxHeartbeats 4000000 in
set_option maxRecDepth 100000 in
theorem ctM_told {g : GG} {σ : SG} {S : Sp} (hK : FOKs) (hI : InvM σ S) (what : Int32) : Cti g yX10_told cX10_told 2 (some .int) (rmm 6 149) [.ref (ad g 176), .int what] σ (PoM σ (aTold S.1 what, S)) := by
  refine ct_of (own := RX10) (lv := [some (.ref (ad g 176)), some (.int what)]) rfl (by decide) (Nat.le_of_ble_eq_true rfl) (by intro u hu; simp only [List.mem_cons, List.not_mem_nil, or_false] at hu; rcases hu with rfl | rfl <;> rfl) (lv_ok [.ref (ad g 176), .int what] 0) ?_
  have hV := hI.2.1
  have hT6 := pT_le hK hV
  have hM24 := pM_le hV
  have hc24 := hV.1
  have hw20 := hV.2.2.1
  have hl179 := l_179
  rcases sw8 what with h | ⟨k, hk8, rfl⟩
  · skip
    refine aw_aload_n dX10_told_0 rfl ?_
    refine cvv0 dX10_told_1 km10_195 ok_X10_findAll rfl rfl (by decide) k_176 (Nat.le_of_ble_eq_true rfl) ⟨Nat.le_of_ble_eq_true rfl, Nat.le_of_ble_eq_true rfl⟩ rfl rfl (ct_findAll hK hI) ?_
    intro σ1 hp_fa
    obtain ⟨hI1, hF, hFr⟩ := hp_fa
    obtain ⟨f1, f2, f3, f4, f5, f6, f7, f8, f9, f10⟩ := id hF
    obtain ⟨⟨hc1, hp1, hcw1, hw1, hs01, hs11, hs21⟩, -, -, -⟩ := id hI1
    refine aw_iload_n dX10_told_4 rfl ?_
    refine aw_tout dX10_told_5 h (tgt := 88) (by decide) ?_
    refine aw_bi (-2) dX10_told_88 (by decide) ?_
    exact aw_ireti dX10_told_90 (PoM.mk (by unfold aTold; rw [ix_out h]) hI1 hFr)
  · rcases (by omega : k = 0 ∨ k = 1 ∨ k = 2 ∨ k = 3 ∨ k = 4 ∨ k = 5 ∨ k = 6 ∨ k = 7) with rfl | rfl | rfl | rfl | rfl | rfl | rfl | rfl
    · skip
      refine aw_aload_n dX10_told_0 rfl ?_
      refine cvv0 dX10_told_1 km10_195 ok_X10_findAll rfl rfl (by decide) k_176 (Nat.le_of_ble_eq_true rfl) ⟨Nat.le_of_ble_eq_true rfl, Nat.le_of_ble_eq_true rfl⟩ rfl rfl (ct_findAll hK hI) ?_
      intro σ1 hp_fa
      obtain ⟨hI1, hF, hFr⟩ := hp_fa
      obtain ⟨f1, f2, f3, f4, f5, f6, f7, f8, f9, f10⟩ := id hF
      obtain ⟨⟨hc1, hp1, hcw1, hw1, hs01, hs11, hs21⟩, -, -, -⟩ := id hI1
      refine aw_iload_n dX10_told_4 rfl ?_
      refine aw_tin dX10_told_5 (tgt := 52) (off := 47) (by decide) (by decide) (by decide +kernel) (by decide) ?_
      refine aw_aload_n dX10_told_52 rfl ?_
      refine gf10_drawnMany dX10_told_53 kf10_80 k_176 ?_
      refine aw_eq hc1 ?_
      exact aw_ireti dX10_told_56 (PoM.mk (by unfold aTold; rw [ix8_some (by decide)]; rfl) hI1 hFr)
    · skip
      refine aw_aload_n dX10_told_0 rfl ?_
      refine cvv0 dX10_told_1 km10_195 ok_X10_findAll rfl rfl (by decide) k_176 (Nat.le_of_ble_eq_true rfl) ⟨Nat.le_of_ble_eq_true rfl, Nat.le_of_ble_eq_true rfl⟩ rfl rfl (ct_findAll hK hI) ?_
      intro σ1 hp_fa
      obtain ⟨hI1, hF, hFr⟩ := hp_fa
      obtain ⟨f1, f2, f3, f4, f5, f6, f7, f8, f9, f10⟩ := id hF
      obtain ⟨⟨hc1, hp1, hcw1, hw1, hs01, hs11, hs21⟩, -, -, -⟩ := id hI1
      refine aw_iload_n dX10_told_4 rfl ?_
      refine aw_tin dX10_told_5 (tgt := 57) (off := 52) (by decide) (by decide) (by decide +kernel) (by decide) ?_
      refine aw_aload_n dX10_told_57 rfl ?_
      refine gf10_boxMany dX10_told_58 kf10_92 k_176 ?_
      refine aw_eq hcw1 ?_
      exact aw_ireti dX10_told_61 (PoM.mk (by unfold aTold; rw [ix8_some (by decide)]; rfl) hI1 hFr)
    · skip
      refine aw_aload_n dX10_told_0 rfl ?_
      refine cvv0 dX10_told_1 km10_195 ok_X10_findAll rfl rfl (by decide) k_176 (Nat.le_of_ble_eq_true rfl) ⟨Nat.le_of_ble_eq_true rfl, Nat.le_of_ble_eq_true rfl⟩ rfl rfl (ct_findAll hK hI) ?_
      intro σ1 hp_fa
      obtain ⟨hI1, hF, hFr⟩ := hp_fa
      obtain ⟨f1, f2, f3, f4, f5, f6, f7, f8, f9, f10⟩ := id hF
      obtain ⟨⟨hc1, hp1, hcw1, hw1, hs01, hs11, hs21⟩, -, -, -⟩ := id hI1
      refine aw_iload_n dX10_told_4 rfl ?_
      refine aw_tin dX10_told_5 (tgt := 62) (off := 57) (by decide) (by decide) (by decide +kernel) (by decide) ?_
      refine aw_aload_n dX10_told_62 rfl ?_
      refine gf10_ruleMany dX10_told_63 kf10_105 k_176 ?_
      refine aw_eq f1 ?_
      exact aw_ireti dX10_told_66 (PoM.mk (by unfold aTold; rw [ix8_some (by decide)]; rfl) hI1 hFr)
    · skip
      refine aw_aload_n dX10_told_0 rfl ?_
      refine cvv0 dX10_told_1 km10_195 ok_X10_findAll rfl rfl (by decide) k_176 (Nat.le_of_ble_eq_true rfl) ⟨Nat.le_of_ble_eq_true rfl, Nat.le_of_ble_eq_true rfl⟩ rfl rfl (ct_findAll hK hI) ?_
      intro σ1 hp_fa
      obtain ⟨hI1, hF, hFr⟩ := hp_fa
      obtain ⟨f1, f2, f3, f4, f5, f6, f7, f8, f9, f10⟩ := id hF
      obtain ⟨⟨hc1, hp1, hcw1, hw1, hs01, hs11, hs21⟩, -, -, -⟩ := id hI1
      refine aw_iload_n dX10_told_4 rfl ?_
      refine aw_tin dX10_told_5 (tgt := 67) (off := 62) (by decide) (by decide) (by decide +kernel) (by decide) ?_
      refine aw_aload_n dX10_told_67 rfl ?_
      refine gf10_tableMany dX10_told_68 kf10_138 k_176 ?_
      refine aw_eq f5 ?_
      exact aw_ireti dX10_told_71 (PoM.mk (by unfold aTold; rw [ix8_some (by decide)]; rfl) hI1 hFr)
    · skip
      refine aw_aload_n dX10_told_0 rfl ?_
      refine cvv0 dX10_told_1 km10_195 ok_X10_findAll rfl rfl (by decide) k_176 (Nat.le_of_ble_eq_true rfl) ⟨Nat.le_of_ble_eq_true rfl, Nat.le_of_ble_eq_true rfl⟩ rfl rfl (ct_findAll hK hI) ?_
      intro σ1 hp_fa
      obtain ⟨hI1, hF, hFr⟩ := hp_fa
      obtain ⟨f1, f2, f3, f4, f5, f6, f7, f8, f9, f10⟩ := id hF
      obtain ⟨⟨hc1, hp1, hcw1, hw1, hs01, hs11, hs21⟩, -, -, -⟩ := id hI1
      refine aw_iload_n dX10_told_4 rfl ?_
      refine aw_tin dX10_told_5 (tgt := 72) (off := 67) (by decide) (by decide) (by decide +kernel) (by decide) ?_
      refine aw_aload_n dX10_told_72 rfl ?_
      refine aw_bi (-6) dX10_told_73 (by decide) ?_
      refine cqi1 dX10_told_75 km10_238 ok_X10_wordsOf rfl rfl (by decide) k_176 (Nat.le_of_ble_eq_true rfl) ⟨Nat.le_of_ble_eq_true rfl, Nat.le_of_ble_eq_true rfl⟩ rfl rfl (ct_wordsOf (p := fun y => !decide (pWT S.1 y < pT S.1)) hcw1 hw20 (wT_6 hF hT6)) ?_
      exact aw_ireti dX10_told_78 (PoM.mk (by unfold aTold; rw [ix8_some (by decide)]; rfl) hI1 hFr)
    · skip
      refine aw_aload_n dX10_told_0 rfl ?_
      refine cvv0 dX10_told_1 km10_195 ok_X10_findAll rfl rfl (by decide) k_176 (Nat.le_of_ble_eq_true rfl) ⟨Nat.le_of_ble_eq_true rfl, Nat.le_of_ble_eq_true rfl⟩ rfl rfl (ct_findAll hK hI) ?_
      intro σ1 hp_fa
      obtain ⟨hI1, hF, hFr⟩ := hp_fa
      obtain ⟨f1, f2, f3, f4, f5, f6, f7, f8, f9, f10⟩ := id hF
      obtain ⟨⟨hc1, hp1, hcw1, hw1, hs01, hs11, hs21⟩, -, -, -⟩ := id hI1
      refine aw_iload_n dX10_told_4 rfl ?_
      refine aw_tin dX10_told_5 (tgt := 79) (off := 74) (by decide) (by decide) (by decide +kernel) (by decide) ?_
      refine aw_aload_n dX10_told_79 rfl ?_
      refine gf10_how dX10_told_80 kf10_16 k_176 ?_
      refine aw_eqr (b := 179) rfl ?_
      refine aw_iload_n dX10_told_83 rfl ?_
      refine aw_ic (nI 5) dX10_told_84 (by decide) ?_
      refine aw_isub dX10_told_85 ?_
      refine aw_eq (show _ = nI 0 by decide) ?_
      refine aw_ld (0) dX10_told_86 k_179 (rfl) (by omega) ?_
      refine aw_eq hs01 ?_
      exact aw_ireti dX10_told_87 (PoM.mk (by unfold aTold; rw [ix8_some (by decide)]; rfl) hI1 hFr)
    · skip
      refine aw_aload_n dX10_told_0 rfl ?_
      refine cvv0 dX10_told_1 km10_195 ok_X10_findAll rfl rfl (by decide) k_176 (Nat.le_of_ble_eq_true rfl) ⟨Nat.le_of_ble_eq_true rfl, Nat.le_of_ble_eq_true rfl⟩ rfl rfl (ct_findAll hK hI) ?_
      intro σ1 hp_fa
      obtain ⟨hI1, hF, hFr⟩ := hp_fa
      obtain ⟨f1, f2, f3, f4, f5, f6, f7, f8, f9, f10⟩ := id hF
      obtain ⟨⟨hc1, hp1, hcw1, hw1, hs01, hs11, hs21⟩, -, -, -⟩ := id hI1
      refine aw_iload_n dX10_told_4 rfl ?_
      refine aw_tin dX10_told_5 (tgt := 79) (off := 74) (by decide) (by decide) (by decide +kernel) (by decide) ?_
      refine aw_aload_n dX10_told_79 rfl ?_
      refine gf10_how dX10_told_80 kf10_16 k_176 ?_
      refine aw_eqr (b := 179) rfl ?_
      refine aw_iload_n dX10_told_83 rfl ?_
      refine aw_ic (nI 5) dX10_told_84 (by decide) ?_
      refine aw_isub dX10_told_85 ?_
      refine aw_eq (show _ = nI 1 by decide) ?_
      refine aw_ld (1) dX10_told_86 k_179 (rfl) (by omega) ?_
      refine aw_eq hs11 ?_
      exact aw_ireti dX10_told_87 (PoM.mk (by unfold aTold; rw [ix8_some (by decide)]; rfl) hI1 hFr)
    · skip
      refine aw_aload_n dX10_told_0 rfl ?_
      refine cvv0 dX10_told_1 km10_195 ok_X10_findAll rfl rfl (by decide) k_176 (Nat.le_of_ble_eq_true rfl) ⟨Nat.le_of_ble_eq_true rfl, Nat.le_of_ble_eq_true rfl⟩ rfl rfl (ct_findAll hK hI) ?_
      intro σ1 hp_fa
      obtain ⟨hI1, hF, hFr⟩ := hp_fa
      obtain ⟨f1, f2, f3, f4, f5, f6, f7, f8, f9, f10⟩ := id hF
      obtain ⟨⟨hc1, hp1, hcw1, hw1, hs01, hs11, hs21⟩, -, -, -⟩ := id hI1
      refine aw_iload_n dX10_told_4 rfl ?_
      refine aw_tin dX10_told_5 (tgt := 79) (off := 74) (by decide) (by decide) (by decide +kernel) (by decide) ?_
      refine aw_aload_n dX10_told_79 rfl ?_
      refine gf10_how dX10_told_80 kf10_16 k_176 ?_
      refine aw_eqr (b := 179) rfl ?_
      refine aw_iload_n dX10_told_83 rfl ?_
      refine aw_ic (nI 5) dX10_told_84 (by decide) ?_
      refine aw_isub dX10_told_85 ?_
      refine aw_eq (show _ = nI 2 by decide) ?_
      refine aw_ld (2) dX10_told_86 k_179 (rfl) (by omega) ?_
      refine aw_eq hs21 ?_
      exact aw_ireti dX10_told_87 (PoM.mk (by unfold aTold; rw [ix8_some (by decide)]; rfl) hI1 hFr)

theorem u44 {h : Nat → Int32} {b : Nat} (w : Nat → Nat) : ∃ h', upd (upd (upd (upd h b (nI (w 0))) (b + 1) (nI (w 1))) (b + 2) (nI (w 2))) (b + 3) (nI (w 3)) = h' ∧ (∀ j, j < 4 → h' (b + j) = nI (w j)) ∧ ∀ x, x < b → h' x = h x := by
  refine ⟨_, rfl, fun j hj => ?_, fun x hx => ?_⟩
  · rcases (by omega : j = 0 ∨ j = 1 ∨ j = 2 ∨ j = 3) with rfl | rfl | rfl | rfl
    · rw [pk_un (by omega), pk_un (by omega), pk_un (by omega)]
      exact pk_us
    · rw [pk_un (by omega), pk_un (by omega), pk_us]
    · rw [pk_un (by omega), pk_us]
    · rw [pk_us]
  · rw [pk_un (by omega), pk_un (by omega), pk_un (by omega), pk_un (by omega)]
set_option maxHeartbeats 4000000 in
set_option maxRecDepth 100000 in
theorem ct_layComing {g : GG} {σ : SG} {P : Pg} {t k : Nat} {e : Nat × Nat × Nat} (hF : FnS σ P) (hPg : PgS σ P) (hK : FOKs) (hV : PgV P) (ht : t < pT P) (hk : k < 24) (he : (pMis P t)[k]? = some e) : Ctv g yX10_layComing cX10_layComing 5 (rmm 4 98) [.ref (ad g 176), .int (nI t), .int (nI k)] σ (fun σ' => ∃ J h, σ' = (J, uA σ.2.1 191 h, σ.2.2) ∧ MsF σ.1 J ∧ (∀ j, j < 4 → h (4 * k + j) = nI (mdP P t e j)) ∧ ∀ x, x < 4 * k → h x = σ.2.1 191 x) := by
  refine ct_of (own := RX10) (lv := [some (.ref (ad g 176)), some (.int (nI t)), some (.int (nI k)), none, none]) rfl (by decide) (Nat.le_of_ble_eq_true rfl) (by intro u hu; simp only [List.mem_cons, List.not_mem_nil, or_false] at hu; rcases hu with rfl | rfl | rfl <;> rfl) (lv_ok [.ref (ad g 176), .int (nI t), .int (nI k)] 2) ?_
  have hT6 := pT_le hK hV
  obtain ⟨f1, f2, f3, f4, f5, f6, f7, f8, f9, f10⟩ := id hF
  have hl191 := l_191
  have hff := pFF_le hK hV (show t + 1 ≤ pT P from ht)
  have hb2 := pCF_le P (t + 1)
  have hb3 : pCF P (t + 1) = pCF P t + pCc P t := rfl
  have hn0 := (pN_le (w := 0) hK hV ht (by decide)).1
  have hn1 := (pN_le (w := 1) hK hV ht (by decide)).1
  obtain ⟨q, w, ln⟩ := e
  obtain ⟨hq, hw, hln, hfs, -⟩ := mdP_ok hK hV ht he
  dsimp only at hq hw hln hfs
  rcases (by omega : w = 0 ∨ w = 1) with rfl | rfl
  · skip
    have hfs : pCw P t q 1 + pCw P t q 3 < pN P t 1 := hfs
    refine aw_aload_n dX10_layComing_0 rfl ?_
    refine aw_iload_n dX10_layComing_1 rfl ?_
    refine aw_iload_n dX10_layComing_2 rfl ?_
    refine cvv2 dX10_layComing_3 km10_226 ok_X10_findMissed rfl rfl (by decide) k_176 (Nat.le_of_ble_eq_true rfl) ⟨Nat.le_of_ble_eq_true rfl, Nat.le_of_ble_eq_true rfl⟩ rfl rfl (ctM_findMissed hF hPg hK hV ht) ?_
    intro σ2 hp_m
    obtain ⟨J, rfl, hM, hN⟩ := hp_m
    obtain ⟨v1, v2, v3⟩ := hN.2 k _ he rfl
    dsimp only at v1 v2 v3
    refine aw_aload_n dX10_layComing_6 rfl ?_
    refine aw_aload_n dX10_layComing_7 rfl ?_
    refine gf10_missedCell dX10_layComing_8 kf10_214 k_176 ?_
    refine aw_eq v1 ?_
    refine aw_aload_n dX10_layComing_11 rfl ?_
    refine gf10_missedWay dX10_layComing_12 kf10_217 k_176 ?_
    refine aw_eq v2 ?_
    refine aw_ic (nI 1) dX10_layComing_15 (by decide) ?_
    refine aw_icmp_neN dX10_layComing_16 (a := 0) rfl (b := 1) rfl (by decide) (by decide) (fun h_16 => ?_) (fun h_16 => absurd h_16 (by omega))
    refine aw_ic (nI 1) dX10_layComing_23 (by decide) ?_
    refine cqi2 dX10_layComing_24 km10_174 ok_X10_cellAt rfl rfl (by decide) k_176 (Nat.le_of_ble_eq_true rfl) ⟨Nat.le_of_ble_eq_true rfl, Nat.le_of_ble_eq_true rfl⟩ rfl rfl (ct_cellAt (r := pCF P t + q) (w := 1) (by omega)) ?_
    refine aw_eq (f9 t q 1 ht hq (by decide)) ?_
    refine aw_istore_n dX10_layComing_27 (Nat.le_of_ble_eq_true rfl) ?_
    refine aw_aload_n dX10_layComing_28 rfl ?_
    refine aw_aload_n dX10_layComing_29 rfl ?_
    refine gf10_missedCell dX10_layComing_30 kf10_214 k_176 ?_
    refine aw_eq v1 ?_
    refine aw_aload_n dX10_layComing_33 rfl ?_
    refine gf10_missedWay dX10_layComing_34 kf10_217 k_176 ?_
    refine aw_eq v2 ?_
    refine aw_ic (nI 1) dX10_layComing_37 (by decide) ?_
    refine aw_icmp_neN dX10_layComing_38 (a := 0) rfl (b := 1) rfl (by decide) (by decide) (fun h_38 => ?_) (fun h_38 => absurd h_38 (by omega))
    refine aw_ic (nI 3) dX10_layComing_45 (by decide) ?_
    refine cqi2 dX10_layComing_46 km10_174 ok_X10_cellAt rfl rfl (by decide) k_176 (Nat.le_of_ble_eq_true rfl) ⟨Nat.le_of_ble_eq_true rfl, Nat.le_of_ble_eq_true rfl⟩ rfl rfl (ct_cellAt (r := pCF P t + q) (w := 3) (by omega)) ?_
    refine aw_eq (f9 t q 3 ht hq (by decide)) ?_
    refine aw_istore dX10_layComing_49 (Nat.le_of_ble_eq_true rfl) ?_
    refine aw_aload_n dX10_layComing_51 rfl ?_
    refine gf10_coming dX10_layComing_52 kf10_52 k_176 ?_
    refine aw_eqr (b := 191) rfl ?_
    refine aw_ic (nI 4) dX10_layComing_55 (by decide) ?_
    refine aw_iload_n dX10_layComing_56 rfl ?_
    refine aw_imul dX10_layComing_57 ?_
    refine aw_eq (show _ = nI (4 * k) by rw [pk_mul]) ?_
    refine aw_aload_n dX10_layComing_58 rfl ?_
    refine gf10_missedWay dX10_layComing_59 kf10_217 k_176 ?_
    refine aw_eq v2 ?_
    refine aw_sto (4 * k) dX10_layComing_62 k_191 (rfl) (by omega) ?_
    refine aw_aload_n dX10_layComing_63 rfl ?_
    refine gf10_coming dX10_layComing_64 kf10_52 k_176 ?_
    refine aw_eqr (b := 191) rfl ?_
    refine aw_ic (nI 4) dX10_layComing_67 (by decide) ?_
    refine aw_iload_n dX10_layComing_68 rfl ?_
    refine aw_imul dX10_layComing_69 ?_
    refine aw_eq (show _ = nI (4 * k) by rw [pk_mul]) ?_
    refine aw_ic (nI 1) dX10_layComing_70 (by decide) ?_
    refine aw_iadd dX10_layComing_71 ?_
    refine aw_aload_n dX10_layComing_72 rfl ?_
    refine aw_iload_n dX10_layComing_73 rfl ?_
    refine aw_aload_n dX10_layComing_74 rfl ?_
    refine gf10_missedWay dX10_layComing_75 kf10_217 k_176 ?_
    refine aw_eq v2 ?_
    refine aw_aload_n dX10_layComing_78 rfl ?_
    refine gf10_missedLine dX10_layComing_79 kf10_220 k_176 ?_
    refine aw_eq v3 ?_
    refine cqi3 dX10_layComing_82 km10_155 ok_X10_lineAt rfl rfl (by decide) k_176 (Nat.le_of_ble_eq_true rfl) ⟨Nat.le_of_ble_eq_true rfl, Nat.le_of_ble_eq_true rfl⟩ rfl rfl (ct_lineAt (t := t) (w := 0) (k := ln) (by omega)) ?_
    refine aw_eq (tA (by decide) ((f6 t 0 ht (by decide)).2 ln (by omega))) ?_
    refine aw_sto (4 * k + 1) dX10_layComing_85 k_191 (by rw [nI_add]) (by omega) ?_
    refine aw_sg (show _ = (J, uA σ.2.1 191 (upd (upd (σ.2.1 191) (4 * k) (nI 0)) (4 * k + 1) (nI (pPl P t 0 ln))), σ.2.2) by rw [uA_s, uA_uA]) ?_
    refine aw_aload_n dX10_layComing_86 rfl ?_
    refine gf10_coming dX10_layComing_87 kf10_52 k_176 ?_
    refine aw_eqr (b := 191) rfl ?_
    refine aw_ic (nI 4) dX10_layComing_90 (by decide) ?_
    refine aw_iload_n dX10_layComing_91 rfl ?_
    refine aw_imul dX10_layComing_92 ?_
    refine aw_eq (show _ = nI (4 * k) by rw [pk_mul]) ?_
    refine aw_ic (nI 2) dX10_layComing_93 (by decide) ?_
    refine aw_iadd dX10_layComing_94 ?_
    refine aw_aload_n dX10_layComing_95 rfl ?_
    refine aw_iload_n dX10_layComing_96 rfl ?_
    refine aw_ic (nI 1) dX10_layComing_97 (by decide) ?_
    refine aw_aload_n dX10_layComing_98 rfl ?_
    refine gf10_missedWay dX10_layComing_99 kf10_217 k_176 ?_
    refine aw_eq v2 ?_
    refine aw_isub dX10_layComing_102 ?_
    refine aw_eq (show _ = nI 1 by decide) ?_
    refine aw_iload_n dX10_layComing_103 rfl ?_
    refine cqi3 dX10_layComing_104 km10_155 ok_X10_lineAt rfl rfl (by decide) k_176 (Nat.le_of_ble_eq_true rfl) ⟨Nat.le_of_ble_eq_true rfl, Nat.le_of_ble_eq_true rfl⟩ rfl rfl (ct_lineAt (t := t) (w := 1) (k := pCw P t q 1) (by omega)) ?_
    refine aw_eq (tA (by decide) ((f6 t 1 ht (by decide)).2 (pCw P t q 1) (by omega))) ?_
    refine aw_sto (4 * k + 2) dX10_layComing_107 k_191 (by rw [nI_add]) (by omega) ?_
    refine aw_sg (show _ = (J, uA σ.2.1 191 (upd (upd (upd (σ.2.1 191) (4 * k) (nI 0)) (4 * k + 1) (nI (pPl P t 0 ln))) (4 * k + 2) (nI (pPl P t 1 (pCw P t q 1)))), σ.2.2) by rw [uA_s, uA_uA]) ?_
    refine aw_aload_n dX10_layComing_108 rfl ?_
    refine gf10_coming dX10_layComing_109 kf10_52 k_176 ?_
    refine aw_eqr (b := 191) rfl ?_
    refine aw_ic (nI 4) dX10_layComing_112 (by decide) ?_
    refine aw_iload_n dX10_layComing_113 rfl ?_
    refine aw_imul dX10_layComing_114 ?_
    refine aw_eq (show _ = nI (4 * k) by rw [pk_mul]) ?_
    refine aw_ic (nI 3) dX10_layComing_115 (by decide) ?_
    refine aw_iadd dX10_layComing_116 ?_
    refine aw_aload_n dX10_layComing_117 rfl ?_
    refine aw_iload_n dX10_layComing_118 rfl ?_
    refine aw_ic (nI 1) dX10_layComing_119 (by decide) ?_
    refine aw_aload_n dX10_layComing_120 rfl ?_
    refine gf10_missedWay dX10_layComing_121 kf10_217 k_176 ?_
    refine aw_eq v2 ?_
    refine aw_isub dX10_layComing_124 ?_
    refine aw_eq (show _ = nI 1 by decide) ?_
    refine aw_iload_n dX10_layComing_125 rfl ?_
    refine aw_iload dX10_layComing_126 rfl ?_
    refine aw_iadd dX10_layComing_128 ?_
    refine aw_eq (nI_add _ _) ?_
    refine cqi3 dX10_layComing_129 km10_155 ok_X10_lineAt rfl rfl (by decide) k_176 (Nat.le_of_ble_eq_true rfl) ⟨Nat.le_of_ble_eq_true rfl, Nat.le_of_ble_eq_true rfl⟩ rfl rfl (ct_lineAt (t := t) (w := 1) (k := pCw P t q 1 + pCw P t q 3) (by omega)) ?_
    refine aw_eq (tA (by decide) ((f6 t 1 ht (by decide)).2 (pCw P t q 1 + pCw P t q 3) (by omega))) ?_
    refine aw_sto (4 * k + 3) dX10_layComing_132 k_191 (by rw [nI_add]) (by omega) ?_
    refine aw_sg (show _ = (J, uA σ.2.1 191 (upd (upd (upd (upd (σ.2.1 191) (4 * k) (nI 0)) (4 * k + 1) (nI (pPl P t 0 ln))) (4 * k + 2) (nI (pPl P t 1 (pCw P t q 1)))) (4 * k + 3) (nI (pPl P t 1 (pCw P t q 1 + pCw P t q 3)))), σ.2.2) by rw [uA_s, uA_uA]) ?_
    exact aw_ret dX10_layComing_133 (by obtain ⟨h, e, e1, e2⟩ := @u44 (σ.2.1 191) (4 * k) (mdP P t (q, 0, ln)); exact ⟨J, h, by rw [← e]; rfl, hM, e1, e2⟩)
  · skip
    have hfs : pCw P t q 0 + pCw P t q 2 < pN P t 0 := hfs
    refine aw_aload_n dX10_layComing_0 rfl ?_
    refine aw_iload_n dX10_layComing_1 rfl ?_
    refine aw_iload_n dX10_layComing_2 rfl ?_
    refine cvv2 dX10_layComing_3 km10_226 ok_X10_findMissed rfl rfl (by decide) k_176 (Nat.le_of_ble_eq_true rfl) ⟨Nat.le_of_ble_eq_true rfl, Nat.le_of_ble_eq_true rfl⟩ rfl rfl (ctM_findMissed hF hPg hK hV ht) ?_
    intro σ2 hp_m
    obtain ⟨J, rfl, hM, hN⟩ := hp_m
    obtain ⟨v1, v2, v3⟩ := hN.2 k _ he rfl
    dsimp only at v1 v2 v3
    refine aw_aload_n dX10_layComing_6 rfl ?_
    refine aw_aload_n dX10_layComing_7 rfl ?_
    refine gf10_missedCell dX10_layComing_8 kf10_214 k_176 ?_
    refine aw_eq v1 ?_
    refine aw_aload_n dX10_layComing_11 rfl ?_
    refine gf10_missedWay dX10_layComing_12 kf10_217 k_176 ?_
    refine aw_eq v2 ?_
    refine aw_ic (nI 1) dX10_layComing_15 (by decide) ?_
    refine aw_icmp_neN dX10_layComing_16 (a := 1) rfl (b := 1) rfl (by decide) (by decide) (fun h_16 => absurd h_16 (by omega)) (fun h_16 => ?_)
    refine aw_ic (nI 0) dX10_layComing_19 (by decide) ?_
    refine aw_goto dX10_layComing_20 ?_
    refine cqi2 dX10_layComing_24 km10_174 ok_X10_cellAt rfl rfl (by decide) k_176 (Nat.le_of_ble_eq_true rfl) ⟨Nat.le_of_ble_eq_true rfl, Nat.le_of_ble_eq_true rfl⟩ rfl rfl (ct_cellAt (r := pCF P t + q) (w := 0) (by omega)) ?_
    refine aw_eq (f9 t q 0 ht hq (by decide)) ?_
    refine aw_istore_n dX10_layComing_27 (Nat.le_of_ble_eq_true rfl) ?_
    refine aw_aload_n dX10_layComing_28 rfl ?_
    refine aw_aload_n dX10_layComing_29 rfl ?_
    refine gf10_missedCell dX10_layComing_30 kf10_214 k_176 ?_
    refine aw_eq v1 ?_
    refine aw_aload_n dX10_layComing_33 rfl ?_
    refine gf10_missedWay dX10_layComing_34 kf10_217 k_176 ?_
    refine aw_eq v2 ?_
    refine aw_ic (nI 1) dX10_layComing_37 (by decide) ?_
    refine aw_icmp_neN dX10_layComing_38 (a := 1) rfl (b := 1) rfl (by decide) (by decide) (fun h_38 => absurd h_38 (by omega)) (fun h_38 => ?_)
    refine aw_ic (nI 2) dX10_layComing_41 (by decide) ?_
    refine aw_goto dX10_layComing_42 ?_
    refine cqi2 dX10_layComing_46 km10_174 ok_X10_cellAt rfl rfl (by decide) k_176 (Nat.le_of_ble_eq_true rfl) ⟨Nat.le_of_ble_eq_true rfl, Nat.le_of_ble_eq_true rfl⟩ rfl rfl (ct_cellAt (r := pCF P t + q) (w := 2) (by omega)) ?_
    refine aw_eq (f9 t q 2 ht hq (by decide)) ?_
    refine aw_istore dX10_layComing_49 (Nat.le_of_ble_eq_true rfl) ?_
    refine aw_aload_n dX10_layComing_51 rfl ?_
    refine gf10_coming dX10_layComing_52 kf10_52 k_176 ?_
    refine aw_eqr (b := 191) rfl ?_
    refine aw_ic (nI 4) dX10_layComing_55 (by decide) ?_
    refine aw_iload_n dX10_layComing_56 rfl ?_
    refine aw_imul dX10_layComing_57 ?_
    refine aw_eq (show _ = nI (4 * k) by rw [pk_mul]) ?_
    refine aw_aload_n dX10_layComing_58 rfl ?_
    refine gf10_missedWay dX10_layComing_59 kf10_217 k_176 ?_
    refine aw_eq v2 ?_
    refine aw_sto (4 * k) dX10_layComing_62 k_191 (rfl) (by omega) ?_
    refine aw_aload_n dX10_layComing_63 rfl ?_
    refine gf10_coming dX10_layComing_64 kf10_52 k_176 ?_
    refine aw_eqr (b := 191) rfl ?_
    refine aw_ic (nI 4) dX10_layComing_67 (by decide) ?_
    refine aw_iload_n dX10_layComing_68 rfl ?_
    refine aw_imul dX10_layComing_69 ?_
    refine aw_eq (show _ = nI (4 * k) by rw [pk_mul]) ?_
    refine aw_ic (nI 1) dX10_layComing_70 (by decide) ?_
    refine aw_iadd dX10_layComing_71 ?_
    refine aw_aload_n dX10_layComing_72 rfl ?_
    refine aw_iload_n dX10_layComing_73 rfl ?_
    refine aw_aload_n dX10_layComing_74 rfl ?_
    refine gf10_missedWay dX10_layComing_75 kf10_217 k_176 ?_
    refine aw_eq v2 ?_
    refine aw_aload_n dX10_layComing_78 rfl ?_
    refine gf10_missedLine dX10_layComing_79 kf10_220 k_176 ?_
    refine aw_eq v3 ?_
    refine cqi3 dX10_layComing_82 km10_155 ok_X10_lineAt rfl rfl (by decide) k_176 (Nat.le_of_ble_eq_true rfl) ⟨Nat.le_of_ble_eq_true rfl, Nat.le_of_ble_eq_true rfl⟩ rfl rfl (ct_lineAt (t := t) (w := 1) (k := ln) (by omega)) ?_
    refine aw_eq (tA (by decide) ((f6 t 1 ht (by decide)).2 ln (by omega))) ?_
    refine aw_sto (4 * k + 1) dX10_layComing_85 k_191 (by rw [nI_add]) (by omega) ?_
    refine aw_sg (show _ = (J, uA σ.2.1 191 (upd (upd (σ.2.1 191) (4 * k) (nI 1)) (4 * k + 1) (nI (pPl P t 1 ln))), σ.2.2) by rw [uA_s, uA_uA]) ?_
    refine aw_aload_n dX10_layComing_86 rfl ?_
    refine gf10_coming dX10_layComing_87 kf10_52 k_176 ?_
    refine aw_eqr (b := 191) rfl ?_
    refine aw_ic (nI 4) dX10_layComing_90 (by decide) ?_
    refine aw_iload_n dX10_layComing_91 rfl ?_
    refine aw_imul dX10_layComing_92 ?_
    refine aw_eq (show _ = nI (4 * k) by rw [pk_mul]) ?_
    refine aw_ic (nI 2) dX10_layComing_93 (by decide) ?_
    refine aw_iadd dX10_layComing_94 ?_
    refine aw_aload_n dX10_layComing_95 rfl ?_
    refine aw_iload_n dX10_layComing_96 rfl ?_
    refine aw_ic (nI 1) dX10_layComing_97 (by decide) ?_
    refine aw_aload_n dX10_layComing_98 rfl ?_
    refine gf10_missedWay dX10_layComing_99 kf10_217 k_176 ?_
    refine aw_eq v2 ?_
    refine aw_isub dX10_layComing_102 ?_
    refine aw_eq (show _ = nI 0 by decide) ?_
    refine aw_iload_n dX10_layComing_103 rfl ?_
    refine cqi3 dX10_layComing_104 km10_155 ok_X10_lineAt rfl rfl (by decide) k_176 (Nat.le_of_ble_eq_true rfl) ⟨Nat.le_of_ble_eq_true rfl, Nat.le_of_ble_eq_true rfl⟩ rfl rfl (ct_lineAt (t := t) (w := 0) (k := pCw P t q 0) (by omega)) ?_
    refine aw_eq (tA (by decide) ((f6 t 0 ht (by decide)).2 (pCw P t q 0) (by omega))) ?_
    refine aw_sto (4 * k + 2) dX10_layComing_107 k_191 (by rw [nI_add]) (by omega) ?_
    refine aw_sg (show _ = (J, uA σ.2.1 191 (upd (upd (upd (σ.2.1 191) (4 * k) (nI 1)) (4 * k + 1) (nI (pPl P t 1 ln))) (4 * k + 2) (nI (pPl P t 0 (pCw P t q 0)))), σ.2.2) by rw [uA_s, uA_uA]) ?_
    refine aw_aload_n dX10_layComing_108 rfl ?_
    refine gf10_coming dX10_layComing_109 kf10_52 k_176 ?_
    refine aw_eqr (b := 191) rfl ?_
    refine aw_ic (nI 4) dX10_layComing_112 (by decide) ?_
    refine aw_iload_n dX10_layComing_113 rfl ?_
    refine aw_imul dX10_layComing_114 ?_
    refine aw_eq (show _ = nI (4 * k) by rw [pk_mul]) ?_
    refine aw_ic (nI 3) dX10_layComing_115 (by decide) ?_
    refine aw_iadd dX10_layComing_116 ?_
    refine aw_aload_n dX10_layComing_117 rfl ?_
    refine aw_iload_n dX10_layComing_118 rfl ?_
    refine aw_ic (nI 1) dX10_layComing_119 (by decide) ?_
    refine aw_aload_n dX10_layComing_120 rfl ?_
    refine gf10_missedWay dX10_layComing_121 kf10_217 k_176 ?_
    refine aw_eq v2 ?_
    refine aw_isub dX10_layComing_124 ?_
    refine aw_eq (show _ = nI 0 by decide) ?_
    refine aw_iload_n dX10_layComing_125 rfl ?_
    refine aw_iload dX10_layComing_126 rfl ?_
    refine aw_iadd dX10_layComing_128 ?_
    refine aw_eq (nI_add _ _) ?_
    refine cqi3 dX10_layComing_129 km10_155 ok_X10_lineAt rfl rfl (by decide) k_176 (Nat.le_of_ble_eq_true rfl) ⟨Nat.le_of_ble_eq_true rfl, Nat.le_of_ble_eq_true rfl⟩ rfl rfl (ct_lineAt (t := t) (w := 0) (k := pCw P t q 0 + pCw P t q 2) (by omega)) ?_
    refine aw_eq (tA (by decide) ((f6 t 0 ht (by decide)).2 (pCw P t q 0 + pCw P t q 2) (by omega))) ?_
    refine aw_sto (4 * k + 3) dX10_layComing_132 k_191 (by rw [nI_add]) (by omega) ?_
    refine aw_sg (show _ = (J, uA σ.2.1 191 (upd (upd (upd (upd (σ.2.1 191) (4 * k) (nI 1)) (4 * k + 1) (nI (pPl P t 1 ln))) (4 * k + 2) (nI (pPl P t 0 (pCw P t q 0)))) (4 * k + 3) (nI (pPl P t 0 (pCw P t q 0 + pCw P t q 2)))), σ.2.2) by rw [uA_s, uA_uA]) ?_
    exact aw_ret dX10_layComing_133 (by obtain ⟨h, e, e1, e2⟩ := @u44 (σ.2.1 191) (4 * k) (mdP P t (q, 1, ln)); exact ⟨J, h, by rw [← e]; rfl, hM, e1, e2⟩)

theorem mdL_s {P : Pg} {t k : Nat} {e : Nat × Nat × Nat} (he : (pMis P t)[k]? = some e) : mdL P t (k + 1) = addP (mdL P t k) (mdP P t e) := by
  show (match (pMis P t)[k]? with | none => _ | some e => _) = _
  rw [he]
set_option maxHeartbeats 4000000 in
set_option maxRecDepth 100000 in
theorem ctM_mend {g : GG} {σ : SG} {S : Sp} (hK : FOKs) (hI : InvM σ S) (x : Int32) : Cti g yX10_mend cX10_mend 4 (some .int) (rmm 7 170) [.ref (ad g 176), .int x] σ (PoM σ (sMend S x)) := by
  refine ct_of (own := RX10) (lv := [some (.ref (ad g 176)), some (.int x), none, none]) rfl (by decide) (Nat.le_of_ble_eq_true rfl) (by intro u hu; simp only [List.mem_cons, List.not_mem_nil, or_false] at hu; rcases hu with rfl | rfl <;> rfl) (lv_ok [.ref (ad g 176), .int x] 2) ?_
  have hV := hI.2.1
  have hT6 := pT_le hK hV
  have hM24 := pM_le hV
  have hc24 := hV.1
  have hw20 := hV.2.2.1
  have hl191 := l_191
  rcases ix_cases x (n := pT S.1) (by omega) with ⟨h, e⟩ | ⟨t, ht, rfl, e⟩
  · skip
    refine aw_aload_n dX10_mend_0 rfl ?_
    refine aw_iload_n dX10_mend_1 rfl ?_
    refine cvi1 dX10_mend_2 km10_198 ok_X10_isTable rfl rfl (by decide) k_176 (Nat.le_of_ble_eq_true rfl) ⟨Nat.le_of_ble_eq_true rfl, Nat.le_of_ble_eq_true rfl⟩ rfl rfl (ct_isTable hK hI _) ?_
    intro r9 σ1 hp_t
    obtain ⟨rfl, hI1, hF, hFr⟩ := hp_t
    obtain ⟨f1, f2, f3, f4, f5, f6, f7, f8, f9, f10⟩ := id hF
    have G := FnS.g.mp hF
    obtain ⟨⟨hc1, hp1, hcw1, hw1, hs01, hs11, hs21⟩, -, -, -⟩ := id hI1
    refine aw_if_neB dX10_mend_5 rfl (fun h_5 => absurd h_5 (ix_no rfl h)) (fun h_5 => ?_)
    refine aw_ic (-1) dX10_mend_8 (by decide) ?_
    exact aw_ireti dX10_mend_9 (PoM.mk (by unfold sMend; rw [e]) hI1 hFr)
  · skip
    have hlen : (pMis S.1 t).length ≤ 121 := mis_b hK hV ht (Nat.le_refl _)
    by_cases h0 : (pMis S.1 t).length = 0
    · skip
      refine aw_aload_n dX10_mend_0 rfl ?_
      refine aw_iload_n dX10_mend_1 rfl ?_
      refine cvi1 dX10_mend_2 km10_198 ok_X10_isTable rfl rfl (by decide) k_176 (Nat.le_of_ble_eq_true rfl) ⟨Nat.le_of_ble_eq_true rfl, Nat.le_of_ble_eq_true rfl⟩ rfl rfl (ct_isTable hK hI _) ?_
      intro r9 σ1 hp_t
      obtain ⟨rfl, hI1, hF, hFr⟩ := hp_t
      obtain ⟨f1, f2, f3, f4, f5, f6, f7, f8, f9, f10⟩ := id hF
      have G := FnS.g.mp hF
      obtain ⟨⟨hc1, hp1, hcw1, hw1, hs01, hs11, hs21⟩, -, -, -⟩ := id hI1
      refine aw_if_neB dX10_mend_5 rfl (fun h_5 => ?_) (fun h_5 => absurd h_5 (not_not_intro (ix_yes rfl ht (by omega))))
      refine aw_aload_n dX10_mend_10 rfl ?_
      refine aw_iload_n dX10_mend_11 rfl ?_
      refine aw_bi (-6) dX10_mend_12 (by decide) ?_
      refine cvv2 dX10_mend_14 km10_226 ok_X10_findMissed rfl rfl (by decide) k_176 (Nat.le_of_ble_eq_true rfl) ⟨Nat.le_of_ble_eq_true rfl, Nat.le_of_ble_eq_true rfl⟩ rfl rfl (ctM_findMissed hF hI1.1 hK hV ht) ?_
      intro σ2 hp_m
      obtain ⟨J, rfl, hM, hN⟩ := hp_m
      have hI2 := hI1.ms hM (fun q _ => rfl)
      have hFr2 := hFr.ms hM (fun q _ => rfl)
      try dsimp only
      refine aw_aload_n dX10_mend_17 rfl ?_
      refine gf10_missedMany dX10_mend_18 kf10_211 k_176 ?_
      refine aw_eq hN.1 ?_
      refine aw_istore_n dX10_mend_21 (Nat.le_of_ble_eq_true rfl) ?_
      refine aw_iload_n dX10_mend_22 rfl ?_
      refine aw_if_neN dX10_mend_23 rfl (by omega) (fun h_23 => absurd h_23 (by omega)) (fun h_23 => ?_)
      refine aw_bi (-5) dX10_mend_26 (by decide) ?_
      exact aw_ireti dX10_mend_28 (PoM.mk (by unfold sMend; rw [e]; dsimp only; rw [if_pos h0]) hI2 hFr2)
    · skip
      by_cases h24 : 24 < S.1.1 + (pMis S.1 t).length
      · skip
        refine aw_aload_n dX10_mend_0 rfl ?_
        refine aw_iload_n dX10_mend_1 rfl ?_
        refine cvi1 dX10_mend_2 km10_198 ok_X10_isTable rfl rfl (by decide) k_176 (Nat.le_of_ble_eq_true rfl) ⟨Nat.le_of_ble_eq_true rfl, Nat.le_of_ble_eq_true rfl⟩ rfl rfl (ct_isTable hK hI _) ?_
        intro r9 σ1 hp_t
        obtain ⟨rfl, hI1, hF, hFr⟩ := hp_t
        obtain ⟨f1, f2, f3, f4, f5, f6, f7, f8, f9, f10⟩ := id hF
        have G := FnS.g.mp hF
        obtain ⟨⟨hc1, hp1, hcw1, hw1, hs01, hs11, hs21⟩, -, -, -⟩ := id hI1
        refine aw_if_neB dX10_mend_5 rfl (fun h_5 => ?_) (fun h_5 => absurd h_5 (not_not_intro (ix_yes rfl ht (by omega))))
        refine aw_aload_n dX10_mend_10 rfl ?_
        refine aw_iload_n dX10_mend_11 rfl ?_
        refine aw_bi (-6) dX10_mend_12 (by decide) ?_
        refine cvv2 dX10_mend_14 km10_226 ok_X10_findMissed rfl rfl (by decide) k_176 (Nat.le_of_ble_eq_true rfl) ⟨Nat.le_of_ble_eq_true rfl, Nat.le_of_ble_eq_true rfl⟩ rfl rfl (ctM_findMissed hF hI1.1 hK hV ht) ?_
        intro σ2 hp_m
        obtain ⟨J, rfl, hM, hN⟩ := hp_m
        have hI2 := hI1.ms hM (fun q _ => rfl)
        have hFr2 := hFr.ms hM (fun q _ => rfl)
        try dsimp only
        refine aw_aload_n dX10_mend_17 rfl ?_
        refine gf10_missedMany dX10_mend_18 kf10_211 k_176 ?_
        refine aw_eq hN.1 ?_
        refine aw_istore_n dX10_mend_21 (Nat.le_of_ble_eq_true rfl) ?_
        refine aw_iload_n dX10_mend_22 rfl ?_
        refine aw_if_neN dX10_mend_23 rfl (by omega) (fun h_23 => ?_) (fun h_23 => absurd h_23 (by omega))
        refine aw_aload_n dX10_mend_29 rfl ?_
        refine gf10_drawnMany dX10_mend_30 kf10_80 k_176 ?_
        refine aw_eq ((hM 321 176 (by decide)).trans hc1) ?_
        refine aw_iload_n dX10_mend_33 rfl ?_
        refine aw_iadd dX10_mend_34 ?_
        refine aw_eq (nI_add _ _) ?_
        refine aw_bi (nI 24) dX10_mend_35 (by decide) ?_
        refine aw_icmp_leN dX10_mend_37 rfl (b := 24) rfl (by omega) (by omega) (fun h_37 => absurd h_37 (by omega)) (fun h_37 => ?_)
        refine aw_bi (-4) dX10_mend_40 (by decide) ?_
        exact aw_ireti dX10_mend_42 (PoM.mk (by unfold sMend; rw [e]; dsimp only; rw [if_neg h0, if_pos h24]) hI2 hFr2)
      · skip
        refine aw_aload_n dX10_mend_0 rfl ?_
        refine aw_iload_n dX10_mend_1 rfl ?_
        refine cvi1 dX10_mend_2 km10_198 ok_X10_isTable rfl rfl (by decide) k_176 (Nat.le_of_ble_eq_true rfl) ⟨Nat.le_of_ble_eq_true rfl, Nat.le_of_ble_eq_true rfl⟩ rfl rfl (ct_isTable hK hI _) ?_
        intro r9 σ1 hp_t
        obtain ⟨rfl, hI1, hF, hFr⟩ := hp_t
        obtain ⟨f1, f2, f3, f4, f5, f6, f7, f8, f9, f10⟩ := id hF
        have G := FnS.g.mp hF
        obtain ⟨⟨hc1, hp1, hcw1, hw1, hs01, hs11, hs21⟩, -, -, -⟩ := id hI1
        refine aw_if_neB dX10_mend_5 rfl (fun h_5 => ?_) (fun h_5 => absurd h_5 (not_not_intro (ix_yes rfl ht (by omega))))
        refine aw_aload_n dX10_mend_10 rfl ?_
        refine aw_iload_n dX10_mend_11 rfl ?_
        refine aw_bi (-6) dX10_mend_12 (by decide) ?_
        refine cvv2 dX10_mend_14 km10_226 ok_X10_findMissed rfl rfl (by decide) k_176 (Nat.le_of_ble_eq_true rfl) ⟨Nat.le_of_ble_eq_true rfl, Nat.le_of_ble_eq_true rfl⟩ rfl rfl (ctM_findMissed hF hI1.1 hK hV ht) ?_
        intro σ2 hp_m
        obtain ⟨J, rfl, hM, hN⟩ := hp_m
        have hI2 := hI1.ms hM (fun q _ => rfl)
        have hFr2 := hFr.ms hM (fun q _ => rfl)
        try dsimp only
        refine aw_aload_n dX10_mend_17 rfl ?_
        refine gf10_missedMany dX10_mend_18 kf10_211 k_176 ?_
        refine aw_eq hN.1 ?_
        refine aw_istore_n dX10_mend_21 (Nat.le_of_ble_eq_true rfl) ?_
        refine aw_iload_n dX10_mend_22 rfl ?_
        refine aw_if_neN dX10_mend_23 rfl (by omega) (fun h_23 => ?_) (fun h_23 => absurd h_23 (by omega))
        refine aw_aload_n dX10_mend_29 rfl ?_
        refine gf10_drawnMany dX10_mend_30 kf10_80 k_176 ?_
        refine aw_eq ((hM 321 176 (by decide)).trans hc1) ?_
        refine aw_iload_n dX10_mend_33 rfl ?_
        refine aw_iadd dX10_mend_34 ?_
        refine aw_eq (nI_add _ _) ?_
        refine aw_bi (nI 24) dX10_mend_35 (by decide) ?_
        refine aw_icmp_leN dX10_mend_37 rfl (b := 24) rfl (by omega) (by omega) (fun h_37 => ?_) (fun h_37 => absurd h_37 (by omega))
        refine aw_ic (nI 0) dX10_mend_43 (by decide) ?_
        refine aw_istore_n dX10_mend_44 (Nat.le_of_ble_eq_true rfl) ?_
        refine for_ux (fun i σ' lv' => ∃ J2 h9, σ' = (J2, uA σ1.2.1 191 h9, σ1.2.2) ∧ MsF σ1.1 J2 ∧ (∀ k j e, k < i → j < 4 → (pMis S.1 t)[k]? = some e → h9 (4 * k + j) = nI (mdP S.1 t e j)) ∧ lv' = [some (.ref (ad g 176)), some (.int (nI t)), some (.int (nI (pMis S.1 t).length)), some (.int (nI i))]) ((pMis S.1 t).length) ?_ ?_ (0) _ _ (by omega) (⟨J, σ1.2.1 191, by rw [uA_same], hM, fun k j e hk => absurd hk (Nat.not_lt_zero k), rfl⟩)
        · rintro i σ6 lv2 hi ⟨J2, h9, rfl, hM2, hh, rfl⟩ ih
          have he := List.getElem?_eq_getElem hi
          refine aw_iload_n dX10_mend_45 rfl ?_
          refine aw_iload_n dX10_mend_46 rfl ?_
          refine aw_icmp_geN dX10_mend_47 rfl rfl (by omega) (by omega) (fun h_47 => absurd h_47 (by omega)) (fun h_47 => ?_)
          refine aw_aload_n dX10_mend_50 rfl ?_
          refine aw_iload_n dX10_mend_51 rfl ?_
          refine aw_iload_n dX10_mend_52 rfl ?_
          refine cvv2 dX10_mend_53 km10_229 ok_X10_layComing rfl rfl (by decide) k_176 (Nat.le_of_ble_eq_true rfl) ⟨Nat.le_of_ble_eq_true rfl, Nat.le_of_ble_eq_true rfl⟩ rfl rfl (ct_layComing (hF.ms hM2 (fun q hq => uA_n hq)) (hI1.1.ms hM2 (fun q hq => uA_n hq)) hK hV ht (by omega) he) ?_
          intro σ3 hp_53
          obtain ⟨J3, h3, rfl, hM3, m1, m2⟩ := hp_53
          try dsimp only
          refine aw_inc (nI (i + 1)) dX10_mend_56 rfl (Nat.le_of_ble_eq_true rfl) (nI_1 i) ?_
          refine aw_goto dX10_mend_59 ?_
          exact ih _ _ ⟨J3, h3, by rw [uA_uA], hM2.trans hM3, fun k j e hk hj hke => by
            by_cases z : k = i
            · subst z
              rw [he] at hke
              cases hke
              exact m1 j hj
            · exact (m2 _ (by omega)).trans (tS (hh k j e (by omega) hj hke)), rfl⟩
        · rintro σ6 lv2 ⟨J2, h9, rfl, hM2, hh, rfl⟩
          refine aw_iload_n dX10_mend_45 rfl ?_
          refine aw_iload_n dX10_mend_46 rfl ?_
          refine aw_icmp_geN dX10_mend_47 rfl rfl (by omega) (by omega) (fun h_47 => ?_) (fun h_47 => absurd h_47 (by omega))
          refine aw_ic (nI 0) dX10_mend_62 (by decide) ?_
          refine aw_istore_n dX10_mend_63 (Nat.le_of_ble_eq_true rfl) ?_
          refine for_ux (fun i σ' lv' => ∃ J3 B, σ' = (J3, B, σ1.2.2) ∧ PgS (J3, B, σ1.2.2) (mdL S.1 t i) ∧ B 191 = h9 ∧ (∀ f q, q ≠ 176 → J3 f q = σ1.1 f q) ∧ (∀ q, (q < 176 ∨ q = 192 ∨ q = 193) → B q = σ1.2.1 q) ∧ (0 < i → J3 325 176 = 0) ∧ lv' = [some (.ref (ad g 176)), some (.int (nI t)), some (.int (nI (pMis S.1 t).length)), some (.int (nI i))]) ((pMis S.1 t).length) ?_ ?_ (0) _ _ (by omega) (⟨J2, _, rfl, hI1.1.ms hM2 (fun q hq => uA_n hq), uA_s _ _ _, fun f q h => hM2 f q (by omega), fun q h => uA_n (by omega), fun h => absurd h (Nat.lt_irrefl 0), rfl⟩)
          · rintro i σ5 lv2 hi ⟨J3, B, rfl, pg, b1, b2, b3, b4, rfl⟩ ih2
            have he := List.getElem?_eq_getElem hi
            have hmo := (mdL_ok hK hV ht (by omega) i (by omega)).2.1
            refine aw_iload_n dX10_mend_64 rfl ?_
            refine aw_iload_n dX10_mend_65 rfl ?_
            refine aw_icmp_geN dX10_mend_66 rfl rfl (by omega) (by omega) (fun h_66 => absurd h_66 (by omega)) (fun h_66 => ?_)
            refine aw_aload_n dX10_mend_69 rfl ?_
            refine aw_aload_n dX10_mend_70 rfl ?_
            refine gf10_coming dX10_mend_71 kf10_52 k_176 ?_
            refine aw_eqr (b := 191) rfl ?_
            refine aw_ic (nI 4) dX10_mend_74 (by decide) ?_
            refine aw_iload_n dX10_mend_75 rfl ?_
            refine aw_imul dX10_mend_76 ?_
            refine aw_eq (show _ = nI (4 * i) by rw [pk_mul]) ?_
            refine aw_ld (4 * i) dX10_mend_77 k_191 (rfl) (by omega) ?_
            refine aw_eq ((congrFun b1 _).trans (hh i 0 _ hi (by decide) he)) ?_
            refine aw_aload_n dX10_mend_78 rfl ?_
            refine gf10_coming dX10_mend_79 kf10_52 k_176 ?_
            refine aw_eqr (b := 191) rfl ?_
            refine aw_ic (nI 4) dX10_mend_82 (by decide) ?_
            refine aw_iload_n dX10_mend_83 rfl ?_
            refine aw_imul dX10_mend_84 ?_
            refine aw_eq (show _ = nI (4 * i) by rw [pk_mul]) ?_
            refine aw_ic (nI 1) dX10_mend_85 (by decide) ?_
            refine aw_iadd dX10_mend_86 ?_
            refine aw_ld (4 * i + 1) dX10_mend_87 k_191 (by rw [nI_add]) (by omega) ?_
            refine aw_eq ((congrFun b1 _).trans (hh i 1 _ hi (by decide) he)) ?_
            refine aw_aload_n dX10_mend_88 rfl ?_
            refine gf10_coming dX10_mend_89 kf10_52 k_176 ?_
            refine aw_eqr (b := 191) rfl ?_
            refine aw_ic (nI 4) dX10_mend_92 (by decide) ?_
            refine aw_iload_n dX10_mend_93 rfl ?_
            refine aw_imul dX10_mend_94 ?_
            refine aw_eq (show _ = nI (4 * i) by rw [pk_mul]) ?_
            refine aw_ic (nI 2) dX10_mend_95 (by decide) ?_
            refine aw_iadd dX10_mend_96 ?_
            refine aw_ld (4 * i + 2) dX10_mend_97 k_191 (by rw [nI_add]) (by omega) ?_
            refine aw_eq ((congrFun b1 _).trans (hh i 2 _ hi (by decide) he)) ?_
            refine aw_aload_n dX10_mend_98 rfl ?_
            refine gf10_coming dX10_mend_99 kf10_52 k_176 ?_
            refine aw_eqr (b := 191) rfl ?_
            refine aw_ic (nI 4) dX10_mend_102 (by decide) ?_
            refine aw_iload_n dX10_mend_103 rfl ?_
            refine aw_imul dX10_mend_104 ?_
            refine aw_eq (show _ = nI (4 * i) by rw [pk_mul]) ?_
            refine aw_ic (nI 3) dX10_mend_105 (by decide) ?_
            refine aw_iadd dX10_mend_106 ?_
            refine aw_ld (4 * i + 3) dX10_mend_107 k_191 (by rw [nI_add]) (by omega) ?_
            refine aw_eq ((congrFun b1 _).trans (hh i 3 _ hi (by decide) he)) ?_
            refine cvv4 dX10_mend_108 km10_88 ok_X10_addPiece rfl rfl (by decide) k_176 (Nat.le_of_ble_eq_true rfl) ⟨Nat.le_of_ble_eq_true rfl, Nat.le_of_ble_eq_true rfl⟩ rfl rfl (ct_addPiece (c := (mdL S.1 t i).1) pg.1 (by omega) _ _ _ _) ?_
            intro σ4 hp_108
            subst hp_108
            try dsimp only
            refine aw_inc (nI (i + 1)) dX10_mend_111 rfl (Nat.le_of_ble_eq_true rfl) (nI_1 i) ?_
            refine aw_goto dX10_mend_114 ?_
            exact ih2 _ _ ⟨_, _, rfl, by
              rw [mdL_s he]
              exact PgS.mk9 ((uI_f (by decide)).trans (uI_s _ _ _ _)) (fun p x h1 h2 => sB (dAdd pg.2.1 (mdP S.1 t (pMis S.1 t)[i]) p x h1 h2)) ((uI_f (by decide)).trans ((uI_f (by decide)).trans pg.2.2.1)) (fun p x h1 h2 => nB (by decide) (pg.2.2.2.1 p x h1 h2)) (nB (by decide) pg.2.2.2.2.1) (nB (by decide) pg.2.2.2.2.2.1) (nB (by decide) pg.2.2.2.2.2.2), (uA_n (by decide)).trans b1, fun f q h => (uI_k h).trans ((uI_k h).trans (b2 f q h)), fun q h => (uA_n (by omega)).trans (b3 q h), fun _ => uI_s _ _ _ _, rfl⟩
          · rintro σ5 lv2 ⟨J3, B, rfl, pg, b1, b2, b3, b4, rfl⟩
            refine aw_iload_n dX10_mend_64 rfl ?_
            refine aw_iload_n dX10_mend_65 rfl ?_
            refine aw_icmp_geN dX10_mend_66 rfl rfl (by omega) (by omega) (fun h_66 => ?_) (fun h_66 => absurd h_66 (by omega))
            refine aw_aload_n dX10_mend_117 rfl ?_
            refine gf10_drawnMany dX10_mend_118 kf10_80 k_176 ?_
            refine aw_eq (show _ = nI (S.1.1 + (pMis S.1 t).length) from pg.1.trans (congrArg nI (mdL_ok hK hV ht (by omega) _ (Nat.le_refl _)).2.1)) ?_
            exact aw_ireti dX10_mend_121 (by
                have z := InvM.pgJ hI1 (P := mdL S.1 t (pMis S.1 t).length) (J := J3) (B := B) pg (mdL_ok hK hV ht (by omega) _ (Nat.le_refl _)).1 (b4 (by omega)) b2 b3 (x := sMend S (nI t)) (r := nI (S.1.1 + (pMis S.1 t).length)) (by unfold sMend; rw [e]; dsimp only; rw [if_neg h0, if_neg h24])
                exact ⟨z.1, z.2.1, hFr.trans z.2.2⟩)

