theorem ix_out {x : Int32} (h : x.toInt < 0 ∨ 7 < x.toInt) : ix x 8 = none := by
  unfold ix
  rw [if_pos (by omega)]
theorem lim_lt {x : Int32} {a : Nat} (h : nI (a + 1) ≤ x) (ha : a < 2 ^ 30) : nI a < x := by
  rw [Int32.le_iff_toInt_le, nI_toInt (by omega)] at h
  rw [Int32.lt_iff_toInt_lt, nI_toInt (by omega)]
  omega
theorem lim_ge {x : Int32} {a : Nat} (h : ¬ x < nI a) : nI a ≤ x := Int32.not_lt.mp h
theorem pM_le {P : Pg} (hV : PgV P) : pM P ≤ 24 := Nat.le_trans (cnt_le _ _) hV.1
theorem pT_le {P : Pg} (hK : FOKs) (hV : PgV P) : pT P ≤ 6 := (hK P hV).2.2.1
theorem hds_le {nr nc : Nat} {fc : Nat → Nat} {cv : Nat → Nat → Nat} : hdsN nr nc fc cv ≤ nr := by
  unfold hdsN
  split <;> omega
theorem pB {P : Pg} {t : Nat} (hK : FOKs) (hV : PgV P) (ht : t < pT P) : pN P t 0 = pNr P t + 1 ∧ pN P t 1 = pNc P t + 1 ∧ 1 ≤ pNr P t ∧ 1 ≤ pNc P t ∧ pNr P t ≤ 21 ∧ pNc P t ≤ 21 ∧ pCc P t ≤ 441 ∧ (pMis P t).length ≤ ln (51 + 1 + 20 * t + 7) ∧ pHd P t ≤ pNr P t := by
  have hT := pT_le hK hV
  obtain ⟨⟨c1, c2, c3, c4, c5, c6, c7⟩, -, -, -, hm, -⟩ := (hK P hV).2.2.2 t ht
  have e0 : pNr P t = pN P t 0 - 1 := rfl
  have e1 : pNc P t = pN P t 1 - 1 := rfl
  have c2 : 2 ≤ pN P t 0 := c2
  have c3 : 2 ≤ pN P t 1 := c3
  have c4 : pNr P t ≤ 21 := c4
  have c5 : pNc P t ≤ 21 := c5
  refine ⟨by omega, by omega, by omega, by omega, c4, c5, ?_, ?_, hds_le⟩
  · exact Nat.le_trans (cnt_le _ _) (Nat.mul_le_mul c4 c5)
  · refine Nat.le_trans (misC_le _ _ _ _ _ _) (Nat.le_trans (Nat.le_of_eq ?_) hm)
    exact misM_cong (fun q j hj => if_neg (by omega))
theorem telR_eq {I : Nat → Nat → Int32} {o c : Nat} {ra : Nat → Nat} {tb : Int32} (hF : RuF I o ra) (h1 : I 199 o = nI c) (h2 : I 200 o = tb) {w : Nat} (hw : w < 8) : telR I o w = if w < 6 then nI (ra w) else if w = 6 then nI c else tb := by
  obtain ⟨f0, f1, f2, f3, f4, f5, f6⟩ := hF
  rcases (show w = 0 ∨ w = 1 ∨ w = 2 ∨ w = 3 ∨ w = 4 ∨ w = 5 ∨ w = 6 ∨ w = 7 by omega) with rfl | rfl | rfl | rfl | rfl | rfl | rfl | rfl
  · exact f0
  · exact f1
  · exact f2
  · exact f3
  · exact f4
  · exact f5
  · exact h1
  · exact h2
theorem telT_eq {I : Nat → Nat → Int32} {o t : Nat} {P : Pg} (a0 : I 258 o = nI (pNr P t)) (a1 : I 259 o = nI (pNc P t)) (a2 : I 263 o = nI (pCc P t)) (a3 : I 257 o = nI (ctB (pIn P t) (pM P))) (a4 : I 266 o = nI (wnT (pWT P) P.2.2.1 t)) (a5 : I 267 o = nI (pHd P t)) (a6 : I 265 o = nI (pMis P t).length) {w : Nat} (hw : w < 8) : telT I o (ctB (fun q => decide (pCw P t q 5 = 0)) (pCc P t)) w = taT P t w := by
  rcases (show w = 0 ∨ w = 1 ∨ w = 2 ∨ w = 3 ∨ w = 4 ∨ w = 5 ∨ w = 6 ∨ w = 7 by omega) with rfl | rfl | rfl | rfl | rfl | rfl | rfl | rfl
  · exact a0
  · exact a1
  · exact a2
  · exact a3
  · exact a4
  · exact a5
  · exact a6
  · rfl
theorem ct_sideNo {g : GG} {σ : SG} {o nr nc w : Nat} (hT : TaD σ o nr nc) (hw : w < 2) (row col : Int32) (hout : row < 0 ∨ nI (nr + 1 - w) ≤ row ∨ col < 0 ∨ nI (nc + w) ≤ col) : Cti g yX8_sideOf cX8_sideOf 7 (some .int) (rmm 0 0) [.ref (ad g o), .int (nI w), .int row, .int col] σ (fun x σ' => x = -6 ∧ σ' = σ) := by
  have hr := hT.2.2.2.1
  have hc := hT.2.2.2.2.1
  have hr2 := hT.2.2.2.2.2.1
  have hc2 := hT.2.2.2.2.2.2.1
  rcases (by omega : w = 0 ∨ w = 1) with rfl | rfl
  · refine ct_sideNo0 hT row col (hout.imp id (Or.imp (fun h => lim_lt h (by omega)) (Or.imp id (fun h => lim_lt ?_ (by omega)))))
    rw [show nc - 1 + 1 = nc + 0 by omega]
    exact h
  · refine ct_sideNo1 hT row col (hout.imp id (Or.imp (fun h => lim_lt ?_ (by omega)) (Or.imp id (fun h => lim_lt h (by omega)))))
    rw [show nr - 1 + 1 = nr + 1 - 1 by omega]
    exact h
theorem mis_v {σ : SG} {o i j : Nat} {l : List (Nat × Nat × Nat)} {e : Nat × Nat × Nat} (h : MiN σ o l) (hj : j < 3) (he : l[i]? = some e) : σ.2.1 (o + 16 + 1 + j) i = if j = 0 then nI e.1 else if j = 1 then nI e.2.1 else nI e.2.2 := by
  obtain ⟨a, b, c⟩ := h.2 i e he
  rcases (by omega : j = 0 ∨ j = 1 ∨ j = 2) with rfl | rfl | rfl
  · exact a
  · exact b
  · exact c
theorem k_img {i : Nat} (h : i < 2) : kd (7 + 1 + 6 * i) = 3 := by
  rcases (by omega : i = 0 ∨ i = 1) with rfl | rfl
  · exact k_8
  · exact k_14
theorem PgM.img {σ : SG} (m2 : PgM σ 8) (m3 : PgM σ 14) {i : Nat} (h : i < 2) : PgM σ (7 + 1 + 6 * i) := by
  rcases (by omega : i = 0 ∨ i = 1) with rfl | rfl
  · exact m2
  · exact m3
theorem InvC.img {σ : SG} {S : Sp} (h : InvC σ S) {i : Nat} (hi : i < 2) {J B : Nat → Nat → Int32} {π : Nat → Nat} (hQ : PgR (J, B, π) (7 + 1 + 6 * i) S.1) (hF : PgF σ (7 + 1 + 6 * i) (J, B, π)) : InvC (J, uA B 20 (upd (B 20) i 1), π) (S.1, fun j => if j = i then some S.1 else S.2 j) ∧ FrC σ (J, uA B 20 (upd (B 20) i 1), π) := by
  obtain ⟨hP, hV, ⟨m1, m2, m3⟩, h4, h5, h6⟩ := h
  obtain ⟨e, fI, fA⟩ := hF
  have e : π = σ.2.2 := e
  subst e
  have fI : ∀ f q, (f ≠ 162 ∨ (q ≠ 7 + 1 + 6 * i + 1 ∧ q ≠ 7 + 1 + 6 * i + 3)) → J f q = σ.1 f q := fI
  have fA : ∀ q, (q < 7 + 1 + 6 * i ∨ 7 + 1 + 6 * i + 5 < q) → B q = σ.2.1 q := fA
  have fm : ∀ o, PgM σ o → PgM (J, uA B 20 (upd (B 20) i 1), σ.2.2) o := fun o hm => ⟨(fI _ _ (Or.inl (by decide))).trans hm.1, (fI _ _ (Or.inl (by decide))).trans hm.2⟩
  have gA : ∀ q, q ≠ 20 → uA B 20 (upd (B 20) i 1) q = B q := fun q h => uA_n h
  have gfA : ∀ q, q ≠ 20 → (q < 7 + 1 + 6 * i ∨ 7 + 1 + 6 * i + 5 < q) → uA B 20 (upd (B 20) i 1) q = σ.2.1 q := fun q h h2 => (gA q h).trans (fA q h2)
  refine ⟨⟨hP.keep (fI _ _ (Or.inr ⟨by omega, by omega⟩)) (fI _ _ (Or.inr ⟨by omega, by omega⟩)) (gfA 3 (by decide) (by omega)) (gfA 5 (by decide) (by omega)) (gfA 6 (by decide) (by omega)), hV, ⟨fm _ m1, fm _ m2, fm _ m3⟩, h4, fun k hk => ?_, h6.imp (fun z => (fI 292 0 (Or.inl (by decide))).trans z) (fun z => ⟨(fI 292 0 (Or.inl (by decide))).trans z.1, ?_⟩)⟩, fun f q h => fI _ _ (Or.inr ⟨by omega, by omega⟩), fun q h => (gA _ (by omega)).trans (fA _ (by omega))⟩
  · show ImC _ k (if k = i then some S.1 else S.2 k)
    by_cases z : k = i
    · rw [if_pos z]
      subst z
      exact ⟨(show uA B 20 (upd (B 20) k 1) 20 k = 1 by rw [uA_s]; exact if_pos rfl), hQ.keep rfl rfl (gA _ (by omega)) (gA _ (by omega)) (gA _ (by omega)), hV⟩
    · rw [if_neg z]
      have h20 : uA B 20 (upd (B 20) i 1) 20 k = σ.2.1 20 k := by
        rw [uA_s, pk_un z, fA 20 (by omega)]
      have hk5 := h5 k hk
      cases hS : S.2 k with
      | none =>
        rw [hS] at hk5
        exact h20.trans hk5
      | some P =>
        rw [hS] at hk5
        exact ⟨h20.trans hk5.1, hk5.2.1.keep (fI _ _ (Or.inr ⟨by omega, by omega⟩)) (fI _ _ (Or.inr ⟨by omega, by omega⟩)) ((gA _ (by omega)).trans (fA _ (by omega))) ((gA _ (by omega)).trans (fA _ (by omega))) ((gA _ (by omega)).trans (fA _ (by omega))), hk5.2.2⟩
  · exact FndC.fr z.2 (fun f q h1 h2 => fI _ _ (Or.inr ⟨by omega, by omega⟩)) (fun q h1 h2 => (gA _ (by omega)).trans (fA _ (by omega)))
set_option maxHeartbeats 4000000 in
set_option maxRecDepth 100000 in
theorem ct_rule {g : GG} {σ : SG} {S : Sp} (hK : FOKs) (hI : InvC σ S) (x what : Int32) : Cti g yX9_rule cX9_rule 4 (some .int) (rmm 6 148) [.ref (ad g 0), .int x, .int what] σ (PoC σ (aRule S.1 x what, S)) := by
  refine ct_of (own := RX9) (lv := [some (.ref (ad g 0)), some (.int x), some (.int what), none]) rfl (by decide) (Nat.le_of_ble_eq_true rfl) (by intro u hu; simp only [List.mem_cons, List.not_mem_nil, or_false] at hu; rcases hu with rfl | rfl | rfl <;> rfl) (lv_ok [.ref (ad g 0), .int x, .int what] 1) ?_
  obtain ⟨hP, hV, ⟨m1, m2, m3⟩, h4, h5, h6⟩ := id hI
  have hl6 := l_6
  have hl3 := l_3
  have hl5 := l_5
  have hc : σ.1 162 2 = nI S.1.1 := hP.1.2.1
  have hm : σ.1 161 2 = nI 24 := m1.1
  have hcw : σ.1 162 4 = nI S.1.2.2.1 := hP.2.1.2.1
  have hmw : σ.1 161 4 = nI 20 := m1.2
  have hc24 := hV.1
  have hw20 := hV.2.2.1
  have hm24 := pM_le hV
  rcases ix_cases x (n := pM S.1) (by omega) with ⟨h, e⟩ | ⟨k, hk, rfl, e⟩
  · skip
    refine aw_aload_n dX9_rule_0 rfl ?_
    refine cvr0 dX9_rule_1 km9_82 ok_X9_found rfl rfl (by decide) k_0 (Nat.le_of_ble_eq_true rfl) ⟨Nat.le_of_ble_eq_true rfl, Nat.le_of_ble_eq_true rfl⟩ rfl rfl (ct_found hK hI) ?_
    intro σ1 hp_1
    obtain ⟨hI1, hF1, hFr⟩ := hp_1
    obtain ⟨r1, r2, r3, r4, w1, w2, w3, w4, ⟨τ, w5, w6⟩, t1⟩ := hF1.un
    refine gf0_rules dX9_rule_4 kf9_86 k_21 ?_
    refine aw_eqr (b := 24) rfl ?_
    refine aw_astore_n dX9_rule_7 (Nat.le_of_ble_eq_true rfl) ?_
    refine aw_aload_n dX9_rule_8 rfl ?_
    refine aw_iload_n dX9_rule_9 rfl ?_
    refine cqi1 dX9_rule_10 km9_110 ok_X7_has rfl rfl (by decide) k_24 (Nat.le_of_ble_eq_true rfl) ⟨Nat.le_of_ble_eq_true rfl, Nat.le_of_ble_eq_true rfl⟩ rfl rfl (ct_Rules_has _) ?_
    refine aw_if_eqB dX9_rule_13 rfl (fun h_13 => ?_) (fun h_13 => absurd h_13 (ix_no r1.1 h))
    refine aw_ic (-1) dX9_rule_29 (by decide) ?_
    exact aw_ireti dX9_rule_30 (PoC.mk (by unfold aRule; rw [e]) hI1 hFr)
  · skip
    refine aw_aload_n dX9_rule_0 rfl ?_
    refine cvr0 dX9_rule_1 km9_82 ok_X9_found rfl rfl (by decide) k_0 (Nat.le_of_ble_eq_true rfl) ⟨Nat.le_of_ble_eq_true rfl, Nat.le_of_ble_eq_true rfl⟩ rfl rfl (ct_found hK hI) ?_
    intro σ1 hp_1
    obtain ⟨hI1, hF1, hFr⟩ := hp_1
    obtain ⟨r1, r2, r3, r4, w1, w2, w3, w4, ⟨τ, w5, w6⟩, t1⟩ := hF1.un
    refine gf0_rules dX9_rule_4 kf9_86 k_21 ?_
    refine aw_eqr (b := 24) rfl ?_
    refine aw_astore_n dX9_rule_7 (Nat.le_of_ble_eq_true rfl) ?_
    refine aw_aload_n dX9_rule_8 rfl ?_
    refine aw_iload_n dX9_rule_9 rfl ?_
    refine cqi1 dX9_rule_10 km9_110 ok_X7_has rfl rfl (by decide) k_24 (Nat.le_of_ble_eq_true rfl) ⟨Nat.le_of_ble_eq_true rfl, Nat.le_of_ble_eq_true rfl⟩ rfl rfl (ct_Rules_has _) ?_
    refine aw_if_eqB dX9_rule_13 rfl (fun h_13 => absurd h_13 (not_not_intro (ix_yes r1.1 hk (by omega)))) (fun h_13 => ?_)
    refine aw_aload_n dX9_rule_16 rfl ?_
    refine gf7_all dX9_rule_17 kf9_111 k_24 ?_
    refine aw_eqr (b := 25) rfl ?_
    refine aw_iload_n dX9_rule_20 rfl ?_
    refine aw_ald14 (k) dX9_rule_21 k_25 (rfl) (by have := l_25; omega) ?_
    refine aw_iload_n dX9_rule_22 rfl ?_
    refine cvi1 dX9_rule_23 km9_115 ok_X6_tell rfl rfl (by decide) (k_rule (r1.2.2.1.1 k (by omega))) (Nat.le_of_ble_eq_true rfl) ⟨Nat.le_of_ble_eq_true rfl, Nat.le_of_ble_eq_true rfl⟩ rfl rfl (ct_Rule_tell ((k_rule (r1.2.2.1.1 k (by omega)))) what) ?_
    intro r_23 σ2 hp_23
    obtain ⟨hr, rfl⟩ := hp_23
    refine aw_goto dX9_rule_26 ?_
    exact aw_ireti dX9_rule_30 (by
        rcases hr with ⟨ho, rfl⟩ | ⟨w, hw, rfl, rfl⟩
        · exact PoC.mk (by unfold aRule; rw [e]; dsimp only; rw [ix_out ho]) hI1 hFr
        · exact PoC.mk (by unfold aRule; rw [e]; dsimp only; rw [ix_some hw (by decide)]; dsimp only; rw [telR_eq (r1.2.2.2 k hk).1 (r3 k hk).1 (r3 k hk).2 hw]; rfl) hI1 hFr)

set_option maxHeartbeats 4000000 in
set_option maxRecDepth 100000 in
theorem ct_cross {g : GG} {σ : SG} {S : Sp} (hK : FOKs) (hI : InvC σ S) (x y : Int32) : Cti g yX9_cross cX9_cross 4 (some .int) (rmm 6 148) [.ref (ad g 0), .int x, .int y] σ (PoC σ (aCross S.1 x y, S)) := by
  refine ct_of (own := RX9) (lv := [some (.ref (ad g 0)), some (.int x), some (.int y), none]) rfl (by decide) (Nat.le_of_ble_eq_true rfl) (by intro u hu; simp only [List.mem_cons, List.not_mem_nil, or_false] at hu; rcases hu with rfl | rfl | rfl <;> rfl) (lv_ok [.ref (ad g 0), .int x, .int y] 1) ?_
  obtain ⟨hP, hV, ⟨m1, m2, m3⟩, h4, h5, h6⟩ := id hI
  have hl6 := l_6
  have hl3 := l_3
  have hl5 := l_5
  have hc : σ.1 162 2 = nI S.1.1 := hP.1.2.1
  have hm : σ.1 161 2 = nI 24 := m1.1
  have hcw : σ.1 162 4 = nI S.1.2.2.1 := hP.2.1.2.1
  have hmw : σ.1 161 4 = nI 20 := m1.2
  have hc24 := hV.1
  have hw20 := hV.2.2.1
  have hm24 := pM_le hV
  rcases ix_cases x (n := pM S.1) (by omega) with ⟨h, e⟩ | ⟨k, hk, rfl, e⟩
  · skip
    refine aw_aload_n dX9_cross_0 rfl ?_
    refine cvr0 dX9_cross_1 km9_82 ok_X9_found rfl rfl (by decide) k_0 (Nat.le_of_ble_eq_true rfl) ⟨Nat.le_of_ble_eq_true rfl, Nat.le_of_ble_eq_true rfl⟩ rfl rfl (ct_found hK hI) ?_
    intro σ1 hp_1
    obtain ⟨hI1, hF1, hFr⟩ := hp_1
    obtain ⟨r1, r2, r3, r4, w1, w2, w3, w4, ⟨τ, w5, w6⟩, t1⟩ := hF1.un
    refine gf0_rules dX9_cross_4 kf9_86 k_21 ?_
    refine aw_eqr (b := 24) rfl ?_
    refine aw_astore_n dX9_cross_7 (Nat.le_of_ble_eq_true rfl) ?_
    refine aw_aload_n dX9_cross_8 rfl ?_
    refine aw_iload_n dX9_cross_9 rfl ?_
    refine cqi1 dX9_cross_10 km9_110 ok_X7_has rfl rfl (by decide) k_24 (Nat.le_of_ble_eq_true rfl) ⟨Nat.le_of_ble_eq_true rfl, Nat.le_of_ble_eq_true rfl⟩ rfl rfl (ct_Rules_has _) ?_
    refine aw_if_eqB dX9_cross_13 rfl (fun h_13 => ?_) (fun h_13 => absurd h_13 (ix_no r1.1 h))
    refine aw_ic (-1) dX9_cross_24 (by decide) ?_
    exact aw_ireti dX9_cross_25 (PoC.mk (by unfold aCross; rw [e]) hI1 hFr)
  · skip
    rcases ix_cases y (n := pM S.1) (by omega) with ⟨h, e2⟩ | ⟨j, hj, rfl, e2⟩
    · skip
      refine aw_aload_n dX9_cross_0 rfl ?_
      refine cvr0 dX9_cross_1 km9_82 ok_X9_found rfl rfl (by decide) k_0 (Nat.le_of_ble_eq_true rfl) ⟨Nat.le_of_ble_eq_true rfl, Nat.le_of_ble_eq_true rfl⟩ rfl rfl (ct_found hK hI) ?_
      intro σ1 hp_1
      obtain ⟨hI1, hF1, hFr⟩ := hp_1
      obtain ⟨r1, r2, r3, r4, w1, w2, w3, w4, ⟨τ, w5, w6⟩, t1⟩ := hF1.un
      refine gf0_rules dX9_cross_4 kf9_86 k_21 ?_
      refine aw_eqr (b := 24) rfl ?_
      refine aw_astore_n dX9_cross_7 (Nat.le_of_ble_eq_true rfl) ?_
      refine aw_aload_n dX9_cross_8 rfl ?_
      refine aw_iload_n dX9_cross_9 rfl ?_
      refine cqi1 dX9_cross_10 km9_110 ok_X7_has rfl rfl (by decide) k_24 (Nat.le_of_ble_eq_true rfl) ⟨Nat.le_of_ble_eq_true rfl, Nat.le_of_ble_eq_true rfl⟩ rfl rfl (ct_Rules_has _) ?_
      refine aw_if_eqB dX9_cross_13 rfl (fun h_13 => absurd h_13 (not_not_intro (ix_yes r1.1 hk (by omega)))) (fun h_13 => ?_)
      refine aw_aload_n dX9_cross_16 rfl ?_
      refine aw_iload_n dX9_cross_17 rfl ?_
      refine cqi1 dX9_cross_18 km9_110 ok_X7_has rfl rfl (by decide) k_24 (Nat.le_of_ble_eq_true rfl) ⟨Nat.le_of_ble_eq_true rfl, Nat.le_of_ble_eq_true rfl⟩ rfl rfl (ct_Rules_has _) ?_
      refine aw_if_neB dX9_cross_21 rfl (fun h_21 => absurd h_21 (ix_no r1.1 h)) (fun h_21 => ?_)
      refine aw_ic (-1) dX9_cross_24 (by decide) ?_
      exact aw_ireti dX9_cross_25 (PoC.mk (by unfold aCross; rw [e, e2]) hI1 hFr)
    · skip
      refine aw_aload_n dX9_cross_0 rfl ?_
      refine cvr0 dX9_cross_1 km9_82 ok_X9_found rfl rfl (by decide) k_0 (Nat.le_of_ble_eq_true rfl) ⟨Nat.le_of_ble_eq_true rfl, Nat.le_of_ble_eq_true rfl⟩ rfl rfl (ct_found hK hI) ?_
      intro σ1 hp_1
      obtain ⟨hI1, hF1, hFr⟩ := hp_1
      obtain ⟨r1, r2, r3, r4, w1, w2, w3, w4, ⟨τ, w5, w6⟩, t1⟩ := hF1.un
      refine gf0_rules dX9_cross_4 kf9_86 k_21 ?_
      refine aw_eqr (b := 24) rfl ?_
      refine aw_astore_n dX9_cross_7 (Nat.le_of_ble_eq_true rfl) ?_
      refine aw_aload_n dX9_cross_8 rfl ?_
      refine aw_iload_n dX9_cross_9 rfl ?_
      refine cqi1 dX9_cross_10 km9_110 ok_X7_has rfl rfl (by decide) k_24 (Nat.le_of_ble_eq_true rfl) ⟨Nat.le_of_ble_eq_true rfl, Nat.le_of_ble_eq_true rfl⟩ rfl rfl (ct_Rules_has _) ?_
      refine aw_if_eqB dX9_cross_13 rfl (fun h_13 => absurd h_13 (not_not_intro (ix_yes r1.1 hk (by omega)))) (fun h_13 => ?_)
      refine aw_aload_n dX9_cross_16 rfl ?_
      refine aw_iload_n dX9_cross_17 rfl ?_
      refine cqi1 dX9_cross_18 km9_110 ok_X7_has rfl rfl (by decide) k_24 (Nat.le_of_ble_eq_true rfl) ⟨Nat.le_of_ble_eq_true rfl, Nat.le_of_ble_eq_true rfl⟩ rfl rfl (ct_Rules_has _) ?_
      refine aw_if_neB dX9_cross_21 rfl (fun h_21 => ?_) (fun h_21 => absurd h_21 (not_not_intro (ix_yes r1.1 hj (by omega))))
      refine aw_aload_n dX9_cross_26 rfl ?_
      refine gf7_all dX9_cross_27 kf9_111 k_24 ?_
      refine aw_eqr (b := 25) rfl ?_
      refine aw_iload_n dX9_cross_30 rfl ?_
      refine aw_ald14 (k) dX9_cross_31 k_25 (rfl) (by have := l_25; omega) ?_
      refine aw_aload_n dX9_cross_32 rfl ?_
      refine gf7_all dX9_cross_33 kf9_111 k_24 ?_
      refine aw_eqr (b := 25) rfl ?_
      refine aw_iload_n dX9_cross_36 rfl ?_
      refine aw_ald14 (j) dX9_cross_37 k_25 (rfl) (by have := l_25; omega) ?_
      refine aw_aload_n dX9_cross_38 rfl ?_
      refine gf9_page dX9_cross_39 kf9_12 k_0 ?_
      refine aw_eqr (b := 1) rfl ?_
      refine gf3_settings dX9_cross_42 kf9_39 k_1 ?_
      refine aw_eqr (b := 6) rfl ?_
      refine aw_ic (nI 2) dX9_cross_45 (by decide) ?_
      refine aw_ld (2) dX9_cross_46 k_6 (rfl) (by omega) ?_
      refine aw_eq hI1.1.2.2.2.2 ?_
      refine cqi2 dX9_cross_47 km9_121 ok_X6_crosses rfl rfl (by decide) (k_rule (r1.2.2.1.1 k (by omega))) (Nat.le_of_ble_eq_true rfl) ⟨Nat.le_of_ble_eq_true rfl, Nat.le_of_ble_eq_true rfl⟩ rfl rfl (ct_Rule_crosses ((k_rule (r1.2.2.1.1 k (by omega)))) ((k_rule (r1.2.2.1.1 j (by omega)))) (r1.2.2.2 k hk).1 (r1.2.2.2 k hk).2 (r1.2.2.2 j hj).1 (r1.2.2.2 j hj).2 (by have := hV.2.2.2.2.2.1; omega)) ?_
      refine aw_if_eqB dX9_cross_50 rfl (fun h_50 => ?_) (fun h_50 => ?_)
      · skip
        refine aw_ic (nI 0) dX9_cross_57 (by decide) ?_
        exact aw_ireti dX9_cross_58 (PoC.mk (by unfold aCross; rw [e, e2]; dsimp only; rw [if_neg h_50]; rfl) hI1 hFr)
      · skip
        refine aw_ic (nI 1) dX9_cross_53 (by decide) ?_
        refine aw_goto dX9_cross_54 ?_
        exact aw_ireti dX9_cross_58 (PoC.mk (by unfold aCross; rw [e, e2]; dsimp only; rw [if_pos h_50]; rfl) hI1 hFr)

set_option maxHeartbeats 4000000 in
set_option maxRecDepth 100000 in
theorem ct_table {g : GG} {σ : SG} {S : Sp} (hK : FOKs) (hI : InvC σ S) (x what : Int32) : Cti g yX9_table cX9_table 4 (some .int) (rmm 6 148) [.ref (ad g 0), .int x, .int what] σ (PoC σ (aTable S.1 x what, S)) := by
  refine ct_of (own := RX9) (lv := [some (.ref (ad g 0)), some (.int x), some (.int what), none]) rfl (by decide) (Nat.le_of_ble_eq_true rfl) (by intro u hu; simp only [List.mem_cons, List.not_mem_nil, or_false] at hu; rcases hu with rfl | rfl | rfl <;> rfl) (lv_ok [.ref (ad g 0), .int x, .int what] 1) ?_
  obtain ⟨hP, hV, ⟨m1, m2, m3⟩, h4, h5, h6⟩ := id hI
  have hl6 := l_6
  have hl3 := l_3
  have hl5 := l_5
  have hc : σ.1 162 2 = nI S.1.1 := hP.1.2.1
  have hm : σ.1 161 2 = nI 24 := m1.1
  have hcw : σ.1 162 4 = nI S.1.2.2.1 := hP.2.1.2.1
  have hmw : σ.1 161 4 = nI 20 := m1.2
  have hc24 := hV.1
  have hw20 := hV.2.2.1
  have hT6 := pT_le hK hV
  rcases ix_cases x (n := pT S.1) (by omega) with ⟨h, e⟩ | ⟨t, ht, rfl, e⟩
  · skip
    refine aw_aload_n dX9_table_0 rfl ?_
    refine cvr0 dX9_table_1 km9_82 ok_X9_found rfl rfl (by decide) k_0 (Nat.le_of_ble_eq_true rfl) ⟨Nat.le_of_ble_eq_true rfl, Nat.le_of_ble_eq_true rfl⟩ rfl rfl (ct_found hK hI) ?_
    intro σ1 hp_1
    obtain ⟨hI1, hF1, hFr⟩ := hp_1
    obtain ⟨r1, r2, r3, r4, w1, w2, w3, w4, ⟨τ, w5, w6⟩, t1⟩ := hF1.un
    refine aw_astore_n dX9_table_4 (Nat.le_of_ble_eq_true rfl) ?_
    refine aw_aload_n dX9_table_5 rfl ?_
    refine aw_iload_n dX9_table_6 rfl ?_
    refine cqi1 dX9_table_7 km9_125 ok_X0_has rfl rfl (by decide) k_21 (Nat.le_of_ble_eq_true rfl) ⟨Nat.le_of_ble_eq_true rfl, Nat.le_of_ble_eq_true rfl⟩ rfl rfl (ct_Finding_has _) ?_
    refine aw_if_eqB dX9_table_10 rfl (fun h_10 => ?_) (fun h_10 => absurd h_10 (ix_no r4 h))
    refine aw_ic (-1) dX9_table_26 (by decide) ?_
    exact aw_ireti dX9_table_27 (PoC.mk (by unfold aTable; rw [e]) hI1 hFr)
  · skip
    obtain ⟨b0, b1, b2, b3, b4, b5, b6, b7, b8⟩ := pB hK hV ht
    have hk8 := k_tab (show t < 6 by omega)
    have hl51 := l_51
    have hl7 := ln_t7 hk8
    have hlt8 := ln_t8 hk8
    refine aw_aload_n dX9_table_0 rfl ?_
    refine cvr0 dX9_table_1 km9_82 ok_X9_found rfl rfl (by decide) k_0 (Nat.le_of_ble_eq_true rfl) ⟨Nat.le_of_ble_eq_true rfl, Nat.le_of_ble_eq_true rfl⟩ rfl rfl (ct_found hK hI) ?_
    intro σ1 hp_1
    obtain ⟨hI1, hF1, hFr⟩ := hp_1
    obtain ⟨r1, r2, r3, r4, w1, w2, w3, w4, ⟨τ, w5, w6⟩, t1⟩ := hF1.un
    obtain ⟨L1, C1, -, -, q6, -, -⟩ := w1.2 t ht
    obtain ⟨s1, s2, s3, s4⟩ := t1 t ht
    have cap7 : pNr S.1 t * pNc S.1 t ≤ ln (51 + 1 + 20 * t + 7) := C1.1.2.2.2.2.2.2.2.2
    have hccl : pCc S.1 t ≤ pNr S.1 t * pNc S.1 t := C1.2.2.1
    refine aw_astore_n dX9_table_4 (Nat.le_of_ble_eq_true rfl) ?_
    refine aw_aload_n dX9_table_5 rfl ?_
    refine aw_iload_n dX9_table_6 rfl ?_
    refine cqi1 dX9_table_7 km9_125 ok_X0_has rfl rfl (by decide) k_21 (Nat.le_of_ble_eq_true rfl) ⟨Nat.le_of_ble_eq_true rfl, Nat.le_of_ble_eq_true rfl⟩ rfl rfl (ct_Finding_has _) ?_
    refine aw_if_eqB dX9_table_10 rfl (fun h_10 => absurd h_10 (not_not_intro (ix_yes r4 ht (by omega)))) (fun h_10 => ?_)
    refine aw_aload_n dX9_table_13 rfl ?_
    refine gf0_tables dX9_table_14 kf9_126 k_21 ?_
    refine aw_eqr (b := 51) rfl ?_
    refine aw_iload_n dX9_table_17 rfl ?_
    refine aw_ald15 (t) dX9_table_18 k_51 (rfl) (by omega) ?_
    refine aw_iload_n dX9_table_19 rfl ?_
    refine cvi1 dX9_table_20 km9_129 ok_X8_tell rfl rfl (by decide) hk8 (Nat.le_of_ble_eq_true rfl) ⟨Nat.le_of_ble_eq_true rfl, Nat.le_of_ble_eq_true rfl⟩ rfl rfl (ct_Table_tell C1 what) ?_
    intro r_20 σ2 hp_20
    obtain ⟨hr, rfl⟩ := hp_20
    refine aw_goto dX9_table_23 ?_
    exact aw_ireti dX9_table_27 (by
        rcases hr with ⟨ho, rfl⟩ | ⟨w, hw, rfl, rfl⟩
        · exact PoC.mk (by unfold aTable; rw [e]; dsimp only; rw [ix_out ho]) hI1 hFr
        · exact PoC.mk (by unfold aTable; rw [e]; dsimp only; rw [ix_some hw (by decide)]; dsimp only; rw [telT_eq C1.1.2.1 C1.1.2.2.1 C1.2.1 s2 q6 s3 s4.1 hw]) hI1 hFr)

set_option maxHeartbeats 4000000 in
set_option maxRecDepth 100000 in
theorem ct_edge {g : GG} {σ : SG} {S : Sp} (hK : FOKs) (hI : InvC σ S) (x way line : Int32) : Cti g yX9_edge cX9_edge 5 (some .int) (rmm 6 148) [.ref (ad g 0), .int x, .int way, .int line] σ (PoC σ (aEdge S.1 x way line, S)) := by
  refine ct_of (own := RX9) (lv := [some (.ref (ad g 0)), some (.int x), some (.int way), some (.int line), none]) rfl (by decide) (Nat.le_of_ble_eq_true rfl) (by intro u hu; simp only [List.mem_cons, List.not_mem_nil, or_false] at hu; rcases hu with rfl | rfl | rfl | rfl <;> rfl) (lv_ok [.ref (ad g 0), .int x, .int way, .int line] 1) ?_
  obtain ⟨hP, hV, ⟨m1, m2, m3⟩, h4, h5, h6⟩ := id hI
  have hl6 := l_6
  have hl3 := l_3
  have hl5 := l_5
  have hc : σ.1 162 2 = nI S.1.1 := hP.1.2.1
  have hm : σ.1 161 2 = nI 24 := m1.1
  have hcw : σ.1 162 4 = nI S.1.2.2.1 := hP.2.1.2.1
  have hmw : σ.1 161 4 = nI 20 := m1.2
  have hc24 := hV.1
  have hw20 := hV.2.2.1
  have hT6 := pT_le hK hV
  rcases ix_cases x (n := pT S.1) (by omega) with ⟨h, e⟩ | ⟨t, ht, rfl, e⟩
  · skip
    refine aw_aload_n dX9_edge_0 rfl ?_
    refine cvr0 dX9_edge_1 km9_82 ok_X9_found rfl rfl (by decide) k_0 (Nat.le_of_ble_eq_true rfl) ⟨Nat.le_of_ble_eq_true rfl, Nat.le_of_ble_eq_true rfl⟩ rfl rfl (ct_found hK hI) ?_
    intro σ1 hp_1
    obtain ⟨hI1, hF1, hFr⟩ := hp_1
    obtain ⟨r1, r2, r3, r4, w1, w2, w3, w4, ⟨τ, w5, w6⟩, t1⟩ := hF1.un
    refine aw_astore dX9_edge_4 (Nat.le_of_ble_eq_true rfl) ?_
    refine aw_aload dX9_edge_6 rfl ?_
    refine aw_iload_n dX9_edge_8 rfl ?_
    refine cqi1 dX9_edge_9 km9_125 ok_X0_has rfl rfl (by decide) k_21 (Nat.le_of_ble_eq_true rfl) ⟨Nat.le_of_ble_eq_true rfl, Nat.le_of_ble_eq_true rfl⟩ rfl rfl (ct_Finding_has _) ?_
    refine aw_if_neB dX9_edge_12 rfl (fun h_12 => absurd h_12 (ix_no r4 h)) (fun h_12 => ?_)
    refine aw_ic (-1) dX9_edge_15 (by decide) ?_
    exact aw_ireti dX9_edge_16 (PoC.mk (by unfold aEdge; rw [e]) hI1 hFr)
  · skip
    obtain ⟨b0, b1, b2, b3, b4, b5, b6, b7, b8⟩ := pB hK hV ht
    have hk8 := k_tab (show t < 6 by omega)
    have hl51 := l_51
    have hl7 := ln_t7 hk8
    have hlt8 := ln_t8 hk8
    rcases way_cases way with ⟨h, e2⟩ | ⟨w, hw2, rfl, hw, e2⟩
    · skip
      refine aw_aload_n dX9_edge_0 rfl ?_
      refine cvr0 dX9_edge_1 km9_82 ok_X9_found rfl rfl (by decide) k_0 (Nat.le_of_ble_eq_true rfl) ⟨Nat.le_of_ble_eq_true rfl, Nat.le_of_ble_eq_true rfl⟩ rfl rfl (ct_found hK hI) ?_
      intro σ1 hp_1
      obtain ⟨hI1, hF1, hFr⟩ := hp_1
      obtain ⟨r1, r2, r3, r4, w1, w2, w3, w4, ⟨τ, w5, w6⟩, t1⟩ := hF1.un
      obtain ⟨L1, C1, -, -, q6, -, -⟩ := w1.2 t ht
      obtain ⟨s1, s2, s3, s4⟩ := t1 t ht
      have cap7 : pNr S.1 t * pNc S.1 t ≤ ln (51 + 1 + 20 * t + 7) := C1.1.2.2.2.2.2.2.2.2
      have hccl : pCc S.1 t ≤ pNr S.1 t * pNc S.1 t := C1.2.2.1
      refine aw_astore dX9_edge_4 (Nat.le_of_ble_eq_true rfl) ?_
      refine aw_aload dX9_edge_6 rfl ?_
      refine aw_iload_n dX9_edge_8 rfl ?_
      refine cqi1 dX9_edge_9 km9_125 ok_X0_has rfl rfl (by decide) k_21 (Nat.le_of_ble_eq_true rfl) ⟨Nat.le_of_ble_eq_true rfl, Nat.le_of_ble_eq_true rfl⟩ rfl rfl (ct_Finding_has _) ?_
      refine aw_if_neB dX9_edge_12 rfl (fun h_12 => ?_) (fun h_12 => absurd h_12 (not_not_intro (ix_yes r4 ht (by omega))))
      refine aw_iload_n dX9_edge_17 rfl ?_
      refine csq1 dX9_edge_18 km9_42 ok_X9_isWay (Nat.le_of_ble_eq_true rfl) ⟨Nat.le_of_ble_eq_true rfl, Nat.le_of_ble_eq_true rfl⟩ rfl rfl (ct_isWay _) ?_
      refine aw_if_neB dX9_edge_21 rfl (fun h_21 => absurd h_21 (h)) (fun h_21 => ?_)
      refine aw_bi (-2) dX9_edge_24 (by decide) ?_
      exact aw_ireti dX9_edge_26 (PoC.mk (by unfold aEdge; rw [e]; dsimp only; rw [e2]) hI1 hFr)
    · skip
      have hnw : pN S.1 t w ≤ 22 := by
        rcases (by omega : w = 0 ∨ w = 1) with rfl | rfl
        · omega
        · omega
      rcases ix_cases line (n := pN S.1 t w) (by omega) with ⟨h, e3⟩ | ⟨l, hl, rfl, e3⟩
      · skip
        refine aw_aload_n dX9_edge_0 rfl ?_
        refine cvr0 dX9_edge_1 km9_82 ok_X9_found rfl rfl (by decide) k_0 (Nat.le_of_ble_eq_true rfl) ⟨Nat.le_of_ble_eq_true rfl, Nat.le_of_ble_eq_true rfl⟩ rfl rfl (ct_found hK hI) ?_
        intro σ1 hp_1
        obtain ⟨hI1, hF1, hFr⟩ := hp_1
        obtain ⟨r1, r2, r3, r4, w1, w2, w3, w4, ⟨τ, w5, w6⟩, t1⟩ := hF1.un
        obtain ⟨L1, C1, -, -, q6, -, -⟩ := w1.2 t ht
        obtain ⟨s1, s2, s3, s4⟩ := t1 t ht
        have cap7 : pNr S.1 t * pNc S.1 t ≤ ln (51 + 1 + 20 * t + 7) := C1.1.2.2.2.2.2.2.2.2
        have hccl : pCc S.1 t ≤ pNr S.1 t * pNc S.1 t := C1.2.2.1
        refine aw_astore dX9_edge_4 (Nat.le_of_ble_eq_true rfl) ?_
        refine aw_aload dX9_edge_6 rfl ?_
        refine aw_iload_n dX9_edge_8 rfl ?_
        refine cqi1 dX9_edge_9 km9_125 ok_X0_has rfl rfl (by decide) k_21 (Nat.le_of_ble_eq_true rfl) ⟨Nat.le_of_ble_eq_true rfl, Nat.le_of_ble_eq_true rfl⟩ rfl rfl (ct_Finding_has _) ?_
        refine aw_if_neB dX9_edge_12 rfl (fun h_12 => ?_) (fun h_12 => absurd h_12 (not_not_intro (ix_yes r4 ht (by omega))))
        refine aw_iload_n dX9_edge_17 rfl ?_
        refine csq1 dX9_edge_18 km9_42 ok_X9_isWay (Nat.le_of_ble_eq_true rfl) ⟨Nat.le_of_ble_eq_true rfl, Nat.le_of_ble_eq_true rfl⟩ rfl rfl (ct_isWay _) ?_
        refine aw_if_neB dX9_edge_21 rfl (fun h_21 => ?_) (fun h_21 => absurd h_21 (not_not_intro hw))
        refine aw_aload dX9_edge_27 rfl ?_
        refine gf0_tables dX9_edge_29 kf9_126 k_21 ?_
        refine aw_eqr (b := 51) rfl ?_
        refine aw_iload_n dX9_edge_32 rfl ?_
        refine aw_ald15 (t) dX9_edge_33 k_51 (rfl) (by omega) ?_
        refine gf8_lines dX9_edge_34 kf9_132 hk8 ?_
        refine aw_iload_n dX9_edge_37 rfl ?_
        refine aw_iload_n dX9_edge_38 rfl ?_
        refine cqi2 dX9_edge_39 km9_136 ok_X2_placeOf rfl rfl (by decide) (kf_8_lines hk8) (Nat.le_of_ble_eq_true rfl) ⟨Nat.le_of_ble_eq_true rfl, Nat.le_of_ble_eq_true rfl⟩ rfl rfl (ct_Lines_placeNo L1 hw2 _ h) ?_
        exact aw_ireti dX9_edge_42 (PoC.mk (by unfold aEdge; rw [e]; dsimp only; rw [e2]; dsimp only; rw [e3]) hI1 hFr)
      · skip
        refine aw_aload_n dX9_edge_0 rfl ?_
        refine cvr0 dX9_edge_1 km9_82 ok_X9_found rfl rfl (by decide) k_0 (Nat.le_of_ble_eq_true rfl) ⟨Nat.le_of_ble_eq_true rfl, Nat.le_of_ble_eq_true rfl⟩ rfl rfl (ct_found hK hI) ?_
        intro σ1 hp_1
        obtain ⟨hI1, hF1, hFr⟩ := hp_1
        obtain ⟨r1, r2, r3, r4, w1, w2, w3, w4, ⟨τ, w5, w6⟩, t1⟩ := hF1.un
        obtain ⟨L1, C1, -, -, q6, -, -⟩ := w1.2 t ht
        obtain ⟨s1, s2, s3, s4⟩ := t1 t ht
        have cap7 : pNr S.1 t * pNc S.1 t ≤ ln (51 + 1 + 20 * t + 7) := C1.1.2.2.2.2.2.2.2.2
        have hccl : pCc S.1 t ≤ pNr S.1 t * pNc S.1 t := C1.2.2.1
        refine aw_astore dX9_edge_4 (Nat.le_of_ble_eq_true rfl) ?_
        refine aw_aload dX9_edge_6 rfl ?_
        refine aw_iload_n dX9_edge_8 rfl ?_
        refine cqi1 dX9_edge_9 km9_125 ok_X0_has rfl rfl (by decide) k_21 (Nat.le_of_ble_eq_true rfl) ⟨Nat.le_of_ble_eq_true rfl, Nat.le_of_ble_eq_true rfl⟩ rfl rfl (ct_Finding_has _) ?_
        refine aw_if_neB dX9_edge_12 rfl (fun h_12 => ?_) (fun h_12 => absurd h_12 (not_not_intro (ix_yes r4 ht (by omega))))
        refine aw_iload_n dX9_edge_17 rfl ?_
        refine csq1 dX9_edge_18 km9_42 ok_X9_isWay (Nat.le_of_ble_eq_true rfl) ⟨Nat.le_of_ble_eq_true rfl, Nat.le_of_ble_eq_true rfl⟩ rfl rfl (ct_isWay _) ?_
        refine aw_if_neB dX9_edge_21 rfl (fun h_21 => ?_) (fun h_21 => absurd h_21 (not_not_intro hw))
        refine aw_aload dX9_edge_27 rfl ?_
        refine gf0_tables dX9_edge_29 kf9_126 k_21 ?_
        refine aw_eqr (b := 51) rfl ?_
        refine aw_iload_n dX9_edge_32 rfl ?_
        refine aw_ald15 (t) dX9_edge_33 k_51 (rfl) (by omega) ?_
        refine gf8_lines dX9_edge_34 kf9_132 hk8 ?_
        refine aw_iload_n dX9_edge_37 rfl ?_
        refine aw_iload_n dX9_edge_38 rfl ?_
        refine cqi2 dX9_edge_39 km9_136 ok_X2_placeOf rfl rfl (by decide) (kf_8_lines hk8) (Nat.le_of_ble_eq_true rfl) ⟨Nat.le_of_ble_eq_true rfl, Nat.le_of_ble_eq_true rfl⟩ rfl rfl (ct_Lines_placeOf L1 hw2 hl) ?_
        exact aw_ireti dX9_edge_42 (PoC.mk (by unfold aEdge; rw [e]; dsimp only; rw [e2]; dsimp only; rw [e3]) hI1 hFr)

set_option maxHeartbeats 4000000 in
set_option maxRecDepth 100000 in
theorem ct_ruled {g : GG} {σ : SG} {S : Sp} (hK : FOKs) (hI : InvC σ S) (x way row col : Int32) : Cti g yX9_ruled cX9_ruled 7 (some .int) (rmm 6 148) [.ref (ad g 0), .int x, .int way, .int row, .int col] σ (PoC σ (aRuled S.1 x way row col, S)) := by
  refine ct_of (own := RX9) (lv := [some (.ref (ad g 0)), some (.int x), some (.int way), some (.int row), some (.int col), none, none]) rfl (by decide) (Nat.le_of_ble_eq_true rfl) (by intro u hu; simp only [List.mem_cons, List.not_mem_nil, or_false] at hu; rcases hu with rfl | rfl | rfl | rfl | rfl <;> rfl) (lv_ok [.ref (ad g 0), .int x, .int way, .int row, .int col] 2) ?_
  obtain ⟨hP, hV, ⟨m1, m2, m3⟩, h4, h5, h6⟩ := id hI
  have hl6 := l_6
  have hl3 := l_3
  have hl5 := l_5
  have hc : σ.1 162 2 = nI S.1.1 := hP.1.2.1
  have hm : σ.1 161 2 = nI 24 := m1.1
  have hcw : σ.1 162 4 = nI S.1.2.2.1 := hP.2.1.2.1
  have hmw : σ.1 161 4 = nI 20 := m1.2
  have hc24 := hV.1
  have hw20 := hV.2.2.1
  have hT6 := pT_le hK hV
  rcases ix_cases x (n := pT S.1) (by omega) with ⟨h, e⟩ | ⟨t, ht, rfl, e⟩
  · skip
    refine aw_aload_n dX9_ruled_0 rfl ?_
    refine cvr0 dX9_ruled_1 km9_82 ok_X9_found rfl rfl (by decide) k_0 (Nat.le_of_ble_eq_true rfl) ⟨Nat.le_of_ble_eq_true rfl, Nat.le_of_ble_eq_true rfl⟩ rfl rfl (ct_found hK hI) ?_
    intro σ1 hp_1
    obtain ⟨hI1, hF1, hFr⟩ := hp_1
    obtain ⟨r1, r2, r3, r4, w1, w2, w3, w4, ⟨τ, w5, w6⟩, t1⟩ := hF1.un
    refine aw_astore dX9_ruled_4 (Nat.le_of_ble_eq_true rfl) ?_
    refine aw_aload dX9_ruled_6 rfl ?_
    refine aw_iload_n dX9_ruled_8 rfl ?_
    refine cqi1 dX9_ruled_9 km9_125 ok_X0_has rfl rfl (by decide) k_21 (Nat.le_of_ble_eq_true rfl) ⟨Nat.le_of_ble_eq_true rfl, Nat.le_of_ble_eq_true rfl⟩ rfl rfl (ct_Finding_has _) ?_
    refine aw_if_neB dX9_ruled_12 rfl (fun h_12 => absurd h_12 (ix_no r4 h)) (fun h_12 => ?_)
    refine aw_ic (-1) dX9_ruled_15 (by decide) ?_
    exact aw_ireti dX9_ruled_16 (PoC.mk (by unfold aRuled; rw [e]) hI1 hFr)
  · skip
    obtain ⟨b0, b1, b2, b3, b4, b5, b6, b7, b8⟩ := pB hK hV ht
    have hk8 := k_tab (show t < 6 by omega)
    have hl51 := l_51
    have hl7 := ln_t7 hk8
    have hlt8 := ln_t8 hk8
    rcases way_cases way with ⟨h, e2⟩ | ⟨w, hw2, rfl, hw, e2⟩
    · skip
      refine aw_aload_n dX9_ruled_0 rfl ?_
      refine cvr0 dX9_ruled_1 km9_82 ok_X9_found rfl rfl (by decide) k_0 (Nat.le_of_ble_eq_true rfl) ⟨Nat.le_of_ble_eq_true rfl, Nat.le_of_ble_eq_true rfl⟩ rfl rfl (ct_found hK hI) ?_
      intro σ1 hp_1
      obtain ⟨hI1, hF1, hFr⟩ := hp_1
      obtain ⟨r1, r2, r3, r4, w1, w2, w3, w4, ⟨τ, w5, w6⟩, t1⟩ := hF1.un
      obtain ⟨L1, C1, -, -, q6, -, -⟩ := w1.2 t ht
      obtain ⟨s1, s2, s3, s4⟩ := t1 t ht
      have cap7 : pNr S.1 t * pNc S.1 t ≤ ln (51 + 1 + 20 * t + 7) := C1.1.2.2.2.2.2.2.2.2
      have hccl : pCc S.1 t ≤ pNr S.1 t * pNc S.1 t := C1.2.2.1
      refine aw_astore dX9_ruled_4 (Nat.le_of_ble_eq_true rfl) ?_
      refine aw_aload dX9_ruled_6 rfl ?_
      refine aw_iload_n dX9_ruled_8 rfl ?_
      refine cqi1 dX9_ruled_9 km9_125 ok_X0_has rfl rfl (by decide) k_21 (Nat.le_of_ble_eq_true rfl) ⟨Nat.le_of_ble_eq_true rfl, Nat.le_of_ble_eq_true rfl⟩ rfl rfl (ct_Finding_has _) ?_
      refine aw_if_neB dX9_ruled_12 rfl (fun h_12 => ?_) (fun h_12 => absurd h_12 (not_not_intro (ix_yes r4 ht (by omega))))
      refine aw_iload_n dX9_ruled_17 rfl ?_
      refine csq1 dX9_ruled_18 km9_42 ok_X9_isWay (Nat.le_of_ble_eq_true rfl) ⟨Nat.le_of_ble_eq_true rfl, Nat.le_of_ble_eq_true rfl⟩ rfl rfl (ct_isWay _) ?_
      refine aw_if_neB dX9_ruled_21 rfl (fun h_21 => absurd h_21 (h)) (fun h_21 => ?_)
      refine aw_bi (-2) dX9_ruled_24 (by decide) ?_
      exact aw_ireti dX9_ruled_26 (PoC.mk (by unfold aRuled; rw [e]; dsimp only; rw [e2]) hI1 hFr)
    · skip
      rcases ix_cases row (n := pNr S.1 t + 1 - w) (by omega) with ⟨h, e3⟩ | ⟨r, hr9, rfl, e3⟩
      · skip
        refine aw_aload_n dX9_ruled_0 rfl ?_
        refine cvr0 dX9_ruled_1 km9_82 ok_X9_found rfl rfl (by decide) k_0 (Nat.le_of_ble_eq_true rfl) ⟨Nat.le_of_ble_eq_true rfl, Nat.le_of_ble_eq_true rfl⟩ rfl rfl (ct_found hK hI) ?_
        intro σ1 hp_1
        obtain ⟨hI1, hF1, hFr⟩ := hp_1
        obtain ⟨r1, r2, r3, r4, w1, w2, w3, w4, ⟨τ, w5, w6⟩, t1⟩ := hF1.un
        obtain ⟨L1, C1, -, -, q6, -, -⟩ := w1.2 t ht
        obtain ⟨s1, s2, s3, s4⟩ := t1 t ht
        have cap7 : pNr S.1 t * pNc S.1 t ≤ ln (51 + 1 + 20 * t + 7) := C1.1.2.2.2.2.2.2.2.2
        have hccl : pCc S.1 t ≤ pNr S.1 t * pNc S.1 t := C1.2.2.1
        refine aw_astore dX9_ruled_4 (Nat.le_of_ble_eq_true rfl) ?_
        refine aw_aload dX9_ruled_6 rfl ?_
        refine aw_iload_n dX9_ruled_8 rfl ?_
        refine cqi1 dX9_ruled_9 km9_125 ok_X0_has rfl rfl (by decide) k_21 (Nat.le_of_ble_eq_true rfl) ⟨Nat.le_of_ble_eq_true rfl, Nat.le_of_ble_eq_true rfl⟩ rfl rfl (ct_Finding_has _) ?_
        refine aw_if_neB dX9_ruled_12 rfl (fun h_12 => ?_) (fun h_12 => absurd h_12 (not_not_intro (ix_yes r4 ht (by omega))))
        refine aw_iload_n dX9_ruled_17 rfl ?_
        refine csq1 dX9_ruled_18 km9_42 ok_X9_isWay (Nat.le_of_ble_eq_true rfl) ⟨Nat.le_of_ble_eq_true rfl, Nat.le_of_ble_eq_true rfl⟩ rfl rfl (ct_isWay _) ?_
        refine aw_if_neB dX9_ruled_21 rfl (fun h_21 => ?_) (fun h_21 => absurd h_21 (not_not_intro hw))
        refine aw_aload dX9_ruled_27 rfl ?_
        refine gf0_tables dX9_ruled_29 kf9_126 k_21 ?_
        refine aw_eqr (b := 51) rfl ?_
        refine aw_iload_n dX9_ruled_32 rfl ?_
        refine aw_ald15 (t) dX9_ruled_33 k_51 (rfl) (by omega) ?_
        refine aw_astore dX9_ruled_34 (Nat.le_of_ble_eq_true rfl) ?_
        refine aw_aload dX9_ruled_36 rfl ?_
        refine aw_iload_n dX9_ruled_38 rfl ?_
        refine aw_iload_n dX9_ruled_39 rfl ?_
        refine aw_iload dX9_ruled_40 rfl ?_
        refine cqi3 dX9_ruled_42 km9_141 ok_X8_sideOf rfl rfl (by decide) hk8 (Nat.le_of_ble_eq_true rfl) ⟨Nat.le_of_ble_eq_true rfl, Nat.le_of_ble_eq_true rfl⟩ rfl rfl (ct_sideNo C1.1 hw2 row col (h.elim Or.inl (fun z => Or.inr (Or.inl z)))) ?_
        refine aw_if_ge dX9_ruled_45 (fun h_45 => absurd h_45 (by decide)) (fun h_45 => ?_)
        refine aw_ic (-1) dX9_ruled_48 (by decide) ?_
        exact aw_ireti dX9_ruled_49 (PoC.mk (by unfold aRuled; rw [e]; dsimp only; rw [e2]; dsimp only; rw [e3]) hI1 hFr)
      · skip
        rcases ix_cases col (n := pNc S.1 t + w) (by omega) with ⟨h, e4⟩ | ⟨c, hc9, rfl, e4⟩
        · skip
          refine aw_aload_n dX9_ruled_0 rfl ?_
          refine cvr0 dX9_ruled_1 km9_82 ok_X9_found rfl rfl (by decide) k_0 (Nat.le_of_ble_eq_true rfl) ⟨Nat.le_of_ble_eq_true rfl, Nat.le_of_ble_eq_true rfl⟩ rfl rfl (ct_found hK hI) ?_
          intro σ1 hp_1
          obtain ⟨hI1, hF1, hFr⟩ := hp_1
          obtain ⟨r1, r2, r3, r4, w1, w2, w3, w4, ⟨τ, w5, w6⟩, t1⟩ := hF1.un
          obtain ⟨L1, C1, -, -, q6, -, -⟩ := w1.2 t ht
          obtain ⟨s1, s2, s3, s4⟩ := t1 t ht
          have cap7 : pNr S.1 t * pNc S.1 t ≤ ln (51 + 1 + 20 * t + 7) := C1.1.2.2.2.2.2.2.2.2
          have hccl : pCc S.1 t ≤ pNr S.1 t * pNc S.1 t := C1.2.2.1
          refine aw_astore dX9_ruled_4 (Nat.le_of_ble_eq_true rfl) ?_
          refine aw_aload dX9_ruled_6 rfl ?_
          refine aw_iload_n dX9_ruled_8 rfl ?_
          refine cqi1 dX9_ruled_9 km9_125 ok_X0_has rfl rfl (by decide) k_21 (Nat.le_of_ble_eq_true rfl) ⟨Nat.le_of_ble_eq_true rfl, Nat.le_of_ble_eq_true rfl⟩ rfl rfl (ct_Finding_has _) ?_
          refine aw_if_neB dX9_ruled_12 rfl (fun h_12 => ?_) (fun h_12 => absurd h_12 (not_not_intro (ix_yes r4 ht (by omega))))
          refine aw_iload_n dX9_ruled_17 rfl ?_
          refine csq1 dX9_ruled_18 km9_42 ok_X9_isWay (Nat.le_of_ble_eq_true rfl) ⟨Nat.le_of_ble_eq_true rfl, Nat.le_of_ble_eq_true rfl⟩ rfl rfl (ct_isWay _) ?_
          refine aw_if_neB dX9_ruled_21 rfl (fun h_21 => ?_) (fun h_21 => absurd h_21 (not_not_intro hw))
          refine aw_aload dX9_ruled_27 rfl ?_
          refine gf0_tables dX9_ruled_29 kf9_126 k_21 ?_
          refine aw_eqr (b := 51) rfl ?_
          refine aw_iload_n dX9_ruled_32 rfl ?_
          refine aw_ald15 (t) dX9_ruled_33 k_51 (rfl) (by omega) ?_
          refine aw_astore dX9_ruled_34 (Nat.le_of_ble_eq_true rfl) ?_
          refine aw_aload dX9_ruled_36 rfl ?_
          refine aw_iload_n dX9_ruled_38 rfl ?_
          refine aw_iload_n dX9_ruled_39 rfl ?_
          refine aw_iload dX9_ruled_40 rfl ?_
          refine cqi3 dX9_ruled_42 km9_141 ok_X8_sideOf rfl rfl (by decide) hk8 (Nat.le_of_ble_eq_true rfl) ⟨Nat.le_of_ble_eq_true rfl, Nat.le_of_ble_eq_true rfl⟩ rfl rfl (ct_sideNo C1.1 hw2 _ col (h.elim (fun z => Or.inr (Or.inr (Or.inl z))) (fun z => Or.inr (Or.inr (Or.inr z))))) ?_
          refine aw_if_ge dX9_ruled_45 (fun h_45 => absurd h_45 (by decide)) (fun h_45 => ?_)
          refine aw_ic (-1) dX9_ruled_48 (by decide) ?_
          exact aw_ireti dX9_ruled_49 (PoC.mk (by unfold aRuled; rw [e]; dsimp only; rw [e2]; dsimp only; rw [e3, e4]) hI1 hFr)
        · skip
          have hsd : sdIn (pNr S.1 t) (pNc S.1 t) w r c := by
            show (w = 0 ∧ r ≤ pNr S.1 t ∧ c < pNc S.1 t) ∨ (w = 1 ∧ r < pNr S.1 t ∧ c ≤ pNc S.1 t)
            omega
          have hsx := sidx_lt hsd
          have hl6t := ln_t6 hk8
          refine aw_aload_n dX9_ruled_0 rfl ?_
          refine cvr0 dX9_ruled_1 km9_82 ok_X9_found rfl rfl (by decide) k_0 (Nat.le_of_ble_eq_true rfl) ⟨Nat.le_of_ble_eq_true rfl, Nat.le_of_ble_eq_true rfl⟩ rfl rfl (ct_found hK hI) ?_
          intro σ1 hp_1
          obtain ⟨hI1, hF1, hFr⟩ := hp_1
          obtain ⟨r1, r2, r3, r4, w1, w2, w3, w4, ⟨τ, w5, w6⟩, t1⟩ := hF1.un
          obtain ⟨L1, C1, -, -, q6, -, -⟩ := w1.2 t ht
          obtain ⟨s1, s2, s3, s4⟩ := t1 t ht
          have cap7 : pNr S.1 t * pNc S.1 t ≤ ln (51 + 1 + 20 * t + 7) := C1.1.2.2.2.2.2.2.2.2
          have hccl : pCc S.1 t ≤ pNr S.1 t * pNc S.1 t := C1.2.2.1
          have cap6 : (pNr S.1 t + 1) * pNc S.1 t + pNr S.1 t * (pNc S.1 t + 1) ≤ ln (51 + 1 + 20 * t + 6) := C1.1.2.2.2.2.2.2.2.1
          refine aw_astore dX9_ruled_4 (Nat.le_of_ble_eq_true rfl) ?_
          refine aw_aload dX9_ruled_6 rfl ?_
          refine aw_iload_n dX9_ruled_8 rfl ?_
          refine cqi1 dX9_ruled_9 km9_125 ok_X0_has rfl rfl (by decide) k_21 (Nat.le_of_ble_eq_true rfl) ⟨Nat.le_of_ble_eq_true rfl, Nat.le_of_ble_eq_true rfl⟩ rfl rfl (ct_Finding_has _) ?_
          refine aw_if_neB dX9_ruled_12 rfl (fun h_12 => ?_) (fun h_12 => absurd h_12 (not_not_intro (ix_yes r4 ht (by omega))))
          refine aw_iload_n dX9_ruled_17 rfl ?_
          refine csq1 dX9_ruled_18 km9_42 ok_X9_isWay (Nat.le_of_ble_eq_true rfl) ⟨Nat.le_of_ble_eq_true rfl, Nat.le_of_ble_eq_true rfl⟩ rfl rfl (ct_isWay _) ?_
          refine aw_if_neB dX9_ruled_21 rfl (fun h_21 => ?_) (fun h_21 => absurd h_21 (not_not_intro hw))
          refine aw_aload dX9_ruled_27 rfl ?_
          refine gf0_tables dX9_ruled_29 kf9_126 k_21 ?_
          refine aw_eqr (b := 51) rfl ?_
          refine aw_iload_n dX9_ruled_32 rfl ?_
          refine aw_ald15 (t) dX9_ruled_33 k_51 (rfl) (by omega) ?_
          refine aw_astore dX9_ruled_34 (Nat.le_of_ble_eq_true rfl) ?_
          refine aw_aload dX9_ruled_36 rfl ?_
          refine aw_iload_n dX9_ruled_38 rfl ?_
          refine aw_iload_n dX9_ruled_39 rfl ?_
          refine aw_iload dX9_ruled_40 rfl ?_
          refine cqi3 dX9_ruled_42 km9_141 ok_X8_sideOf rfl rfl (by decide) hk8 (Nat.le_of_ble_eq_true rfl) ⟨Nat.le_of_ble_eq_true rfl, Nat.le_of_ble_eq_true rfl⟩ rfl rfl (ct_sideOf C1.1 hsd) ?_
          refine aw_if_ge dX9_ruled_45 (fun h_45 => ?_) (fun h_45 => absurd h_45 (fun z => z (Int32.not_lt.mp (nI_pos (by omega)))))
          refine aw_aload dX9_ruled_50 rfl ?_
          refine aw_iload_n dX9_ruled_52 rfl ?_
          refine aw_iload_n dX9_ruled_53 rfl ?_
          refine aw_iload dX9_ruled_54 rfl ?_
          refine cqi3 dX9_ruled_56 km9_145 ok_X8_hasRuled rfl rfl (by decide) hk8 (Nat.le_of_ble_eq_true rfl) ⟨Nat.le_of_ble_eq_true rfl, Nat.le_of_ble_eq_true rfl⟩ rfl rfl (ct_hasRuled C1.1 s1 hsd) ?_
          refine aw_if_eqB dX9_ruled_59 rfl (fun h_59 => ?_) (fun h_59 => ?_)
          · skip
            refine aw_ic (nI 0) dX9_ruled_66 (by decide) ?_
            exact aw_ireti dX9_ruled_67 (PoC.mk (by unfold aRuled; rw [e]; dsimp only; rw [e2]; dsimp only; rw [e3, e4]; dsimp only; rw [if_neg h_59]; rfl) hI1 hFr)
          · skip
            refine aw_ic (nI 1) dX9_ruled_62 (by decide) ?_
            refine aw_goto dX9_ruled_63 ?_
            exact aw_ireti dX9_ruled_67 (PoC.mk (by unfold aRuled; rw [e]; dsimp only; rw [e2]; dsimp only; rw [e3, e4]; dsimp only; rw [if_pos h_59]; rfl) hI1 hFr)

set_option maxHeartbeats 4000000 in
set_option maxRecDepth 100000 in
theorem ct_at {g : GG} {σ : SG} {S : Sp} (hK : FOKs) (hI : InvC σ S) (x row col : Int32) : Cti g yX9_at cX9_at 6 (some .int) (rmm 6 148) [.ref (ad g 0), .int x, .int row, .int col] σ (PoC σ (aAt S.1 x row col, S)) := by
  refine ct_of (own := RX9) (lv := [some (.ref (ad g 0)), some (.int x), some (.int row), some (.int col), none, none]) rfl (by decide) (Nat.le_of_ble_eq_true rfl) (by intro u hu; simp only [List.mem_cons, List.not_mem_nil, or_false] at hu; rcases hu with rfl | rfl | rfl | rfl <;> rfl) (lv_ok [.ref (ad g 0), .int x, .int row, .int col] 2) ?_
  obtain ⟨hP, hV, ⟨m1, m2, m3⟩, h4, h5, h6⟩ := id hI
  have hl6 := l_6
  have hl3 := l_3
  have hl5 := l_5
  have hc : σ.1 162 2 = nI S.1.1 := hP.1.2.1
  have hm : σ.1 161 2 = nI 24 := m1.1
  have hcw : σ.1 162 4 = nI S.1.2.2.1 := hP.2.1.2.1
  have hmw : σ.1 161 4 = nI 20 := m1.2
  have hc24 := hV.1
  have hw20 := hV.2.2.1
  have hT6 := pT_le hK hV
  rcases ix_cases x (n := pT S.1) (by omega) with ⟨h, e⟩ | ⟨t, ht, rfl, e⟩
  · skip
    refine aw_aload_n dX9_at_0 rfl ?_
    refine cvr0 dX9_at_1 km9_82 ok_X9_found rfl rfl (by decide) k_0 (Nat.le_of_ble_eq_true rfl) ⟨Nat.le_of_ble_eq_true rfl, Nat.le_of_ble_eq_true rfl⟩ rfl rfl (ct_found hK hI) ?_
    intro σ1 hp_1
    obtain ⟨hI1, hF1, hFr⟩ := hp_1
    obtain ⟨r1, r2, r3, r4, w1, w2, w3, w4, ⟨τ, w5, w6⟩, t1⟩ := hF1.un
    refine aw_astore dX9_at_4 (Nat.le_of_ble_eq_true rfl) ?_
    refine aw_aload dX9_at_6 rfl ?_
    refine aw_iload_n dX9_at_8 rfl ?_
    refine cqi1 dX9_at_9 km9_125 ok_X0_has rfl rfl (by decide) k_21 (Nat.le_of_ble_eq_true rfl) ⟨Nat.le_of_ble_eq_true rfl, Nat.le_of_ble_eq_true rfl⟩ rfl rfl (ct_Finding_has _) ?_
    refine aw_if_neB dX9_at_12 rfl (fun h_12 => absurd h_12 (ix_no r4 h)) (fun h_12 => ?_)
    refine aw_ic (-1) dX9_at_15 (by decide) ?_
    exact aw_ireti dX9_at_16 (PoC.mk (by unfold aAt; rw [e]) hI1 hFr)
  · skip
    obtain ⟨b0, b1, b2, b3, b4, b5, b6, b7, b8⟩ := pB hK hV ht
    have hk8 := k_tab (show t < 6 by omega)
    have hl51 := l_51
    have hl7 := ln_t7 hk8
    have hlt8 := ln_t8 hk8
    rcases ix_cases row (n := pNr S.1 t) (by omega) with ⟨h, e3⟩ | ⟨r, hr9, rfl, e3⟩
    · skip
      refine aw_aload_n dX9_at_0 rfl ?_
      refine cvr0 dX9_at_1 km9_82 ok_X9_found rfl rfl (by decide) k_0 (Nat.le_of_ble_eq_true rfl) ⟨Nat.le_of_ble_eq_true rfl, Nat.le_of_ble_eq_true rfl⟩ rfl rfl (ct_found hK hI) ?_
      intro σ1 hp_1
      obtain ⟨hI1, hF1, hFr⟩ := hp_1
      obtain ⟨r1, r2, r3, r4, w1, w2, w3, w4, ⟨τ, w5, w6⟩, t1⟩ := hF1.un
      obtain ⟨L1, C1, -, -, q6, -, -⟩ := w1.2 t ht
      obtain ⟨s1, s2, s3, s4⟩ := t1 t ht
      have cap7 : pNr S.1 t * pNc S.1 t ≤ ln (51 + 1 + 20 * t + 7) := C1.1.2.2.2.2.2.2.2.2
      have hccl : pCc S.1 t ≤ pNr S.1 t * pNc S.1 t := C1.2.2.1
      refine aw_astore dX9_at_4 (Nat.le_of_ble_eq_true rfl) ?_
      refine aw_aload dX9_at_6 rfl ?_
      refine aw_iload_n dX9_at_8 rfl ?_
      refine cqi1 dX9_at_9 km9_125 ok_X0_has rfl rfl (by decide) k_21 (Nat.le_of_ble_eq_true rfl) ⟨Nat.le_of_ble_eq_true rfl, Nat.le_of_ble_eq_true rfl⟩ rfl rfl (ct_Finding_has _) ?_
      refine aw_if_neB dX9_at_12 rfl (fun h_12 => ?_) (fun h_12 => absurd h_12 (not_not_intro (ix_yes r4 ht (by omega))))
      refine aw_aload dX9_at_17 rfl ?_
      refine gf0_tables dX9_at_19 kf9_126 k_21 ?_
      refine aw_eqr (b := 51) rfl ?_
      refine aw_iload_n dX9_at_22 rfl ?_
      refine aw_ald15 (t) dX9_at_23 k_51 (rfl) (by omega) ?_
      refine aw_iload_n dX9_at_24 rfl ?_
      refine aw_iload_n dX9_at_25 rfl ?_
      refine cqi2 dX9_at_26 km9_149 ok_X8_cellOf rfl rfl (by decide) hk8 (Nat.le_of_ble_eq_true rfl) ⟨Nat.le_of_ble_eq_true rfl, Nat.le_of_ble_eq_true rfl⟩ rfl rfl (ct_cellNo C1.1 row col (h.elim Or.inl (fun z => Or.inr (Or.inl z)))) ?_
      refine aw_istore dX9_at_29 (Nat.le_of_ble_eq_true rfl) ?_
      refine aw_iload dX9_at_31 rfl ?_
      refine aw_if_ge dX9_at_33 (fun h_33 => absurd h_33 (by decide)) (fun h_33 => ?_)
      refine aw_ic (-1) dX9_at_36 (by decide) ?_
      refine aw_goto dX9_at_37 ?_
      exact aw_ireti dX9_at_42 (PoC.mk (by unfold aAt; rw [e]; dsimp only; rw [e3]) hI1 hFr)
    · skip
      rcases ix_cases col (n := pNc S.1 t) (by omega) with ⟨h, e4⟩ | ⟨c, hc9, rfl, e4⟩
      · skip
        refine aw_aload_n dX9_at_0 rfl ?_
        refine cvr0 dX9_at_1 km9_82 ok_X9_found rfl rfl (by decide) k_0 (Nat.le_of_ble_eq_true rfl) ⟨Nat.le_of_ble_eq_true rfl, Nat.le_of_ble_eq_true rfl⟩ rfl rfl (ct_found hK hI) ?_
        intro σ1 hp_1
        obtain ⟨hI1, hF1, hFr⟩ := hp_1
        obtain ⟨r1, r2, r3, r4, w1, w2, w3, w4, ⟨τ, w5, w6⟩, t1⟩ := hF1.un
        obtain ⟨L1, C1, -, -, q6, -, -⟩ := w1.2 t ht
        obtain ⟨s1, s2, s3, s4⟩ := t1 t ht
        have cap7 : pNr S.1 t * pNc S.1 t ≤ ln (51 + 1 + 20 * t + 7) := C1.1.2.2.2.2.2.2.2.2
        have hccl : pCc S.1 t ≤ pNr S.1 t * pNc S.1 t := C1.2.2.1
        refine aw_astore dX9_at_4 (Nat.le_of_ble_eq_true rfl) ?_
        refine aw_aload dX9_at_6 rfl ?_
        refine aw_iload_n dX9_at_8 rfl ?_
        refine cqi1 dX9_at_9 km9_125 ok_X0_has rfl rfl (by decide) k_21 (Nat.le_of_ble_eq_true rfl) ⟨Nat.le_of_ble_eq_true rfl, Nat.le_of_ble_eq_true rfl⟩ rfl rfl (ct_Finding_has _) ?_
        refine aw_if_neB dX9_at_12 rfl (fun h_12 => ?_) (fun h_12 => absurd h_12 (not_not_intro (ix_yes r4 ht (by omega))))
        refine aw_aload dX9_at_17 rfl ?_
        refine gf0_tables dX9_at_19 kf9_126 k_21 ?_
        refine aw_eqr (b := 51) rfl ?_
        refine aw_iload_n dX9_at_22 rfl ?_
        refine aw_ald15 (t) dX9_at_23 k_51 (rfl) (by omega) ?_
        refine aw_iload_n dX9_at_24 rfl ?_
        refine aw_iload_n dX9_at_25 rfl ?_
        refine cqi2 dX9_at_26 km9_149 ok_X8_cellOf rfl rfl (by decide) hk8 (Nat.le_of_ble_eq_true rfl) ⟨Nat.le_of_ble_eq_true rfl, Nat.le_of_ble_eq_true rfl⟩ rfl rfl (ct_cellNo C1.1 _ col (h.elim (fun z => Or.inr (Or.inr (Or.inl z))) (fun z => Or.inr (Or.inr (Or.inr z))))) ?_
        refine aw_istore dX9_at_29 (Nat.le_of_ble_eq_true rfl) ?_
        refine aw_iload dX9_at_31 rfl ?_
        refine aw_if_ge dX9_at_33 (fun h_33 => absurd h_33 (by decide)) (fun h_33 => ?_)
        refine aw_ic (-1) dX9_at_36 (by decide) ?_
        refine aw_goto dX9_at_37 ?_
        exact aw_ireti dX9_at_42 (PoC.mk (by unfold aAt; rw [e]; dsimp only; rw [e3, e4]) hI1 hFr)
      · skip
        refine aw_aload_n dX9_at_0 rfl ?_
        refine cvr0 dX9_at_1 km9_82 ok_X9_found rfl rfl (by decide) k_0 (Nat.le_of_ble_eq_true rfl) ⟨Nat.le_of_ble_eq_true rfl, Nat.le_of_ble_eq_true rfl⟩ rfl rfl (ct_found hK hI) ?_
        intro σ1 hp_1
        obtain ⟨hI1, hF1, hFr⟩ := hp_1
        obtain ⟨r1, r2, r3, r4, w1, w2, w3, w4, ⟨τ, w5, w6⟩, t1⟩ := hF1.un
        obtain ⟨L1, C1, -, -, q6, -, -⟩ := w1.2 t ht
        obtain ⟨s1, s2, s3, s4⟩ := t1 t ht
        have cap7 : pNr S.1 t * pNc S.1 t ≤ ln (51 + 1 + 20 * t + 7) := C1.1.2.2.2.2.2.2.2.2
        have hccl : pCc S.1 t ≤ pNr S.1 t * pNc S.1 t := C1.2.2.1
        have hfc := (C1.2.2.2.1 (r * pNc S.1 t + c) (rc_lt hr9 hc9)).2
        refine aw_astore dX9_at_4 (Nat.le_of_ble_eq_true rfl) ?_
        refine aw_aload dX9_at_6 rfl ?_
        refine aw_iload_n dX9_at_8 rfl ?_
        refine cqi1 dX9_at_9 km9_125 ok_X0_has rfl rfl (by decide) k_21 (Nat.le_of_ble_eq_true rfl) ⟨Nat.le_of_ble_eq_true rfl, Nat.le_of_ble_eq_true rfl⟩ rfl rfl (ct_Finding_has _) ?_
        refine aw_if_neB dX9_at_12 rfl (fun h_12 => ?_) (fun h_12 => absurd h_12 (not_not_intro (ix_yes r4 ht (by omega))))
        refine aw_aload dX9_at_17 rfl ?_
        refine gf0_tables dX9_at_19 kf9_126 k_21 ?_
        refine aw_eqr (b := 51) rfl ?_
        refine aw_iload_n dX9_at_22 rfl ?_
        refine aw_ald15 (t) dX9_at_23 k_51 (rfl) (by omega) ?_
        refine aw_iload_n dX9_at_24 rfl ?_
        refine aw_iload_n dX9_at_25 rfl ?_
        refine cqi2 dX9_at_26 km9_149 ok_X8_cellOf rfl rfl (by decide) hk8 (Nat.le_of_ble_eq_true rfl) ⟨Nat.le_of_ble_eq_true rfl, Nat.le_of_ble_eq_true rfl⟩ rfl rfl (ct_cellOf C1 hr9 hc9) ?_
        refine aw_istore dX9_at_29 (Nat.le_of_ble_eq_true rfl) ?_
        refine aw_iload dX9_at_31 rfl ?_
        refine aw_if_ge dX9_at_33 (fun h_33 => ?_) (fun h_33 => absurd h_33 (fun z => z (Int32.not_lt.mp (nI_pos (by omega)))))
        refine aw_iload dX9_at_40 rfl ?_
        exact aw_ireti dX9_at_42 (PoC.mk (by unfold aAt; rw [e]; dsimp only; rw [e3, e4]) hI1 hFr)

set_option maxHeartbeats 4000000 in
set_option maxRecDepth 100000 in
theorem ct_cell {g : GG} {σ : SG} {S : Sp} (hK : FOKs) (hI : InvC σ S) (x cell what : Int32) : Cti g yX9_cell cX9_cell 5 (some .int) (rmm 6 148) [.ref (ad g 0), .int x, .int cell, .int what] σ (PoC σ (aCell S.1 x cell what, S)) := by
  refine ct_of (own := RX9) (lv := [some (.ref (ad g 0)), some (.int x), some (.int cell), some (.int what), none]) rfl (by decide) (Nat.le_of_ble_eq_true rfl) (by intro u hu; simp only [List.mem_cons, List.not_mem_nil, or_false] at hu; rcases hu with rfl | rfl | rfl | rfl <;> rfl) (lv_ok [.ref (ad g 0), .int x, .int cell, .int what] 1) ?_
  obtain ⟨hP, hV, ⟨m1, m2, m3⟩, h4, h5, h6⟩ := id hI
  have hl6 := l_6
  have hl3 := l_3
  have hl5 := l_5
  have hc : σ.1 162 2 = nI S.1.1 := hP.1.2.1
  have hm : σ.1 161 2 = nI 24 := m1.1
  have hcw : σ.1 162 4 = nI S.1.2.2.1 := hP.2.1.2.1
  have hmw : σ.1 161 4 = nI 20 := m1.2
  have hc24 := hV.1
  have hw20 := hV.2.2.1
  have hT6 := pT_le hK hV
  rcases ix_cases x (n := pT S.1) (by omega) with ⟨h, e⟩ | ⟨t, ht, rfl, e⟩
  · skip
    refine aw_aload_n dX9_cell_0 rfl ?_
    refine cvr0 dX9_cell_1 km9_82 ok_X9_found rfl rfl (by decide) k_0 (Nat.le_of_ble_eq_true rfl) ⟨Nat.le_of_ble_eq_true rfl, Nat.le_of_ble_eq_true rfl⟩ rfl rfl (ct_found hK hI) ?_
    intro σ1 hp_1
    obtain ⟨hI1, hF1, hFr⟩ := hp_1
    obtain ⟨r1, r2, r3, r4, w1, w2, w3, w4, ⟨τ, w5, w6⟩, t1⟩ := hF1.un
    refine aw_astore dX9_cell_4 (Nat.le_of_ble_eq_true rfl) ?_
    refine aw_aload dX9_cell_6 rfl ?_
    refine aw_iload_n dX9_cell_8 rfl ?_
    refine cqi1 dX9_cell_9 km9_125 ok_X0_has rfl rfl (by decide) k_21 (Nat.le_of_ble_eq_true rfl) ⟨Nat.le_of_ble_eq_true rfl, Nat.le_of_ble_eq_true rfl⟩ rfl rfl (ct_Finding_has _) ?_
    refine aw_if_eqB dX9_cell_12 rfl (fun h_12 => ?_) (fun h_12 => absurd h_12 (ix_no r4 h))
    refine aw_ic (-1) dX9_cell_29 (by decide) ?_
    exact aw_ireti dX9_cell_30 (PoC.mk (by unfold aCell; rw [e]) hI1 hFr)
  · skip
    obtain ⟨b0, b1, b2, b3, b4, b5, b6, b7, b8⟩ := pB hK hV ht
    have hk8 := k_tab (show t < 6 by omega)
    have hl51 := l_51
    have hl7 := ln_t7 hk8
    have hlt8 := ln_t8 hk8
    rcases ix_cases cell (n := pCc S.1 t) (by omega) with ⟨h, e2⟩ | ⟨q, hq, rfl, e2⟩
    · skip
      refine aw_aload_n dX9_cell_0 rfl ?_
      refine cvr0 dX9_cell_1 km9_82 ok_X9_found rfl rfl (by decide) k_0 (Nat.le_of_ble_eq_true rfl) ⟨Nat.le_of_ble_eq_true rfl, Nat.le_of_ble_eq_true rfl⟩ rfl rfl (ct_found hK hI) ?_
      intro σ1 hp_1
      obtain ⟨hI1, hF1, hFr⟩ := hp_1
      obtain ⟨r1, r2, r3, r4, w1, w2, w3, w4, ⟨τ, w5, w6⟩, t1⟩ := hF1.un
      obtain ⟨L1, C1, -, -, q6, -, -⟩ := w1.2 t ht
      obtain ⟨s1, s2, s3, s4⟩ := t1 t ht
      have cap7 : pNr S.1 t * pNc S.1 t ≤ ln (51 + 1 + 20 * t + 7) := C1.1.2.2.2.2.2.2.2.2
      have hccl : pCc S.1 t ≤ pNr S.1 t * pNc S.1 t := C1.2.2.1
      refine aw_astore dX9_cell_4 (Nat.le_of_ble_eq_true rfl) ?_
      refine aw_aload dX9_cell_6 rfl ?_
      refine aw_iload_n dX9_cell_8 rfl ?_
      refine cqi1 dX9_cell_9 km9_125 ok_X0_has rfl rfl (by decide) k_21 (Nat.le_of_ble_eq_true rfl) ⟨Nat.le_of_ble_eq_true rfl, Nat.le_of_ble_eq_true rfl⟩ rfl rfl (ct_Finding_has _) ?_
      refine aw_if_eqB dX9_cell_12 rfl (fun h_12 => absurd h_12 (not_not_intro (ix_yes r4 ht (by omega)))) (fun h_12 => ?_)
      refine aw_aload dX9_cell_15 rfl ?_
      refine gf0_tables dX9_cell_17 kf9_126 k_21 ?_
      refine aw_eqr (b := 51) rfl ?_
      refine aw_iload_n dX9_cell_20 rfl ?_
      refine aw_ald15 (t) dX9_cell_21 k_51 (rfl) (by omega) ?_
      refine aw_iload_n dX9_cell_22 rfl ?_
      refine cqi1 dX9_cell_23 km9_152 ok_X8_hasCell rfl rfl (by decide) hk8 (Nat.le_of_ble_eq_true rfl) ⟨Nat.le_of_ble_eq_true rfl, Nat.le_of_ble_eq_true rfl⟩ rfl rfl (ct_hasCell hk8 _) ?_
      refine aw_if_neB dX9_cell_26 rfl (fun h_26 => absurd h_26 (ix_no C1.2.1 h)) (fun h_26 => ?_)
      refine aw_ic (-1) dX9_cell_29 (by decide) ?_
      exact aw_ireti dX9_cell_30 (PoC.mk (by unfold aCell; rw [e]; dsimp only; rw [e2]) hI1 hFr)
    · skip
      rcases ix_cases what (n := 7) (by decide) with ⟨h, e3⟩ | ⟨j, hj, rfl, e3⟩
      · skip
        refine aw_aload_n dX9_cell_0 rfl ?_
        refine cvr0 dX9_cell_1 km9_82 ok_X9_found rfl rfl (by decide) k_0 (Nat.le_of_ble_eq_true rfl) ⟨Nat.le_of_ble_eq_true rfl, Nat.le_of_ble_eq_true rfl⟩ rfl rfl (ct_found hK hI) ?_
        intro σ1 hp_1
        obtain ⟨hI1, hF1, hFr⟩ := hp_1
        obtain ⟨r1, r2, r3, r4, w1, w2, w3, w4, ⟨τ, w5, w6⟩, t1⟩ := hF1.un
        obtain ⟨L1, C1, -, -, q6, -, -⟩ := w1.2 t ht
        obtain ⟨s1, s2, s3, s4⟩ := t1 t ht
        have cap7 : pNr S.1 t * pNc S.1 t ≤ ln (51 + 1 + 20 * t + 7) := C1.1.2.2.2.2.2.2.2.2
        have hccl : pCc S.1 t ≤ pNr S.1 t * pNc S.1 t := C1.2.2.1
        refine aw_astore dX9_cell_4 (Nat.le_of_ble_eq_true rfl) ?_
        refine aw_aload dX9_cell_6 rfl ?_
        refine aw_iload_n dX9_cell_8 rfl ?_
        refine cqi1 dX9_cell_9 km9_125 ok_X0_has rfl rfl (by decide) k_21 (Nat.le_of_ble_eq_true rfl) ⟨Nat.le_of_ble_eq_true rfl, Nat.le_of_ble_eq_true rfl⟩ rfl rfl (ct_Finding_has _) ?_
        refine aw_if_eqB dX9_cell_12 rfl (fun h_12 => absurd h_12 (not_not_intro (ix_yes r4 ht (by omega)))) (fun h_12 => ?_)
        refine aw_aload dX9_cell_15 rfl ?_
        refine gf0_tables dX9_cell_17 kf9_126 k_21 ?_
        refine aw_eqr (b := 51) rfl ?_
        refine aw_iload_n dX9_cell_20 rfl ?_
        refine aw_ald15 (t) dX9_cell_21 k_51 (rfl) (by omega) ?_
        refine aw_iload_n dX9_cell_22 rfl ?_
        refine cqi1 dX9_cell_23 km9_152 ok_X8_hasCell rfl rfl (by decide) hk8 (Nat.le_of_ble_eq_true rfl) ⟨Nat.le_of_ble_eq_true rfl, Nat.le_of_ble_eq_true rfl⟩ rfl rfl (ct_hasCell hk8 _) ?_
        refine aw_if_neB dX9_cell_26 rfl (fun h_26 => ?_) (fun h_26 => absurd h_26 (not_not_intro (ix_yes C1.2.1 hq (by omega))))
        refine aw_iload_n dX9_cell_31 rfl ?_
        refine aw_if_lt dX9_cell_32 (fun h_32 => ?_) (fun h_32 => ?_)
        · skip
          refine aw_bi (-2) dX9_cell_41 (by decide) ?_
          exact aw_ireti dX9_cell_43 (PoC.mk (by unfold aCell; rw [e]; dsimp only; rw [e2]; dsimp only; rw [e3]) hI1 hFr)
        · skip
          refine aw_iload_n dX9_cell_35 rfl ?_
          refine aw_bi (nI 7) dX9_cell_36 (by decide) ?_
          refine aw_icmp_lt dX9_cell_38 (fun h_38 => absurd h_38 (fun z => h.elim h_32 (fun y => absurd z (Int32.not_lt.mpr y)))) (fun h_38 => ?_)
          refine aw_bi (-2) dX9_cell_41 (by decide) ?_
          exact aw_ireti dX9_cell_43 (PoC.mk (by unfold aCell; rw [e]; dsimp only; rw [e2]; dsimp only; rw [e3]) hI1 hFr)
      · skip
        have hl9 := (ln_t9 hk8 hj).1
        refine aw_aload_n dX9_cell_0 rfl ?_
        refine cvr0 dX9_cell_1 km9_82 ok_X9_found rfl rfl (by decide) k_0 (Nat.le_of_ble_eq_true rfl) ⟨Nat.le_of_ble_eq_true rfl, Nat.le_of_ble_eq_true rfl⟩ rfl rfl (ct_found hK hI) ?_
        intro σ1 hp_1
        obtain ⟨hI1, hF1, hFr⟩ := hp_1
        obtain ⟨r1, r2, r3, r4, w1, w2, w3, w4, ⟨τ, w5, w6⟩, t1⟩ := hF1.un
        obtain ⟨L1, C1, -, -, q6, -, -⟩ := w1.2 t ht
        obtain ⟨s1, s2, s3, s4⟩ := t1 t ht
        have cap7 : pNr S.1 t * pNc S.1 t ≤ ln (51 + 1 + 20 * t + 7) := C1.1.2.2.2.2.2.2.2.2
        have hccl : pCc S.1 t ≤ pNr S.1 t * pNc S.1 t := C1.2.2.1
        refine aw_astore dX9_cell_4 (Nat.le_of_ble_eq_true rfl) ?_
        refine aw_aload dX9_cell_6 rfl ?_
        refine aw_iload_n dX9_cell_8 rfl ?_
        refine cqi1 dX9_cell_9 km9_125 ok_X0_has rfl rfl (by decide) k_21 (Nat.le_of_ble_eq_true rfl) ⟨Nat.le_of_ble_eq_true rfl, Nat.le_of_ble_eq_true rfl⟩ rfl rfl (ct_Finding_has _) ?_
        refine aw_if_eqB dX9_cell_12 rfl (fun h_12 => absurd h_12 (not_not_intro (ix_yes r4 ht (by omega)))) (fun h_12 => ?_)
        refine aw_aload dX9_cell_15 rfl ?_
        refine gf0_tables dX9_cell_17 kf9_126 k_21 ?_
        refine aw_eqr (b := 51) rfl ?_
        refine aw_iload_n dX9_cell_20 rfl ?_
        refine aw_ald15 (t) dX9_cell_21 k_51 (rfl) (by omega) ?_
        refine aw_iload_n dX9_cell_22 rfl ?_
        refine cqi1 dX9_cell_23 km9_152 ok_X8_hasCell rfl rfl (by decide) hk8 (Nat.le_of_ble_eq_true rfl) ⟨Nat.le_of_ble_eq_true rfl, Nat.le_of_ble_eq_true rfl⟩ rfl rfl (ct_hasCell hk8 _) ?_
        refine aw_if_neB dX9_cell_26 rfl (fun h_26 => ?_) (fun h_26 => absurd h_26 (not_not_intro (ix_yes C1.2.1 hq (by omega))))
        refine aw_iload_n dX9_cell_31 rfl ?_
        refine aw_if_lt dX9_cell_32 (fun h_32 => absurd h_32 (nI_pos (by omega))) (fun h_32 => ?_)
        refine aw_iload_n dX9_cell_35 rfl ?_
        refine aw_bi (nI 7) dX9_cell_36 (by decide) ?_
        refine aw_icmp_ltN dX9_cell_38 rfl (b := 7) rfl (by omega) (by omega) (fun h_38 => ?_) (fun h_38 => absurd h_38 (by omega))
        refine aw_aload dX9_cell_44 rfl ?_
        refine gf0_tables dX9_cell_46 kf9_126 k_21 ?_
        refine aw_eqr (b := 51) rfl ?_
        refine aw_iload_n dX9_cell_49 rfl ?_
        refine aw_ald15 (t) dX9_cell_50 k_51 (rfl) (by omega) ?_
        refine gf8_cells dX9_cell_51 kf9_155 hk8 ?_
        refine aw_iload_n dX9_cell_54 rfl ?_
        refine aw_ald16 (j) dX9_cell_55 (kf_8_cells hk8) (rfl) (by omega) ?_
        refine aw_iload_n dX9_cell_56 rfl ?_
        refine aw_ld (q) dX9_cell_57 (ln_t9 hk8 hj).2 (rfl) (by omega) ?_
        refine aw_eq (C1.2.2.2.2 q j hq hj).1 ?_
        exact aw_ireti dX9_cell_58 (PoC.mk (by unfold aCell; rw [e]; dsimp only; rw [e2]; dsimp only; rw [e3]) hI1 hFr)

set_option maxHeartbeats 4000000 in
set_option maxRecDepth 100000 in
theorem ct_missed {g : GG} {σ : SG} {S : Sp} (hK : FOKs) (hI : InvC σ S) (x k what : Int32) : Cti g yX9_missed cX9_missed 6 (some .int) (rmm 6 148) [.ref (ad g 0), .int x, .int k, .int what] σ (PoC σ (aMissed S.1 x k what, S)) := by
  refine ct_of (own := RX9) (lv := [some (.ref (ad g 0)), some (.int x), some (.int k), some (.int what), none, none]) rfl (by decide) (Nat.le_of_ble_eq_true rfl) (by intro u hu; simp only [List.mem_cons, List.not_mem_nil, or_false] at hu; rcases hu with rfl | rfl | rfl | rfl <;> rfl) (lv_ok [.ref (ad g 0), .int x, .int k, .int what] 2) ?_
  obtain ⟨hP, hV, ⟨m1, m2, m3⟩, h4, h5, h6⟩ := id hI
  have hl6 := l_6
  have hl3 := l_3
  have hl5 := l_5
  have hc : σ.1 162 2 = nI S.1.1 := hP.1.2.1
  have hm : σ.1 161 2 = nI 24 := m1.1
  have hcw : σ.1 162 4 = nI S.1.2.2.1 := hP.2.1.2.1
  have hmw : σ.1 161 4 = nI 20 := m1.2
  have hc24 := hV.1
  have hw20 := hV.2.2.1
  have hT6 := pT_le hK hV
  rcases ix_cases x (n := pT S.1) (by omega) with ⟨h, e⟩ | ⟨t, ht, rfl, e⟩
  · skip
    refine aw_aload_n dX9_missed_0 rfl ?_
    refine cvr0 dX9_missed_1 km9_82 ok_X9_found rfl rfl (by decide) k_0 (Nat.le_of_ble_eq_true rfl) ⟨Nat.le_of_ble_eq_true rfl, Nat.le_of_ble_eq_true rfl⟩ rfl rfl (ct_found hK hI) ?_
    intro σ1 hp_1
    obtain ⟨hI1, hF1, hFr⟩ := hp_1
    obtain ⟨r1, r2, r3, r4, w1, w2, w3, w4, ⟨τ, w5, w6⟩, t1⟩ := hF1.un
    refine aw_astore dX9_missed_4 (Nat.le_of_ble_eq_true rfl) ?_
    refine aw_aload dX9_missed_6 rfl ?_
    refine aw_iload_n dX9_missed_8 rfl ?_
    refine cqi1 dX9_missed_9 km9_125 ok_X0_has rfl rfl (by decide) k_21 (Nat.le_of_ble_eq_true rfl) ⟨Nat.le_of_ble_eq_true rfl, Nat.le_of_ble_eq_true rfl⟩ rfl rfl (ct_Finding_has _) ?_
    refine aw_if_neB dX9_missed_12 rfl (fun h_12 => absurd h_12 (ix_no r4 h)) (fun h_12 => ?_)
    refine aw_ic (-1) dX9_missed_15 (by decide) ?_
    exact aw_ireti dX9_missed_16 (PoC.mk (by unfold aMissed; rw [e]) hI1 hFr)
  · skip
    obtain ⟨b0, b1, b2, b3, b4, b5, b6, b7, b8⟩ := pB hK hV ht
    have hk8 := k_tab (show t < 6 by omega)
    have hl51 := l_51
    have hl7 := ln_t7 hk8
    have hlt8 := ln_t8 hk8
    rcases ix_cases what (n := 3) (by decide) with ⟨h, e2⟩ | ⟨j, hj, rfl, e2⟩
    · skip
      refine aw_aload_n dX9_missed_0 rfl ?_
      refine cvr0 dX9_missed_1 km9_82 ok_X9_found rfl rfl (by decide) k_0 (Nat.le_of_ble_eq_true rfl) ⟨Nat.le_of_ble_eq_true rfl, Nat.le_of_ble_eq_true rfl⟩ rfl rfl (ct_found hK hI) ?_
      intro σ1 hp_1
      obtain ⟨hI1, hF1, hFr⟩ := hp_1
      obtain ⟨r1, r2, r3, r4, w1, w2, w3, w4, ⟨τ, w5, w6⟩, t1⟩ := hF1.un
      obtain ⟨L1, C1, -, -, q6, -, -⟩ := w1.2 t ht
      obtain ⟨s1, s2, s3, s4⟩ := t1 t ht
      have cap7 : pNr S.1 t * pNc S.1 t ≤ ln (51 + 1 + 20 * t + 7) := C1.1.2.2.2.2.2.2.2.2
      have hccl : pCc S.1 t ≤ pNr S.1 t * pNc S.1 t := C1.2.2.1
      refine aw_astore dX9_missed_4 (Nat.le_of_ble_eq_true rfl) ?_
      refine aw_aload dX9_missed_6 rfl ?_
      refine aw_iload_n dX9_missed_8 rfl ?_
      refine cqi1 dX9_missed_9 km9_125 ok_X0_has rfl rfl (by decide) k_21 (Nat.le_of_ble_eq_true rfl) ⟨Nat.le_of_ble_eq_true rfl, Nat.le_of_ble_eq_true rfl⟩ rfl rfl (ct_Finding_has _) ?_
      refine aw_if_neB dX9_missed_12 rfl (fun h_12 => ?_) (fun h_12 => absurd h_12 (not_not_intro (ix_yes r4 ht (by omega))))
      refine aw_iload_n dX9_missed_17 rfl ?_
      refine aw_if_lt dX9_missed_18 (fun h_18 => ?_) (fun h_18 => ?_)
      · skip
        refine aw_bi (-2) dX9_missed_26 (by decide) ?_
        exact aw_ireti dX9_missed_28 (PoC.mk (by unfold aMissed; rw [e]; dsimp only; rw [e2]) hI1 hFr)
      · skip
        refine aw_iload_n dX9_missed_21 rfl ?_
        refine aw_ic (nI 3) dX9_missed_22 (by decide) ?_
        refine aw_icmp_lt dX9_missed_23 (fun h_23 => absurd h_23 (fun z => h.elim h_18 (fun y => absurd z (Int32.not_lt.mpr y)))) (fun h_23 => ?_)
        refine aw_bi (-2) dX9_missed_26 (by decide) ?_
        exact aw_ireti dX9_missed_28 (PoC.mk (by unfold aMissed; rw [e]; dsimp only; rw [e2]) hI1 hFr)
    · skip
      rcases ix_cases k (n := (pMis S.1 t).length) (by omega) with ⟨h, e3⟩ | ⟨i, hi, rfl, e3⟩
      · skip
        refine aw_aload_n dX9_missed_0 rfl ?_
        refine cvr0 dX9_missed_1 km9_82 ok_X9_found rfl rfl (by decide) k_0 (Nat.le_of_ble_eq_true rfl) ⟨Nat.le_of_ble_eq_true rfl, Nat.le_of_ble_eq_true rfl⟩ rfl rfl (ct_found hK hI) ?_
        intro σ1 hp_1
        obtain ⟨hI1, hF1, hFr⟩ := hp_1
        obtain ⟨r1, r2, r3, r4, w1, w2, w3, w4, ⟨τ, w5, w6⟩, t1⟩ := hF1.un
        obtain ⟨L1, C1, -, -, q6, -, -⟩ := w1.2 t ht
        obtain ⟨s1, s2, s3, s4⟩ := t1 t ht
        have cap7 : pNr S.1 t * pNc S.1 t ≤ ln (51 + 1 + 20 * t + 7) := C1.1.2.2.2.2.2.2.2.2
        have hccl : pCc S.1 t ≤ pNr S.1 t * pNc S.1 t := C1.2.2.1
        refine aw_astore dX9_missed_4 (Nat.le_of_ble_eq_true rfl) ?_
        refine aw_aload dX9_missed_6 rfl ?_
        refine aw_iload_n dX9_missed_8 rfl ?_
        refine cqi1 dX9_missed_9 km9_125 ok_X0_has rfl rfl (by decide) k_21 (Nat.le_of_ble_eq_true rfl) ⟨Nat.le_of_ble_eq_true rfl, Nat.le_of_ble_eq_true rfl⟩ rfl rfl (ct_Finding_has _) ?_
        refine aw_if_neB dX9_missed_12 rfl (fun h_12 => ?_) (fun h_12 => absurd h_12 (not_not_intro (ix_yes r4 ht (by omega))))
        refine aw_iload_n dX9_missed_17 rfl ?_
        refine aw_if_lt dX9_missed_18 (fun h_18 => absurd h_18 (nI_pos (by omega))) (fun h_18 => ?_)
        refine aw_iload_n dX9_missed_21 rfl ?_
        refine aw_ic (nI 3) dX9_missed_22 (by decide) ?_
        refine aw_icmp_ltN dX9_missed_23 rfl (b := 3) rfl (by omega) (by omega) (fun h_23 => ?_) (fun h_23 => absurd h_23 (by omega))
        refine aw_aload dX9_missed_29 rfl ?_
        refine gf0_tables dX9_missed_31 kf9_126 k_21 ?_
        refine aw_eqr (b := 51) rfl ?_
        refine aw_iload_n dX9_missed_34 rfl ?_
        refine aw_ald15 (t) dX9_missed_35 k_51 (rfl) (by omega) ?_
        refine aw_astore dX9_missed_36 (Nat.le_of_ble_eq_true rfl) ?_
        refine aw_iload_n dX9_missed_38 rfl ?_
        refine aw_if_lt dX9_missed_39 (fun h_39 => ?_) (fun h_39 => ?_)
        · skip
          refine aw_bi (-6) dX9_missed_63 (by decide) ?_
          exact aw_ireti dX9_missed_65 (PoC.mk (by unfold aMissed; rw [e]; dsimp only; rw [e2]; dsimp only; rw [e3]) hI1 hFr)
        · skip
          refine aw_iload_n dX9_missed_42 rfl ?_
          refine aw_aload dX9_missed_43 rfl ?_
          refine gf8_missedCount dX9_missed_45 kf9_161 hk8 ?_
          refine aw_eq s4.1 ?_
          refine aw_icmp_ge dX9_missed_48 (fun h_48 => ?_) (fun h_48 => absurd h_48 (fun z => h.elim h_39 z))
          refine aw_bi (-6) dX9_missed_63 (by decide) ?_
          exact aw_ireti dX9_missed_65 (PoC.mk (by unfold aMissed; rw [e]; dsimp only; rw [e2]; dsimp only; rw [e3]) hI1 hFr)
      · skip
        have he := List.getElem?_eq_getElem hi
        have hl17 := (ln_t17 hk8 hj).1
        refine aw_aload_n dX9_missed_0 rfl ?_
        refine cvr0 dX9_missed_1 km9_82 ok_X9_found rfl rfl (by decide) k_0 (Nat.le_of_ble_eq_true rfl) ⟨Nat.le_of_ble_eq_true rfl, Nat.le_of_ble_eq_true rfl⟩ rfl rfl (ct_found hK hI) ?_
        intro σ1 hp_1
        obtain ⟨hI1, hF1, hFr⟩ := hp_1
        obtain ⟨r1, r2, r3, r4, w1, w2, w3, w4, ⟨τ, w5, w6⟩, t1⟩ := hF1.un
        obtain ⟨L1, C1, -, -, q6, -, -⟩ := w1.2 t ht
        obtain ⟨s1, s2, s3, s4⟩ := t1 t ht
        have cap7 : pNr S.1 t * pNc S.1 t ≤ ln (51 + 1 + 20 * t + 7) := C1.1.2.2.2.2.2.2.2.2
        have hccl : pCc S.1 t ≤ pNr S.1 t * pNc S.1 t := C1.2.2.1
        refine aw_astore dX9_missed_4 (Nat.le_of_ble_eq_true rfl) ?_
        refine aw_aload dX9_missed_6 rfl ?_
        refine aw_iload_n dX9_missed_8 rfl ?_
        refine cqi1 dX9_missed_9 km9_125 ok_X0_has rfl rfl (by decide) k_21 (Nat.le_of_ble_eq_true rfl) ⟨Nat.le_of_ble_eq_true rfl, Nat.le_of_ble_eq_true rfl⟩ rfl rfl (ct_Finding_has _) ?_
        refine aw_if_neB dX9_missed_12 rfl (fun h_12 => ?_) (fun h_12 => absurd h_12 (not_not_intro (ix_yes r4 ht (by omega))))
        refine aw_iload_n dX9_missed_17 rfl ?_
        refine aw_if_lt dX9_missed_18 (fun h_18 => absurd h_18 (nI_pos (by omega))) (fun h_18 => ?_)
        refine aw_iload_n dX9_missed_21 rfl ?_
        refine aw_ic (nI 3) dX9_missed_22 (by decide) ?_
        refine aw_icmp_ltN dX9_missed_23 rfl (b := 3) rfl (by omega) (by omega) (fun h_23 => ?_) (fun h_23 => absurd h_23 (by omega))
        refine aw_aload dX9_missed_29 rfl ?_
        refine gf0_tables dX9_missed_31 kf9_126 k_21 ?_
        refine aw_eqr (b := 51) rfl ?_
        refine aw_iload_n dX9_missed_34 rfl ?_
        refine aw_ald15 (t) dX9_missed_35 k_51 (rfl) (by omega) ?_
        refine aw_astore dX9_missed_36 (Nat.le_of_ble_eq_true rfl) ?_
        refine aw_iload_n dX9_missed_38 rfl ?_
        refine aw_if_lt dX9_missed_39 (fun h_39 => absurd h_39 (nI_pos (by omega))) (fun h_39 => ?_)
        refine aw_iload_n dX9_missed_42 rfl ?_
        refine aw_aload dX9_missed_43 rfl ?_
        refine gf8_missedCount dX9_missed_45 kf9_161 hk8 ?_
        refine aw_eq s4.1 ?_
        refine aw_icmp_geN dX9_missed_48 rfl rfl (by omega) (by omega) (fun h_48 => absurd h_48 (by omega)) (fun h_48 => ?_)
        refine aw_aload dX9_missed_51 rfl ?_
        refine gf8_missedLines dX9_missed_53 kf9_164 hk8 ?_
        refine aw_iload_n dX9_missed_56 rfl ?_
        refine aw_ald16 (j) dX9_missed_57 (kf_8_missedLines hk8) (rfl) (by omega) ?_
        refine aw_iload_n dX9_missed_58 rfl ?_
        refine aw_ld (i) dX9_missed_59 (ln_t17 hk8 hj).2 (rfl) (by omega) ?_
        refine aw_eq (mis_v s4 hj he) ?_
        refine aw_goto dX9_missed_60 ?_
        exact aw_ireti dX9_missed_65 (PoC.mk (by unfold aMissed; rw [e]; dsimp only; rw [e2]; dsimp only; rw [e3]; dsimp only; rw [he]) hI1 hFr)

set_option maxHeartbeats 4000000 in
set_option maxRecDepth 100000 in
theorem ct_heading {g : GG} {σ : SG} {S : Sp} (hK : FOKs) (hI : InvC σ S) (x col k : Int32) : Cti g yX9_heading cX9_heading 5 (some .int) (rmm 6 148) [.ref (ad g 0), .int x, .int col, .int k] σ (PoC σ (aHeading S.1 x col k, S)) := by
  refine ct_of (own := RX9) (lv := [some (.ref (ad g 0)), some (.int x), some (.int col), some (.int k), none]) rfl (by decide) (Nat.le_of_ble_eq_true rfl) (by intro u hu; simp only [List.mem_cons, List.not_mem_nil, or_false] at hu; rcases hu with rfl | rfl | rfl | rfl <;> rfl) (lv_ok [.ref (ad g 0), .int x, .int col, .int k] 1) ?_
  obtain ⟨hP, hV, ⟨m1, m2, m3⟩, h4, h5, h6⟩ := id hI
  have hl6 := l_6
  have hl3 := l_3
  have hl5 := l_5
  have hc : σ.1 162 2 = nI S.1.1 := hP.1.2.1
  have hm : σ.1 161 2 = nI 24 := m1.1
  have hcw : σ.1 162 4 = nI S.1.2.2.1 := hP.2.1.2.1
  have hmw : σ.1 161 4 = nI 20 := m1.2
  have hc24 := hV.1
  have hw20 := hV.2.2.1
  have hT6 := pT_le hK hV
  rcases ix_cases x (n := pT S.1) (by omega) with ⟨h, e⟩ | ⟨t, ht, rfl, e⟩
  · skip
    refine aw_aload_n dX9_heading_0 rfl ?_
    refine cvr0 dX9_heading_1 km9_82 ok_X9_found rfl rfl (by decide) k_0 (Nat.le_of_ble_eq_true rfl) ⟨Nat.le_of_ble_eq_true rfl, Nat.le_of_ble_eq_true rfl⟩ rfl rfl (ct_found hK hI) ?_
    intro σ1 hp_1
    obtain ⟨hI1, hF1, hFr⟩ := hp_1
    obtain ⟨r1, r2, r3, r4, w1, w2, w3, w4, ⟨τ, w5, w6⟩, t1⟩ := hF1.un
    refine aw_astore dX9_heading_4 (Nat.le_of_ble_eq_true rfl) ?_
    refine aw_aload dX9_heading_6 rfl ?_
    refine aw_iload_n dX9_heading_8 rfl ?_
    refine cqi1 dX9_heading_9 km9_125 ok_X0_has rfl rfl (by decide) k_21 (Nat.le_of_ble_eq_true rfl) ⟨Nat.le_of_ble_eq_true rfl, Nat.le_of_ble_eq_true rfl⟩ rfl rfl (ct_Finding_has _) ?_
    refine aw_if_eqB dX9_heading_12 rfl (fun h_12 => ?_) (fun h_12 => absurd h_12 (ix_no r4 h))
    refine aw_ic (-1) dX9_heading_33 (by decide) ?_
    exact aw_ireti dX9_heading_34 (PoC.mk (by unfold aHeading; rw [e]) hI1 hFr)
  · skip
    obtain ⟨b0, b1, b2, b3, b4, b5, b6, b7, b8⟩ := pB hK hV ht
    have hk8 := k_tab (show t < 6 by omega)
    have hl51 := l_51
    have hl7 := ln_t7 hk8
    have hlt8 := ln_t8 hk8
    rcases ix_cases col (n := pNc S.1 t) (by omega) with ⟨h, e2⟩ | ⟨c, hc9, rfl, e2⟩
    · skip
      refine aw_aload_n dX9_heading_0 rfl ?_
      refine cvr0 dX9_heading_1 km9_82 ok_X9_found rfl rfl (by decide) k_0 (Nat.le_of_ble_eq_true rfl) ⟨Nat.le_of_ble_eq_true rfl, Nat.le_of_ble_eq_true rfl⟩ rfl rfl (ct_found hK hI) ?_
      intro σ1 hp_1
      obtain ⟨hI1, hF1, hFr⟩ := hp_1
      obtain ⟨r1, r2, r3, r4, w1, w2, w3, w4, ⟨τ, w5, w6⟩, t1⟩ := hF1.un
      obtain ⟨L1, C1, -, -, q6, -, -⟩ := w1.2 t ht
      obtain ⟨s1, s2, s3, s4⟩ := t1 t ht
      have cap7 : pNr S.1 t * pNc S.1 t ≤ ln (51 + 1 + 20 * t + 7) := C1.1.2.2.2.2.2.2.2.2
      have hccl : pCc S.1 t ≤ pNr S.1 t * pNc S.1 t := C1.2.2.1
      refine aw_astore dX9_heading_4 (Nat.le_of_ble_eq_true rfl) ?_
      refine aw_aload dX9_heading_6 rfl ?_
      refine aw_iload_n dX9_heading_8 rfl ?_
      refine cqi1 dX9_heading_9 km9_125 ok_X0_has rfl rfl (by decide) k_21 (Nat.le_of_ble_eq_true rfl) ⟨Nat.le_of_ble_eq_true rfl, Nat.le_of_ble_eq_true rfl⟩ rfl rfl (ct_Finding_has _) ?_
      refine aw_if_eqB dX9_heading_12 rfl (fun h_12 => absurd h_12 (not_not_intro (ix_yes r4 ht (by omega)))) (fun h_12 => ?_)
      refine aw_iload_n dX9_heading_15 rfl ?_
      refine aw_if_lt dX9_heading_16 (fun h_16 => ?_) (fun h_16 => ?_)
      · skip
        refine aw_ic (-1) dX9_heading_33 (by decide) ?_
        exact aw_ireti dX9_heading_34 (PoC.mk (by unfold aHeading; rw [e]; dsimp only; rw [e2]) hI1 hFr)
      · skip
        refine aw_iload_n dX9_heading_19 rfl ?_
        refine aw_aload dX9_heading_20 rfl ?_
        refine gf0_tables dX9_heading_22 kf9_126 k_21 ?_
        refine aw_eqr (b := 51) rfl ?_
        refine aw_iload_n dX9_heading_25 rfl ?_
        refine aw_ald15 (t) dX9_heading_26 k_51 (rfl) (by omega) ?_
        refine gf8_columns dX9_heading_27 kf9_171 hk8 ?_
        refine aw_eq C1.1.2.2.1 ?_
        refine aw_icmp_lt dX9_heading_30 (fun h_30 => absurd h_30 (fun z => h.elim h_16 (fun y => absurd z (Int32.not_lt.mpr y)))) (fun h_30 => ?_)
        refine aw_ic (-1) dX9_heading_33 (by decide) ?_
        exact aw_ireti dX9_heading_34 (PoC.mk (by unfold aHeading; rw [e]; dsimp only; rw [e2]) hI1 hFr)
    · skip
      refine aw_aload_n dX9_heading_0 rfl ?_
      refine cvr0 dX9_heading_1 km9_82 ok_X9_found rfl rfl (by decide) k_0 (Nat.le_of_ble_eq_true rfl) ⟨Nat.le_of_ble_eq_true rfl, Nat.le_of_ble_eq_true rfl⟩ rfl rfl (ct_found hK hI) ?_
      intro σ1 hp_1
      obtain ⟨hI1, hF1, hFr⟩ := hp_1
      obtain ⟨r1, r2, r3, r4, w1, w2, w3, w4, ⟨τ, w5, w6⟩, t1⟩ := hF1.un
      obtain ⟨L1, C1, -, -, q6, -, -⟩ := w1.2 t ht
      obtain ⟨s1, s2, s3, s4⟩ := t1 t ht
      have cap7 : pNr S.1 t * pNc S.1 t ≤ ln (51 + 1 + 20 * t + 7) := C1.1.2.2.2.2.2.2.2.2
      have hccl : pCc S.1 t ≤ pNr S.1 t * pNc S.1 t := C1.2.2.1
      refine aw_astore dX9_heading_4 (Nat.le_of_ble_eq_true rfl) ?_
      refine aw_aload dX9_heading_6 rfl ?_
      refine aw_iload_n dX9_heading_8 rfl ?_
      refine cqi1 dX9_heading_9 km9_125 ok_X0_has rfl rfl (by decide) k_21 (Nat.le_of_ble_eq_true rfl) ⟨Nat.le_of_ble_eq_true rfl, Nat.le_of_ble_eq_true rfl⟩ rfl rfl (ct_Finding_has _) ?_
      refine aw_if_eqB dX9_heading_12 rfl (fun h_12 => absurd h_12 (not_not_intro (ix_yes r4 ht (by omega)))) (fun h_12 => ?_)
      refine aw_iload_n dX9_heading_15 rfl ?_
      refine aw_if_lt dX9_heading_16 (fun h_16 => absurd h_16 (nI_pos (by omega))) (fun h_16 => ?_)
      refine aw_iload_n dX9_heading_19 rfl ?_
      refine aw_aload dX9_heading_20 rfl ?_
      refine gf0_tables dX9_heading_22 kf9_126 k_21 ?_
      refine aw_eqr (b := 51) rfl ?_
      refine aw_iload_n dX9_heading_25 rfl ?_
      refine aw_ald15 (t) dX9_heading_26 k_51 (rfl) (by omega) ?_
      refine gf8_columns dX9_heading_27 kf9_171 hk8 ?_
      refine aw_eq C1.1.2.2.1 ?_
      refine aw_icmp_ltN dX9_heading_30 rfl rfl (by omega) (by omega) (fun h_30 => ?_) (fun h_30 => absurd h_30 (by omega))
      refine aw_aload dX9_heading_35 rfl ?_
      refine gf0_tables dX9_heading_37 kf9_126 k_21 ?_
      refine aw_eqr (b := 51) rfl ?_
      refine aw_iload_n dX9_heading_40 rfl ?_
      refine aw_ald15 (t) dX9_heading_41 k_51 (rfl) (by omega) ?_
      refine aw_iload_n dX9_heading_42 rfl ?_
      refine aw_iload_n dX9_heading_43 rfl ?_
      refine cqi2 dX9_heading_44 km9_174 ok_X8_headingOf rfl rfl (by decide) hk8 (Nat.le_of_ble_eq_true rfl) ⟨Nat.le_of_ble_eq_true rfl, Nat.le_of_ble_eq_true rfl⟩ rfl rfl (ct_headingOf C1 s3 b8 hc9 k) ?_
      exact aw_ireti dX9_heading_47 (PoC.mk (by unfold aHeading; rw [e]; dsimp only; rw [e2]) hI1 hFr)

set_option maxHeartbeats 4000000 in
set_option maxRecDepth 100000 in
theorem ct_image {g : GG} {σ : SG} {S : Sp} (hI : InvC σ S) (k : Int32) : Cti g yX9_image cX9_image 2 (some .int) (rmm 2 44) [.ref (ad g 0), .int k] σ (PoC σ (sImage S k)) := by
  refine ct_of (own := RX9) (lv := [some (.ref (ad g 0)), some (.int k)]) rfl (by decide) (Nat.le_of_ble_eq_true rfl) (by intro u hu; simp only [List.mem_cons, List.not_mem_nil, or_false] at hu; rcases hu with rfl | rfl <;> rfl) (lv_ok [.ref (ad g 0), .int k] 0) ?_
  obtain ⟨hP, hV, ⟨m1, m2, m3⟩, h4, h5, h6⟩ := id hI
  have hl6 := l_6
  have hl3 := l_3
  have hl5 := l_5
  have hc : σ.1 162 2 = nI S.1.1 := hP.1.2.1
  have hm : σ.1 161 2 = nI 24 := m1.1
  have hcw : σ.1 162 4 = nI S.1.2.2.1 := hP.2.1.2.1
  have hmw : σ.1 161 4 = nI 20 := m1.2
  have hc24 := hV.1
  have hw20 := hV.2.2.1
  have hl7 := l_7
  have hl20 := l_20
  rcases ix_cases k (n := 2) (by decide) with ⟨h, e⟩ | ⟨i, hi, rfl, e⟩
  · skip
    refine aw_iload_n dX9_image_0 rfl ?_
    refine aw_if_lt dX9_image_1 (fun h_1 => ?_) (fun h_1 => ?_)
    · skip
      refine aw_bi (-2) dX9_image_9 (by decide) ?_
      exact aw_ireti dX9_image_11 (PoC.mk (by unfold sImage; rw [e]) hI (FrC.refl σ))
    · skip
      refine aw_iload_n dX9_image_4 rfl ?_
      refine aw_ic (nI 2) dX9_image_5 (by decide) ?_
      refine aw_icmp_lt dX9_image_6 (fun h_6 => absurd h_6 (fun z => h.elim h_1 (fun y => absurd z (Int32.not_lt.mpr y)))) (fun h_6 => ?_)
      refine aw_bi (-2) dX9_image_9 (by decide) ?_
      exact aw_ireti dX9_image_11 (PoC.mk (by unfold sImage; rw [e]) hI (FrC.refl σ))
  · skip
    refine aw_iload_n dX9_image_0 rfl ?_
    refine aw_if_lt dX9_image_1 (fun h_1 => absurd h_1 (nI_pos (by omega))) (fun h_1 => ?_)
    refine aw_iload_n dX9_image_4 rfl ?_
    refine aw_ic (nI 2) dX9_image_5 (by decide) ?_
    refine aw_icmp_ltN dX9_image_6 rfl (b := 2) rfl (by omega) (by omega) (fun h_6 => ?_) (fun h_6 => absurd h_6 (by omega))
    refine aw_aload_n dX9_image_12 rfl ?_
    refine gf9_images dX9_image_13 kf9_16 k_0 ?_
    refine aw_eqr (b := 7) rfl ?_
    refine aw_iload_n dX9_image_16 rfl ?_
    refine aw_ald13 (i) dX9_image_17 k_7 (rfl) (by omega) ?_
    refine aw_aload_n dX9_image_18 rfl ?_
    refine gf9_page dX9_image_19 kf9_12 k_0 ?_
    refine aw_eqr (b := 1) rfl ?_
    refine cvv1 dX9_image_22 km9_177 ok_X3_take rfl rfl (by decide) (k_img hi) (Nat.le_of_ble_eq_true rfl) ⟨Nat.le_of_ble_eq_true rfl, Nat.le_of_ble_eq_true rfl⟩ rfl rfl (ct_Page_take (k_img hi) k_1 (by omega) hP hV (PgM.img m2 m3 hi) m1) ?_
    intro σ1 hp_22
    obtain ⟨J, B, π⟩ := σ1
    obtain ⟨hQ, hF⟩ := hp_22
    refine aw_aload_n dX9_image_25 rfl ?_
    refine gf9_kept dX9_image_26 kf9_20 k_0 ?_
    refine aw_eqr (b := 20) rfl ?_
    refine aw_iload_n dX9_image_29 rfl ?_
    refine aw_ic (nI 1) dX9_image_30 (by decide) ?_
    refine aw_zsto (i) dX9_image_31 k_20 (rfl) (by omega) (by decide) ?_
    refine aw_ic (nI 1) dX9_image_32 (by decide) ?_
    exact aw_ireti dX9_image_33 (PoC.mk (by unfold sImage; rw [e]; rfl) (InvC.img hI hi hQ hF).1 (InvC.img hI hi hQ hF).2)

set_option maxHeartbeats 4000000 in
set_option maxRecDepth 100000 in
theorem ct_restore {g : GG} {σ : SG} {S : Sp} (hI : InvC σ S) (k : Int32) : Cti g yX9_restore cX9_restore 2 (some .int) (rmm 2 44) [.ref (ad g 0), .int k] σ (PoC σ (sRestore S k)) := by
  refine ct_of (own := RX9) (lv := [some (.ref (ad g 0)), some (.int k)]) rfl (by decide) (Nat.le_of_ble_eq_true rfl) (by intro u hu; simp only [List.mem_cons, List.not_mem_nil, or_false] at hu; rcases hu with rfl | rfl <;> rfl) (lv_ok [.ref (ad g 0), .int k] 0) ?_
  obtain ⟨hP, hV, ⟨m1, m2, m3⟩, h4, h5, h6⟩ := id hI
  have hl6 := l_6
  have hl3 := l_3
  have hl5 := l_5
  have hc : σ.1 162 2 = nI S.1.1 := hP.1.2.1
  have hm : σ.1 161 2 = nI 24 := m1.1
  have hcw : σ.1 162 4 = nI S.1.2.2.1 := hP.2.1.2.1
  have hmw : σ.1 161 4 = nI 20 := m1.2
  have hc24 := hV.1
  have hw20 := hV.2.2.1
  have hl7 := l_7
  have hl20 := l_20
  rcases ix_cases k (n := 2) (by decide) with ⟨h, e⟩ | ⟨i, hi, rfl, e⟩
  · skip
    refine aw_iload_n dX9_restore_0 rfl ?_
    refine aw_if_lt dX9_restore_1 (fun h_1 => ?_) (fun h_1 => ?_)
    · skip
      refine aw_bi (-2) dX9_restore_9 (by decide) ?_
      exact aw_ireti dX9_restore_11 (PoC.mk (by unfold sRestore; rw [e]) hI (FrC.refl σ))
    · skip
      refine aw_iload_n dX9_restore_4 rfl ?_
      refine aw_ic (nI 2) dX9_restore_5 (by decide) ?_
      refine aw_icmp_lt dX9_restore_6 (fun h_6 => absurd h_6 (fun z => h.elim h_1 (fun y => absurd z (Int32.not_lt.mpr y)))) (fun h_6 => ?_)
      refine aw_bi (-2) dX9_restore_9 (by decide) ?_
      exact aw_ireti dX9_restore_11 (PoC.mk (by unfold sRestore; rw [e]) hI (FrC.refl σ))
  · skip
    have hk5 := h5 i hi
    cases hS : S.2 i with
    | none =>
      rw [hS] at hk5
      refine aw_iload_n dX9_restore_0 rfl ?_
      refine aw_if_lt dX9_restore_1 (fun h_1 => absurd h_1 (nI_pos (by omega))) (fun h_1 => ?_)
      refine aw_iload_n dX9_restore_4 rfl ?_
      refine aw_ic (nI 2) dX9_restore_5 (by decide) ?_
      refine aw_icmp_ltN dX9_restore_6 rfl (b := 2) rfl (by omega) (by omega) (fun h_6 => ?_) (fun h_6 => absurd h_6 (by omega))
      refine aw_aload_n dX9_restore_12 rfl ?_
      refine gf9_kept dX9_restore_13 kf9_20 k_0 ?_
      refine aw_eqr (b := 20) rfl ?_
      refine aw_iload_n dX9_restore_16 rfl ?_
      refine aw_zld (i) dX9_restore_17 k_20 (rfl) (by omega) ?_
      refine aw_eq hk5 ?_
      refine aw_if_ne dX9_restore_18 (fun h_18 => absurd h_18 (fun z => z rfl)) (fun h_18 => ?_)
      refine aw_bi (-3) dX9_restore_21 (by decide) ?_
      exact aw_ireti dX9_restore_23 (PoC.mk (by unfold sRestore; rw [e]; dsimp only; rw [hS]) hI (FrC.refl σ))
    | some Q =>
      rw [hS] at hk5
      refine aw_iload_n dX9_restore_0 rfl ?_
      refine aw_if_lt dX9_restore_1 (fun h_1 => absurd h_1 (nI_pos (by omega))) (fun h_1 => ?_)
      refine aw_iload_n dX9_restore_4 rfl ?_
      refine aw_ic (nI 2) dX9_restore_5 (by decide) ?_
      refine aw_icmp_ltN dX9_restore_6 rfl (b := 2) rfl (by omega) (by omega) (fun h_6 => ?_) (fun h_6 => absurd h_6 (by omega))
      refine aw_aload_n dX9_restore_12 rfl ?_
      refine gf9_kept dX9_restore_13 kf9_20 k_0 ?_
      refine aw_eqr (b := 20) rfl ?_
      refine aw_iload_n dX9_restore_16 rfl ?_
      refine aw_zld (i) dX9_restore_17 k_20 (rfl) (by omega) ?_
      refine aw_eq hk5.1 ?_
      refine aw_if_ne dX9_restore_18 (fun h_18 => ?_) (fun h_18 => absurd h_18 (by decide))
      refine aw_aload_n dX9_restore_24 rfl ?_
      refine gf9_page dX9_restore_25 kf9_12 k_0 ?_
      refine aw_eqr (b := 1) rfl ?_
      refine aw_aload_n dX9_restore_28 rfl ?_
      refine gf9_images dX9_restore_29 kf9_16 k_0 ?_
      refine aw_eqr (b := 7) rfl ?_
      refine aw_iload_n dX9_restore_32 rfl ?_
      refine aw_ald13 (i) dX9_restore_33 k_7 (rfl) (by omega) ?_
      refine cvv1 dX9_restore_34 km9_177 ok_X3_take rfl rfl (by decide) k_1 (Nat.le_of_ble_eq_true rfl) ⟨Nat.le_of_ble_eq_true rfl, Nat.le_of_ble_eq_true rfl⟩ rfl rfl (ct_Page_take k_1 (k_img hi) (by omega) hk5.2.1 hk5.2.2 m1 (PgM.img m2 m3 hi)) ?_
      intro σ1 hp_34
      obtain ⟨J, B, π⟩ := σ1
      obtain ⟨hQ, hF⟩ := hp_34
      refine aw_aload_n dX9_restore_37 rfl ?_
      refine aw_ic (nI 1) dX9_restore_38 (by decide) ?_
      refine pf9_stale dX9_restore_39 kf9_31 k_0 (by decide) ?_
      refine aw_ic (nI 1) dX9_restore_42 (by decide) ?_
      exact aw_ireti dX9_restore_43 (by
          have hst : uI J 292 0 (nI 1) 292 0 = 1 := uI_s _ _ _ _
          have hh := InvC.pg (σ' := (uI J 292 0 (nI 1), B, π)) hI (P := Q) (hQ.keep (show uI J 292 0 (nI 1) 162 2 = J 162 2 from uI_f (by decide)) (show uI J 292 0 (nI 1) 162 4 = J 162 4 from uI_f (by decide)) rfl rfl rfl) hk5.2.2 hF.1 hst (fun f q h1 h2 => (show uI J 292 0 (nI 1) f q = σ.1 f q by unfold uI; rw [if_neg (by omega)]; exact hF.2.1 f q (by omega))) (fun q h => hF.2.2 q (by omega))
          exact PoC.mk (by unfold sRestore; rw [e]; dsimp only; rw [hS]; rfl) hh.1 hh.2)

set_option maxHeartbeats 4000000 in
set_option maxRecDepth 100000 in
theorem ct_told {g : GG} {σ : SG} {S : Sp} (hK : FOKs) (hI : InvC σ S) (what : Int32) : Cti g yX9_told cX9_told 2 (some .int) (rmm 6 148) [.ref (ad g 0), .int what] σ (PoC σ (aTold S.1 what, S)) := by
  refine ct_of (own := RX9) (lv := [some (.ref (ad g 0)), some (.int what)]) rfl (by decide) (Nat.le_of_ble_eq_true rfl) (by intro u hu; simp only [List.mem_cons, List.not_mem_nil, or_false] at hu; rcases hu with rfl | rfl <;> rfl) (lv_ok [.ref (ad g 0), .int what] 0) ?_
  obtain ⟨hP, hV, ⟨m1, m2, m3⟩, h4, h5, h6⟩ := id hI
  have hl6 := l_6
  have hl3 := l_3
  have hl5 := l_5
  have hc : σ.1 162 2 = nI S.1.1 := hP.1.2.1
  have hm : σ.1 161 2 = nI 24 := m1.1
  have hcw : σ.1 162 4 = nI S.1.2.2.1 := hP.2.1.2.1
  have hmw : σ.1 161 4 = nI 20 := m1.2
  have hc24 := hV.1
  have hw20 := hV.2.2.1
  rcases sw8 what with h | ⟨w, hw8, rfl⟩
  · refine aw_iload_n dX9_told_0 rfl ?_
    refine aw_tout dX9_told_1 h (tgt := 130) (by decide) ?_
    refine aw_bi (-2) dX9_told_130 (by decide) ?_
    exact aw_ireti dX9_told_132 (PoC.mk (by unfold aTold; rw [ix_out h]) hI (FrC.refl σ))
  · have e := ix_some hw8 (by decide)
    rcases (show w = 0 ∨ w = 1 ∨ w = 2 ∨ w = 3 ∨ w = 4 ∨ w = 5 ∨ w = 6 ∨ w = 7 by omega) with rfl | rfl | rfl | rfl | rfl | rfl | rfl | rfl
    · refine aw_iload_n dX9_told_0 rfl ?_
      refine aw_tin dX9_told_1 (tgt := 48) (off := 47) (by decide) (by decide) (by decide +kernel) (by decide) ?_
      refine aw_aload_n dX9_told_48 rfl ?_
      refine gf9_page dX9_told_49 kf9_12 k_0 ?_
      refine aw_eqr (b := 1) rfl ?_
      refine gf3_pieces dX9_told_52 kf9_53 k_1 ?_
      refine aw_eqr (b := 2) rfl ?_
      refine gf5_count dX9_told_55 kf9_67 k_2 ?_
      refine aw_eq hc ?_
      exact aw_ireti dX9_told_58 (PoC.mk (by unfold aTold; rw [e]; rfl) hI (FrC.refl σ))
    · refine aw_iload_n dX9_told_0 rfl ?_
      refine aw_tin dX9_told_1 (tgt := 59) (off := 58) (by decide) (by decide) (by decide +kernel) (by decide) ?_
      refine aw_aload_n dX9_told_59 rfl ?_
      refine gf9_page dX9_told_60 kf9_12 k_0 ?_
      refine aw_eqr (b := 1) rfl ?_
      refine gf3_words dX9_told_63 kf9_95 k_1 ?_
      refine aw_eqr (b := 4) rfl ?_
      refine gf5_count dX9_told_66 kf9_67 k_4 ?_
      refine aw_eq hcw ?_
      exact aw_ireti dX9_told_69 (PoC.mk (by unfold aTold; rw [e]; rfl) hI (FrC.refl σ))
    · refine aw_iload_n dX9_told_0 rfl ?_
      refine aw_tin dX9_told_1 (tgt := 70) (off := 69) (by decide) (by decide) (by decide +kernel) (by decide) ?_
      refine aw_aload_n dX9_told_70 rfl ?_
      refine cvr0 dX9_told_71 km9_82 ok_X9_found rfl rfl (by decide) k_0 (Nat.le_of_ble_eq_true rfl) ⟨Nat.le_of_ble_eq_true rfl, Nat.le_of_ble_eq_true rfl⟩ rfl rfl (ct_found hK hI) ?_
      intro σ1 hp_71
      obtain ⟨hI1, hF1, hFr⟩ := hp_71
      obtain ⟨r1, r2, r3, r4, w1, w2, w3, w4, ⟨τ, w5, w6⟩, t1⟩ := hF1.un
      refine gf0_rules dX9_told_74 kf9_86 k_21 ?_
      refine aw_eqr (b := 24) rfl ?_
      refine gf7_count dX9_told_77 kf9_181 k_24 ?_
      refine aw_eq r1.1 ?_
      exact aw_ireti dX9_told_80 (PoC.mk (by unfold aTold; rw [e]; rfl) hI1 hFr)
    · refine aw_iload_n dX9_told_0 rfl ?_
      refine aw_tin dX9_told_1 (tgt := 81) (off := 80) (by decide) (by decide) (by decide +kernel) (by decide) ?_
      refine aw_aload_n dX9_told_81 rfl ?_
      refine cvr0 dX9_told_82 km9_82 ok_X9_found rfl rfl (by decide) k_0 (Nat.le_of_ble_eq_true rfl) ⟨Nat.le_of_ble_eq_true rfl, Nat.le_of_ble_eq_true rfl⟩ rfl rfl (ct_found hK hI) ?_
      intro σ1 hp_82
      obtain ⟨hI1, hF1, hFr⟩ := hp_82
      obtain ⟨r1, r2, r3, r4, w1, w2, w3, w4, ⟨τ, w5, w6⟩, t1⟩ := hF1.un
      refine gf0_tableCount dX9_told_85 kf9_182 k_21 ?_
      refine aw_eq r4 ?_
      exact aw_ireti dX9_told_88 (PoC.mk (by unfold aTold; rw [e]; rfl) hI1 hFr)
    · refine aw_iload_n dX9_told_0 rfl ?_
      refine aw_tin dX9_told_1 (tgt := 89) (off := 88) (by decide) (by decide) (by decide +kernel) (by decide) ?_
      refine aw_aload_n dX9_told_89 rfl ?_
      refine cvr0 dX9_told_90 km9_82 ok_X9_found rfl rfl (by decide) k_0 (Nat.le_of_ble_eq_true rfl) ⟨Nat.le_of_ble_eq_true rfl, Nat.le_of_ble_eq_true rfl⟩ rfl rfl (ct_found hK hI) ?_
      intro σ1 hp_90
      obtain ⟨hI1, hF1, hFr⟩ := hp_90
      obtain ⟨r1, r2, r3, r4, w1, w2, w3, w4, ⟨τ, w5, w6⟩, t1⟩ := hF1.un
      refine gf0_placing dX9_told_93 kf9_98 k_21 ?_
      refine aw_eqr (b := 172) rfl ?_
      refine gf4_loose dX9_told_96 kf9_185 k_172 ?_
      refine aw_eq w2 ?_
      exact aw_ireti dX9_told_99 (PoC.mk (by unfold aTold; rw [e]; rfl) hI1 hFr)
    · refine aw_iload_n dX9_told_0 rfl ?_
      refine aw_tin dX9_told_1 (tgt := 100) (off := 99) (by decide) (by decide) (by decide +kernel) (by decide) ?_
      refine aw_aload_n dX9_told_100 rfl ?_
      refine gf9_page dX9_told_101 kf9_12 k_0 ?_
      refine aw_eqr (b := 1) rfl ?_
      refine gf3_settings dX9_told_104 kf9_39 k_1 ?_
      refine aw_eqr (b := 6) rfl ?_
      refine aw_ic (nI 0) dX9_told_107 (by decide) ?_
      refine aw_ld (0) dX9_told_108 k_6 (rfl) (by omega) ?_
      refine aw_eq hP.2.2.1 ?_
      exact aw_ireti dX9_told_109 (PoC.mk (by unfold aTold; rw [e]; rfl) hI (FrC.refl σ))
    · refine aw_iload_n dX9_told_0 rfl ?_
      refine aw_tin dX9_told_1 (tgt := 110) (off := 109) (by decide) (by decide) (by decide +kernel) (by decide) ?_
      refine aw_aload_n dX9_told_110 rfl ?_
      refine gf9_page dX9_told_111 kf9_12 k_0 ?_
      refine aw_eqr (b := 1) rfl ?_
      refine gf3_settings dX9_told_114 kf9_39 k_1 ?_
      refine aw_eqr (b := 6) rfl ?_
      refine aw_ic (nI 1) dX9_told_117 (by decide) ?_
      refine aw_ld (1) dX9_told_118 k_6 (rfl) (by omega) ?_
      refine aw_eq hP.2.2.2.1 ?_
      exact aw_ireti dX9_told_119 (PoC.mk (by unfold aTold; rw [e]; rfl) hI (FrC.refl σ))
    · refine aw_iload_n dX9_told_0 rfl ?_
      refine aw_tin dX9_told_1 (tgt := 120) (off := 119) (by decide) (by decide) (by decide +kernel) (by decide) ?_
      refine aw_aload_n dX9_told_120 rfl ?_
      refine gf9_page dX9_told_121 kf9_12 k_0 ?_
      refine aw_eqr (b := 1) rfl ?_
      refine gf3_settings dX9_told_124 kf9_39 k_1 ?_
      refine aw_eqr (b := 6) rfl ?_
      refine aw_ic (nI 2) dX9_told_127 (by decide) ?_
      refine aw_ld (2) dX9_told_128 k_6 (rfl) (by omega) ?_
      refine aw_eq hP.2.2.2.2 ?_
      exact aw_ireti dX9_told_129 (PoC.mk (by unfold aTold; rw [e]; rfl) hI (FrC.refl σ))

