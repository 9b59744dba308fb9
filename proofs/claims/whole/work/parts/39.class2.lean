theorem dArg_no {way at_ fr to : Int32} {w a : Nat} (e : ix way 2 = some w) (e2 : ix at_ 100 = some a) (h : ∀ a b, ix fr 100 = some a → ix to 100 = some b → ¬ a < b) : dArg way at_ fr to = none := by
  unfold dArg
  rw [e, e2]
  cases hf : ix fr 100 with
  | none => rfl
  | some f => cases ht : ix to 100 with
    | none => rfl
    | some t => exact if_neg (h f t hf ht)
theorem wArg_no1 {l t r b : Int32} (h : ∀ x y, ix l 100 = some x → ix r 100 = some y → ¬ x < y) : wArg l t r b = none := by
  unfold wArg
  cases hl : ix l 100 with
  | none => rfl
  | some l' => cases ht : ix t 100 with
    | none => rfl
    | some t' => cases hr : ix r 100 with
      | none => rfl
      | some r' => cases hb : ix b 100 with
        | none => rfl
        | some b' => exact if_neg (fun z => h l' r' hl hr z.1)
theorem wArg_no2 {l t r b : Int32} (h : ∀ x y, ix t 100 = some x → ix b 100 = some y → ¬ x < y) : wArg l t r b = none := by
  unfold wArg
  cases hl : ix l 100 with
  | none => rfl
  | some l' => cases ht : ix t 100 with
    | none => rfl
    | some t' => cases hr : ix r 100 with
      | none => rfl
      | some r' => cases hb : ix b 100 with
        | none => rfl
        | some b' => exact if_neg (fun z => h t' b' ht hb z.2)
theorem PgR.st {σ : SG} {J B : Nat → Nat → Int32} {π : Nat → Nat} {P P' : Pg} (h : PgR σ 1 P) (h1 : RowN (J, B, π) 2 P'.1 P'.2.1) (h2 : RowN (J, B, π) 4 P'.2.2.1 P'.2.2.2.1) (h6 : B 6 = σ.2.1 6) (e : P'.2.2.2.2 = P.2.2.2.2) : PgR (J, B, π) 1 P' := by
  refine ⟨h1, h2, ?_, ?_, ?_⟩
  · show B 6 0 = nI P'.2.2.2.2.1
    rw [h6, e]
    exact h.2.2.1
  · show B 6 1 = nI P'.2.2.2.2.2.1
    rw [h6, e]
    exact h.2.2.2.1
  · show B 6 2 = nI P'.2.2.2.2.2.2
    rw [h6, e]
    exact h.2.2.2.2
set_option maxHeartbeats 4000000 in
set_option maxRecDepth 100000 in
theorem ct_draw {g : GG} {σ : SG} {S : Sp} (hI : InvC σ S) (way at_ fr to : Int32) : Cti g yX9_draw cX9_draw 5 (some .int) (rmm 2 45) [.ref (ad g 0), .int way, .int at_, .int fr, .int to] σ (PoC σ (sDraw S way at_ fr to)) := by
  refine ct_of (own := RX9) (lv := [some (.ref (ad g 0)), some (.int way), some (.int at_), some (.int fr), some (.int to)]) rfl (by decide) (Nat.le_of_ble_eq_true rfl) (by intro u hu; simp only [List.mem_cons, List.not_mem_nil, or_false] at hu; rcases hu with rfl | rfl | rfl | rfl | rfl <;> rfl) (lv_ok [.ref (ad g 0), .int way, .int at_, .int fr, .int to] 0) ?_
  obtain ⟨hP, hV, ⟨m1, m2, m3⟩, h4, h5, h6⟩ := id hI
  have hl6 := l_6
  have hl3 := l_3
  have hl5 := l_5
  have hc : σ.1 162 2 = nI S.1.1 := hP.1.2.1
  have hm : σ.1 161 2 = nI 24 := m1.1
  have hcw : σ.1 162 4 = nI S.1.2.2.1 := hP.2.1.2.1
  have hmw : σ.1 161 4 = nI 20 := m1.2
  have hc24 := hV.1
  have hw20 := hV.2.2.1
  rcases way_cases way with ⟨h, e⟩ | ⟨w, hw2, rfl, hw, e⟩
  · skip
    refine aw_iload_n dX9_draw_0 rfl ?_
    refine csq1 dX9_draw_1 km9_42 ok_X9_isWay (Nat.le_of_ble_eq_true rfl) ⟨Nat.le_of_ble_eq_true rfl, Nat.le_of_ble_eq_true rfl⟩ rfl rfl (ct_isWay _) ?_
    refine aw_if_eqB dX9_draw_4 rfl (fun h_4 => ?_) (fun h_4 => absurd h_4 (h))
    refine aw_bi (-2) dX9_draw_23 (by decide) ?_
    exact aw_ireti dX9_draw_25 (PoC.mk (by unfold sDraw dArg; rw [e]) hI (FrC.refl σ))
  · skip
    rcases ix_cases at_ (n := 100) (by decide) with ⟨h, e2⟩ | ⟨a, ha, rfl, e2⟩
    · skip
      refine aw_iload_n dX9_draw_0 rfl ?_
      refine csq1 dX9_draw_1 km9_42 ok_X9_isWay (Nat.le_of_ble_eq_true rfl) ⟨Nat.le_of_ble_eq_true rfl, Nat.le_of_ble_eq_true rfl⟩ rfl rfl (ct_isWay _) ?_
      refine aw_if_eqB dX9_draw_4 rfl (fun h_4 => absurd h_4 (not_not_intro hw)) (fun h_4 => ?_)
      refine aw_iload_n dX9_draw_7 rfl ?_
      refine csq1 dX9_draw_8 km9_46 ok_X9_isPlace (Nat.le_of_ble_eq_true rfl) ⟨Nat.le_of_ble_eq_true rfl, Nat.le_of_ble_eq_true rfl⟩ rfl rfl (ct_isPlace _) ?_
      refine aw_if_eqB dX9_draw_11 rfl (fun h_11 => ?_) (fun h_11 => absurd h_11 (ix_no rfl h))
      refine aw_bi (-2) dX9_draw_23 (by decide) ?_
      exact aw_ireti dX9_draw_25 (PoC.mk (by unfold sDraw dArg; rw [e, e2]) hI (FrC.refl σ))
    · skip
      rcases str_cases fr to with ⟨h, e3⟩ | ⟨f, t, rfl, rfl, hft, ht, e3, e4, hs⟩
      · skip
        refine aw_iload_n dX9_draw_0 rfl ?_
        refine csq1 dX9_draw_1 km9_42 ok_X9_isWay (Nat.le_of_ble_eq_true rfl) ⟨Nat.le_of_ble_eq_true rfl, Nat.le_of_ble_eq_true rfl⟩ rfl rfl (ct_isWay _) ?_
        refine aw_if_eqB dX9_draw_4 rfl (fun h_4 => absurd h_4 (not_not_intro hw)) (fun h_4 => ?_)
        refine aw_iload_n dX9_draw_7 rfl ?_
        refine csq1 dX9_draw_8 km9_46 ok_X9_isPlace (Nat.le_of_ble_eq_true rfl) ⟨Nat.le_of_ble_eq_true rfl, Nat.le_of_ble_eq_true rfl⟩ rfl rfl (ct_isPlace _) ?_
        refine aw_if_eqB dX9_draw_11 rfl (fun h_11 => absurd h_11 (not_not_intro (ix_yes rfl ha (by decide)))) (fun h_11 => ?_)
        refine aw_iload_n dX9_draw_14 rfl ?_
        refine aw_iload dX9_draw_15 rfl ?_
        refine csq2 dX9_draw_17 km9_49 ok_X9_isStretch (Nat.le_of_ble_eq_true rfl) ⟨Nat.le_of_ble_eq_true rfl, Nat.le_of_ble_eq_true rfl⟩ rfl rfl (ct_isStretch _ _) ?_
        refine aw_if_neB dX9_draw_20 rfl (fun h_20 => absurd h_20 (h)) (fun h_20 => ?_)
        refine aw_bi (-2) dX9_draw_23 (by decide) ?_
        exact aw_ireti dX9_draw_25 (PoC.mk (by unfold sDraw; rw [dArg_no e e2 e3]) hI (FrC.refl σ))
      · skip
        by_cases h24 : S.1.1 = 24
        · skip
          refine aw_iload_n dX9_draw_0 rfl ?_
          refine csq1 dX9_draw_1 km9_42 ok_X9_isWay (Nat.le_of_ble_eq_true rfl) ⟨Nat.le_of_ble_eq_true rfl, Nat.le_of_ble_eq_true rfl⟩ rfl rfl (ct_isWay _) ?_
          refine aw_if_eqB dX9_draw_4 rfl (fun h_4 => absurd h_4 (not_not_intro hw)) (fun h_4 => ?_)
          refine aw_iload_n dX9_draw_7 rfl ?_
          refine csq1 dX9_draw_8 km9_46 ok_X9_isPlace (Nat.le_of_ble_eq_true rfl) ⟨Nat.le_of_ble_eq_true rfl, Nat.le_of_ble_eq_true rfl⟩ rfl rfl (ct_isPlace _) ?_
          refine aw_if_eqB dX9_draw_11 rfl (fun h_11 => absurd h_11 (not_not_intro (ix_yes rfl ha (by decide)))) (fun h_11 => ?_)
          refine aw_iload_n dX9_draw_14 rfl ?_
          refine aw_iload dX9_draw_15 rfl ?_
          refine csq2 dX9_draw_17 km9_49 ok_X9_isStretch (Nat.le_of_ble_eq_true rfl) ⟨Nat.le_of_ble_eq_true rfl, Nat.le_of_ble_eq_true rfl⟩ rfl rfl (ct_isStretch _ _) ?_
          refine aw_if_neB dX9_draw_20 rfl (fun h_20 => ?_) (fun h_20 => absurd h_20 (fun z => z hs))
          refine aw_aload_n dX9_draw_26 rfl ?_
          refine gf9_page dX9_draw_27 kf9_12 k_0 ?_
          refine aw_eqr (b := 1) rfl ?_
          refine gf3_pieces dX9_draw_30 kf9_53 k_1 ?_
          refine aw_eqr (b := 2) rfl ?_
          refine cqi0 dX9_draw_33 km9_57 ok_X5_isFull rfl rfl (by decide) k_2 (Nat.le_of_ble_eq_true rfl) ⟨Nat.le_of_ble_eq_true rfl, Nat.le_of_ble_eq_true rfl⟩ rfl rfl (ct_Rows_isFull k_2) ?_
          refine aw_if_eqB dX9_draw_36 rfl (fun h_36 => absurd h_36 (not_not_intro (by rw [hc, hm]; exact nI_nlt (by omega) (by omega)))) (fun h_36 => ?_)
          refine aw_bi (-4) dX9_draw_39 (by decide) ?_
          exact aw_ireti dX9_draw_41 (PoC.mk (by unfold sDraw dArg; rw [e, e2, e3, e4]; dsimp only; rw [if_pos hft]; dsimp only; rw [if_pos h24]) hI (FrC.refl σ))
        · skip
          have hlt : σ.1 162 2 < σ.1 161 2 := by rw [hc, hm]; exact nI_lt (by omega) (by omega)
          refine aw_iload_n dX9_draw_0 rfl ?_
          refine csq1 dX9_draw_1 km9_42 ok_X9_isWay (Nat.le_of_ble_eq_true rfl) ⟨Nat.le_of_ble_eq_true rfl, Nat.le_of_ble_eq_true rfl⟩ rfl rfl (ct_isWay _) ?_
          refine aw_if_eqB dX9_draw_4 rfl (fun h_4 => absurd h_4 (not_not_intro hw)) (fun h_4 => ?_)
          refine aw_iload_n dX9_draw_7 rfl ?_
          refine csq1 dX9_draw_8 km9_46 ok_X9_isPlace (Nat.le_of_ble_eq_true rfl) ⟨Nat.le_of_ble_eq_true rfl, Nat.le_of_ble_eq_true rfl⟩ rfl rfl (ct_isPlace _) ?_
          refine aw_if_eqB dX9_draw_11 rfl (fun h_11 => absurd h_11 (not_not_intro (ix_yes rfl ha (by decide)))) (fun h_11 => ?_)
          refine aw_iload_n dX9_draw_14 rfl ?_
          refine aw_iload dX9_draw_15 rfl ?_
          refine csq2 dX9_draw_17 km9_49 ok_X9_isStretch (Nat.le_of_ble_eq_true rfl) ⟨Nat.le_of_ble_eq_true rfl, Nat.le_of_ble_eq_true rfl⟩ rfl rfl (ct_isStretch _ _) ?_
          refine aw_if_neB dX9_draw_20 rfl (fun h_20 => ?_) (fun h_20 => absurd h_20 (fun z => z hs))
          refine aw_aload_n dX9_draw_26 rfl ?_
          refine gf9_page dX9_draw_27 kf9_12 k_0 ?_
          refine aw_eqr (b := 1) rfl ?_
          refine gf3_pieces dX9_draw_30 kf9_53 k_1 ?_
          refine aw_eqr (b := 2) rfl ?_
          refine cqi0 dX9_draw_33 km9_57 ok_X5_isFull rfl rfl (by decide) k_2 (Nat.le_of_ble_eq_true rfl) ⟨Nat.le_of_ble_eq_true rfl, Nat.le_of_ble_eq_true rfl⟩ rfl rfl (ct_Rows_isFull k_2) ?_
          refine aw_if_eqB dX9_draw_36 rfl (fun h_36 => ?_) (fun h_36 => absurd h_36 (not_not_intro hlt))
          refine aw_aload_n dX9_draw_42 rfl ?_
          refine gf9_page dX9_draw_43 kf9_12 k_0 ?_
          refine aw_eqr (b := 1) rfl ?_
          refine gf3_pieces dX9_draw_46 kf9_53 k_1 ?_
          refine aw_eqr (b := 2) rfl ?_
          refine aw_iload_n dX9_draw_49 rfl ?_
          refine aw_iload_n dX9_draw_50 rfl ?_
          refine aw_iload_n dX9_draw_51 rfl ?_
          refine aw_iload dX9_draw_52 rfl ?_
          refine cvv4 dX9_draw_54 km9_63 ok_X5_add rfl rfl (by decide) k_2 (Nat.le_of_ble_eq_true rfl) ⟨Nat.le_of_ble_eq_true rfl, Nat.le_of_ble_eq_true rfl⟩ rfl rfl (ct_Rows_add k_2 hc (by show _ ≤ ln 3; omega) hlt _ _ _ _) ?_
          intro σ1 hp_54
          subst hp_54
          refine aw_aload_n dX9_draw_57 rfl ?_
          refine aw_ic (nI 1) dX9_draw_58 (by decide) ?_
          refine pf9_stale dX9_draw_59 kf9_31 k_0 (by decide) ?_
          refine aw_aload_n dX9_draw_62 rfl ?_
          refine gf9_page dX9_draw_63 kf9_12 k_0 ?_
          refine aw_eqr (b := 1) rfl ?_
          refine gf3_pieces dX9_draw_66 kf9_53 k_1 ?_
          refine aw_eqr (b := 2) rfl ?_
          refine gf5_count dX9_draw_69 kf9_67 k_2 ?_
          refine aw_eq ((uI_f (by decide)).trans (uI_s _ _ _ _)) ?_
          exact aw_ireti dX9_draw_72 (by
              refine InvC.pgJ hI (P := addP S.1 (four w a f t)) (hP.st (hP.1.add (by show _ ≤ ln 3; omega) (four_le (by omega) (by omega) (by omega) (by omega)) ((uI_f (by decide)).trans (uI_s _ _ _ _)) (uA_s _ _ _)) (hP.2.1.kp ((uI_f (by decide)).trans (uI_o (by decide))) (uA_n (by decide))) (uA_n (by decide)) rfl) (hV.add (by omega) (four_le (by omega) (by omega) (by omega) (by omega)) (by show w ≤ 1; omega) hft) (uI_s _ _ _ _) (fun f q h1 h2 => by unfold uI; rw [if_neg (by omega), if_neg (by omega)]) (fun q h => uA_n (by omega)) (by unfold sDraw dArg; rw [e, e2, e3, e4]; dsimp only; rw [if_pos hft]; dsimp only; rw [if_neg h24]))

set_option maxHeartbeats 4000000 in
set_option maxRecDepth 100000 in
theorem ct_write {g : GG} {σ : SG} {S : Sp} (hI : InvC σ S) (l t r b : Int32) : Cti g yX9_write cX9_write 5 (some .int) (rmm 2 45) [.ref (ad g 0), .int l, .int t, .int r, .int b] σ (PoC σ (sWrite S l t r b)) := by
  refine ct_of (own := RX9) (lv := [some (.ref (ad g 0)), some (.int l), some (.int t), some (.int r), some (.int b)]) rfl (by decide) (Nat.le_of_ble_eq_true rfl) (by intro u hu; simp only [List.mem_cons, List.not_mem_nil, or_false] at hu; rcases hu with rfl | rfl | rfl | rfl | rfl <;> rfl) (lv_ok [.ref (ad g 0), .int l, .int t, .int r, .int b] 0) ?_
  obtain ⟨hP, hV, ⟨m1, m2, m3⟩, h4, h5, h6⟩ := id hI
  have hl6 := l_6
  have hl3 := l_3
  have hl5 := l_5
  have hc : σ.1 162 2 = nI S.1.1 := hP.1.2.1
  have hm : σ.1 161 2 = nI 24 := m1.1
  have hcw : σ.1 162 4 = nI S.1.2.2.1 := hP.2.1.2.1
  have hmw : σ.1 161 4 = nI 20 := m1.2
  have hc24 := hV.1
  have hw20 := hV.2.2.1
  rcases str_cases l r with ⟨h, e1⟩ | ⟨a, b2, rfl, rfl, hab, hb, e1, e3, hs⟩
  · skip
    refine aw_iload_n dX9_write_0 rfl ?_
    refine aw_iload_n dX9_write_1 rfl ?_
    refine csq2 dX9_write_2 km9_49 ok_X9_isStretch (Nat.le_of_ble_eq_true rfl) ⟨Nat.le_of_ble_eq_true rfl, Nat.le_of_ble_eq_true rfl⟩ rfl rfl (ct_isStretch _ _) ?_
    refine aw_if_eqB dX9_write_5 rfl (fun h_5 => ?_) (fun h_5 => absurd h_5 (h))
    refine aw_bi (-2) dX9_write_17 (by decide) ?_
    exact aw_ireti dX9_write_19 (PoC.mk (by unfold sWrite; rw [wArg_no1 e1]) hI (FrC.refl σ))
  · skip
    rcases str_cases t b with ⟨h, e2⟩ | ⟨c, d, rfl, rfl, hcd, hd, e2, e4, hs2⟩
    · skip
      refine aw_iload_n dX9_write_0 rfl ?_
      refine aw_iload_n dX9_write_1 rfl ?_
      refine csq2 dX9_write_2 km9_49 ok_X9_isStretch (Nat.le_of_ble_eq_true rfl) ⟨Nat.le_of_ble_eq_true rfl, Nat.le_of_ble_eq_true rfl⟩ rfl rfl (ct_isStretch _ _) ?_
      refine aw_if_eqB dX9_write_5 rfl (fun h_5 => absurd h_5 (not_not_intro hs)) (fun h_5 => ?_)
      refine aw_iload_n dX9_write_8 rfl ?_
      refine aw_iload dX9_write_9 rfl ?_
      refine csq2 dX9_write_11 km9_49 ok_X9_isStretch (Nat.le_of_ble_eq_true rfl) ⟨Nat.le_of_ble_eq_true rfl, Nat.le_of_ble_eq_true rfl⟩ rfl rfl (ct_isStretch _ _) ?_
      refine aw_if_neB dX9_write_14 rfl (fun h_14 => absurd h_14 (h)) (fun h_14 => ?_)
      refine aw_bi (-2) dX9_write_17 (by decide) ?_
      exact aw_ireti dX9_write_19 (PoC.mk (by unfold sWrite; rw [wArg_no2 e2]) hI (FrC.refl σ))
    · skip
      by_cases h20 : S.1.2.2.1 = 20
      · skip
        refine aw_iload_n dX9_write_0 rfl ?_
        refine aw_iload_n dX9_write_1 rfl ?_
        refine csq2 dX9_write_2 km9_49 ok_X9_isStretch (Nat.le_of_ble_eq_true rfl) ⟨Nat.le_of_ble_eq_true rfl, Nat.le_of_ble_eq_true rfl⟩ rfl rfl (ct_isStretch _ _) ?_
        refine aw_if_eqB dX9_write_5 rfl (fun h_5 => absurd h_5 (not_not_intro hs)) (fun h_5 => ?_)
        refine aw_iload_n dX9_write_8 rfl ?_
        refine aw_iload dX9_write_9 rfl ?_
        refine csq2 dX9_write_11 km9_49 ok_X9_isStretch (Nat.le_of_ble_eq_true rfl) ⟨Nat.le_of_ble_eq_true rfl, Nat.le_of_ble_eq_true rfl⟩ rfl rfl (ct_isStretch _ _) ?_
        refine aw_if_neB dX9_write_14 rfl (fun h_14 => ?_) (fun h_14 => absurd h_14 (fun z => z hs2))
        refine aw_aload_n dX9_write_20 rfl ?_
        refine gf9_page dX9_write_21 kf9_12 k_0 ?_
        refine aw_eqr (b := 1) rfl ?_
        refine gf3_words dX9_write_24 kf9_95 k_1 ?_
        refine aw_eqr (b := 4) rfl ?_
        refine cqi0 dX9_write_27 km9_57 ok_X5_isFull rfl rfl (by decide) k_4 (Nat.le_of_ble_eq_true rfl) ⟨Nat.le_of_ble_eq_true rfl, Nat.le_of_ble_eq_true rfl⟩ rfl rfl (ct_Rows_isFull k_4) ?_
        refine aw_if_eqB dX9_write_30 rfl (fun h_30 => absurd h_30 (not_not_intro (by rw [hcw, hmw]; exact nI_nlt (by omega) (by omega)))) (fun h_30 => ?_)
        refine aw_bi (-4) dX9_write_33 (by decide) ?_
        exact aw_ireti dX9_write_35 (PoC.mk (by unfold sWrite wArg; rw [e1, e2, e3, e4]; dsimp only; rw [if_pos ⟨hab, hcd⟩]; dsimp only; rw [if_pos h20]) hI (FrC.refl σ))
      · skip
        have hlt : σ.1 162 4 < σ.1 161 4 := by rw [hcw, hmw]; exact nI_lt (by omega) (by omega)
        refine aw_iload_n dX9_write_0 rfl ?_
        refine aw_iload_n dX9_write_1 rfl ?_
        refine csq2 dX9_write_2 km9_49 ok_X9_isStretch (Nat.le_of_ble_eq_true rfl) ⟨Nat.le_of_ble_eq_true rfl, Nat.le_of_ble_eq_true rfl⟩ rfl rfl (ct_isStretch _ _) ?_
        refine aw_if_eqB dX9_write_5 rfl (fun h_5 => absurd h_5 (not_not_intro hs)) (fun h_5 => ?_)
        refine aw_iload_n dX9_write_8 rfl ?_
        refine aw_iload dX9_write_9 rfl ?_
        refine csq2 dX9_write_11 km9_49 ok_X9_isStretch (Nat.le_of_ble_eq_true rfl) ⟨Nat.le_of_ble_eq_true rfl, Nat.le_of_ble_eq_true rfl⟩ rfl rfl (ct_isStretch _ _) ?_
        refine aw_if_neB dX9_write_14 rfl (fun h_14 => ?_) (fun h_14 => absurd h_14 (fun z => z hs2))
        refine aw_aload_n dX9_write_20 rfl ?_
        refine gf9_page dX9_write_21 kf9_12 k_0 ?_
        refine aw_eqr (b := 1) rfl ?_
        refine gf3_words dX9_write_24 kf9_95 k_1 ?_
        refine aw_eqr (b := 4) rfl ?_
        refine cqi0 dX9_write_27 km9_57 ok_X5_isFull rfl rfl (by decide) k_4 (Nat.le_of_ble_eq_true rfl) ⟨Nat.le_of_ble_eq_true rfl, Nat.le_of_ble_eq_true rfl⟩ rfl rfl (ct_Rows_isFull k_4) ?_
        refine aw_if_eqB dX9_write_30 rfl (fun h_30 => ?_) (fun h_30 => absurd h_30 (not_not_intro hlt))
        refine aw_aload_n dX9_write_36 rfl ?_
        refine gf9_page dX9_write_37 kf9_12 k_0 ?_
        refine aw_eqr (b := 1) rfl ?_
        refine gf3_words dX9_write_40 kf9_95 k_1 ?_
        refine aw_eqr (b := 4) rfl ?_
        refine aw_iload_n dX9_write_43 rfl ?_
        refine aw_iload_n dX9_write_44 rfl ?_
        refine aw_iload_n dX9_write_45 rfl ?_
        refine aw_iload dX9_write_46 rfl ?_
        refine cvv4 dX9_write_48 km9_63 ok_X5_add rfl rfl (by decide) k_4 (Nat.le_of_ble_eq_true rfl) ⟨Nat.le_of_ble_eq_true rfl, Nat.le_of_ble_eq_true rfl⟩ rfl rfl (ct_Rows_add k_4 hcw (by show _ ≤ ln 5; omega) hlt _ _ _ _) ?_
        intro σ1 hp_48
        subst hp_48
        refine aw_aload_n dX9_write_51 rfl ?_
        refine aw_ic (nI 1) dX9_write_52 (by decide) ?_
        refine pf9_stale dX9_write_53 kf9_31 k_0 (by decide) ?_
        refine aw_aload_n dX9_write_56 rfl ?_
        refine gf9_page dX9_write_57 kf9_12 k_0 ?_
        refine aw_eqr (b := 1) rfl ?_
        refine gf3_words dX9_write_60 kf9_95 k_1 ?_
        refine aw_eqr (b := 4) rfl ?_
        refine gf5_count dX9_write_63 kf9_67 k_4 ?_
        refine aw_eq ((uI_f (by decide)).trans (uI_s _ _ _ _)) ?_
        exact aw_ireti dX9_write_66 (by
            refine InvC.pgJ hI (P := addW S.1 (four a c b2 d)) (hP.st (hP.1.kp ((uI_f (by decide)).trans (uI_o (by decide))) (uA_n (by decide))) (hP.2.1.add (by show _ ≤ ln 5; omega) (four_le (by omega) (by omega) (by omega) (by omega)) ((uI_f (by decide)).trans (uI_s _ _ _ _)) (uA_s _ _ _)) (uA_n (by decide)) rfl) (hV.addW (by omega) (four_le (by omega) (by omega) (by omega) (by omega))) (uI_s _ _ _ _) (fun f q h1 h2 => by unfold uI; rw [if_neg (by omega), if_neg (by omega)]) (fun q h => uA_n (by omega)) (by unfold sWrite wArg; rw [e1, e2, e3, e4]; dsimp only; rw [if_pos ⟨hab, hcd⟩]; dsimp only; rw [if_neg h20]))

set_option maxHeartbeats 4000000 in
set_option maxRecDepth 100000 in
theorem ct_erase {g : GG} {σ : SG} {S : Sp} (hI : InvC σ S) (x : Int32) : Cti g yX9_erase cX9_erase 2 (some .int) (rmm 2 44) [.ref (ad g 0), .int x] σ (PoC σ (sErase S x)) := by
  refine ct_of (own := RX9) (lv := [some (.ref (ad g 0)), some (.int x)]) rfl (by decide) (Nat.le_of_ble_eq_true rfl) (by intro u hu; simp only [List.mem_cons, List.not_mem_nil, or_false] at hu; rcases hu with rfl | rfl <;> rfl) (lv_ok [.ref (ad g 0), .int x] 0) ?_
  obtain ⟨hP, hV, ⟨m1, m2, m3⟩, h4, h5, h6⟩ := id hI
  have hl6 := l_6
  have hl3 := l_3
  have hl5 := l_5
  have hc : σ.1 162 2 = nI S.1.1 := hP.1.2.1
  have hm : σ.1 161 2 = nI 24 := m1.1
  have hcw : σ.1 162 4 = nI S.1.2.2.1 := hP.2.1.2.1
  have hmw : σ.1 161 4 = nI 20 := m1.2
  have hc24 := hV.1
  have hw20 := hV.2.2.1
  rcases ix_cases x (n := S.1.1) (by omega) with ⟨h, e⟩ | ⟨k, hk, rfl, e⟩
  · skip
    refine aw_aload_n dX9_erase_0 rfl ?_
    refine gf9_page dX9_erase_1 kf9_12 k_0 ?_
    refine aw_eqr (b := 1) rfl ?_
    refine gf3_pieces dX9_erase_4 kf9_53 k_1 ?_
    refine aw_eqr (b := 2) rfl ?_
    refine aw_iload_n dX9_erase_7 rfl ?_
    refine cqi1 dX9_erase_8 km9_71 ok_X5_has rfl rfl (by decide) k_2 (Nat.le_of_ble_eq_true rfl) ⟨Nat.le_of_ble_eq_true rfl, Nat.le_of_ble_eq_true rfl⟩ rfl rfl (ct_Rows_has k_2 _) ?_
    refine aw_if_neB dX9_erase_11 rfl (fun h_11 => absurd h_11 (ix_no hc h)) (fun h_11 => ?_)
    refine aw_ic (-1) dX9_erase_14 (by decide) ?_
    exact aw_ireti dX9_erase_15 (PoC.mk (by unfold sErase; rw [e]) hI (FrC.refl σ))
  · skip
    refine aw_aload_n dX9_erase_0 rfl ?_
    refine gf9_page dX9_erase_1 kf9_12 k_0 ?_
    refine aw_eqr (b := 1) rfl ?_
    refine gf3_pieces dX9_erase_4 kf9_53 k_1 ?_
    refine aw_eqr (b := 2) rfl ?_
    refine aw_iload_n dX9_erase_7 rfl ?_
    refine cqi1 dX9_erase_8 km9_71 ok_X5_has rfl rfl (by decide) k_2 (Nat.le_of_ble_eq_true rfl) ⟨Nat.le_of_ble_eq_true rfl, Nat.le_of_ble_eq_true rfl⟩ rfl rfl (ct_Rows_has k_2 _) ?_
    refine aw_if_neB dX9_erase_11 rfl (fun h_11 => ?_) (fun h_11 => absurd h_11 (not_not_intro (ix_yes hc hk (by omega))))
    refine aw_aload_n dX9_erase_16 rfl ?_
    refine gf9_page dX9_erase_17 kf9_12 k_0 ?_
    refine aw_eqr (b := 1) rfl ?_
    refine gf3_pieces dX9_erase_20 kf9_53 k_1 ?_
    refine aw_eqr (b := 2) rfl ?_
    refine aw_iload_n dX9_erase_23 rfl ?_
    refine cvv1 dX9_erase_24 km9_74 ok_X5_remove rfl rfl (by decide) k_2 (Nat.le_of_ble_eq_true rfl) ⟨Nat.le_of_ble_eq_true rfl, Nat.le_of_ble_eq_true rfl⟩ rfl rfl (ct_Rows_remove k_2 hc (by show _ ≤ ln 3; omega) hk) ?_
    intro σ1 hp_24
    subst hp_24
    refine aw_aload_n dX9_erase_27 rfl ?_
    refine aw_ic (nI 1) dX9_erase_28 (by decide) ?_
    refine pf9_stale dX9_erase_29 kf9_31 k_0 (by decide) ?_
    refine aw_aload_n dX9_erase_32 rfl ?_
    refine gf9_page dX9_erase_33 kf9_12 k_0 ?_
    refine aw_eqr (b := 1) rfl ?_
    refine gf3_pieces dX9_erase_36 kf9_53 k_1 ?_
    refine aw_eqr (b := 2) rfl ?_
    refine gf5_count dX9_erase_39 kf9_67 k_2 ?_
    refine aw_eq ((uI_f (by decide)).trans (uI_s _ _ _ _)) ?_
    exact aw_ireti dX9_erase_42 (by
        refine InvC.pgJ hI (P := remP S.1 k) (hP.st (hP.1.rem ((uI_f (by decide)).trans (uI_s _ _ _ _)) (uA_s _ _ _)) (hP.2.1.kp ((uI_f (by decide)).trans (uI_o (by decide))) (uA_n (by decide))) (uA_n (by decide)) rfl) hV.rem (uI_s _ _ _ _) (fun f q h1 h2 => by unfold uI; rw [if_neg (by omega), if_neg (by omega)]) (fun q h => uA_n (by omega)) (by unfold sErase; rw [e]))

set_option maxHeartbeats 4000000 in
set_option maxRecDepth 100000 in
theorem ct_strike {g : GG} {σ : SG} {S : Sp} (hI : InvC σ S) (x : Int32) : Cti g yX9_strike cX9_strike 2 (some .int) (rmm 2 44) [.ref (ad g 0), .int x] σ (PoC σ (sStrike S x)) := by
  refine ct_of (own := RX9) (lv := [some (.ref (ad g 0)), some (.int x)]) rfl (by decide) (Nat.le_of_ble_eq_true rfl) (by intro u hu; simp only [List.mem_cons, List.not_mem_nil, or_false] at hu; rcases hu with rfl | rfl <;> rfl) (lv_ok [.ref (ad g 0), .int x] 0) ?_
  obtain ⟨hP, hV, ⟨m1, m2, m3⟩, h4, h5, h6⟩ := id hI
  have hl6 := l_6
  have hl3 := l_3
  have hl5 := l_5
  have hc : σ.1 162 2 = nI S.1.1 := hP.1.2.1
  have hm : σ.1 161 2 = nI 24 := m1.1
  have hcw : σ.1 162 4 = nI S.1.2.2.1 := hP.2.1.2.1
  have hmw : σ.1 161 4 = nI 20 := m1.2
  have hc24 := hV.1
  have hw20 := hV.2.2.1
  rcases ix_cases x (n := S.1.2.2.1) (by omega) with ⟨h, e⟩ | ⟨k, hk, rfl, e⟩
  · skip
    refine aw_aload_n dX9_strike_0 rfl ?_
    refine gf9_page dX9_strike_1 kf9_12 k_0 ?_
    refine aw_eqr (b := 1) rfl ?_
    refine gf3_words dX9_strike_4 kf9_95 k_1 ?_
    refine aw_eqr (b := 4) rfl ?_
    refine aw_iload_n dX9_strike_7 rfl ?_
    refine cqi1 dX9_strike_8 km9_71 ok_X5_has rfl rfl (by decide) k_4 (Nat.le_of_ble_eq_true rfl) ⟨Nat.le_of_ble_eq_true rfl, Nat.le_of_ble_eq_true rfl⟩ rfl rfl (ct_Rows_has k_4 _) ?_
    refine aw_if_neB dX9_strike_11 rfl (fun h_11 => absurd h_11 (ix_no hcw h)) (fun h_11 => ?_)
    refine aw_ic (-1) dX9_strike_14 (by decide) ?_
    exact aw_ireti dX9_strike_15 (PoC.mk (by unfold sStrike; rw [e]) hI (FrC.refl σ))
  · skip
    refine aw_aload_n dX9_strike_0 rfl ?_
    refine gf9_page dX9_strike_1 kf9_12 k_0 ?_
    refine aw_eqr (b := 1) rfl ?_
    refine gf3_words dX9_strike_4 kf9_95 k_1 ?_
    refine aw_eqr (b := 4) rfl ?_
    refine aw_iload_n dX9_strike_7 rfl ?_
    refine cqi1 dX9_strike_8 km9_71 ok_X5_has rfl rfl (by decide) k_4 (Nat.le_of_ble_eq_true rfl) ⟨Nat.le_of_ble_eq_true rfl, Nat.le_of_ble_eq_true rfl⟩ rfl rfl (ct_Rows_has k_4 _) ?_
    refine aw_if_neB dX9_strike_11 rfl (fun h_11 => ?_) (fun h_11 => absurd h_11 (not_not_intro (ix_yes hcw hk (by omega))))
    refine aw_aload_n dX9_strike_16 rfl ?_
    refine gf9_page dX9_strike_17 kf9_12 k_0 ?_
    refine aw_eqr (b := 1) rfl ?_
    refine gf3_words dX9_strike_20 kf9_95 k_1 ?_
    refine aw_eqr (b := 4) rfl ?_
    refine aw_iload_n dX9_strike_23 rfl ?_
    refine cvv1 dX9_strike_24 km9_74 ok_X5_remove rfl rfl (by decide) k_4 (Nat.le_of_ble_eq_true rfl) ⟨Nat.le_of_ble_eq_true rfl, Nat.le_of_ble_eq_true rfl⟩ rfl rfl (ct_Rows_remove k_4 hcw (by show _ ≤ ln 5; omega) hk) ?_
    intro σ1 hp_24
    subst hp_24
    refine aw_aload_n dX9_strike_27 rfl ?_
    refine aw_ic (nI 1) dX9_strike_28 (by decide) ?_
    refine pf9_stale dX9_strike_29 kf9_31 k_0 (by decide) ?_
    refine aw_aload_n dX9_strike_32 rfl ?_
    refine gf9_page dX9_strike_33 kf9_12 k_0 ?_
    refine aw_eqr (b := 1) rfl ?_
    refine gf3_words dX9_strike_36 kf9_95 k_1 ?_
    refine aw_eqr (b := 4) rfl ?_
    refine gf5_count dX9_strike_39 kf9_67 k_4 ?_
    refine aw_eq ((uI_f (by decide)).trans (uI_s _ _ _ _)) ?_
    exact aw_ireti dX9_strike_42 (by
        refine InvC.pgJ hI (P := remW S.1 k) (hP.st (hP.1.kp ((uI_f (by decide)).trans (uI_o (by decide))) (uA_n (by decide))) (hP.2.1.rem ((uI_f (by decide)).trans (uI_s _ _ _ _)) (uA_s _ _ _)) (uA_n (by decide)) rfl) hV.remW (uI_s _ _ _ _) (fun f q h1 h2 => by unfold uI; rw [if_neg (by omega), if_neg (by omega)]) (fun q h => uA_n (by omega)) (by unfold sStrike; rw [e]))

theorem FnP.un {σ : SG} {P : Pg} (h : FnP σ P) : RsN σ (pM P) (pR P) ∧ (∀ p, p < P.1 → σ.2.1 50 p = nI (posR (pR P) (pM P) (pL P p))) ∧ (∀ k, k < pM P → σ.1 199 (25 + 1 + σ.2.2 k) = nI (crsN (pR P) (rcP P) k (pM P)) ∧ σ.1 200 (25 + 1 + σ.2.2 k) = tabN P k) ∧ σ.1 3 21 = nI (pT P) ∧ TbsP σ (pT P) (pN P) (pPl P) (pNr P) (pNc P) (pCc P) (pFc P) (pCw P) (wnT (pWT P) P.2.2.1) ∧ σ.1 132 172 = nI (wnL (pWT P) (pT P) P.2.2.1) ∧ σ.1 131 172 = nI P.2.2.1 ∧ (∀ x, x < P.2.2.1 → σ.2.1 173 x = (if pWT P x < pT P then nI (pWT P x) else -6) ∧ σ.2.1 174 x = (if pWT P x < pT P then nI (pWC P x) else -6)) ∧ (∃ τ, (∀ k, k < P.2.2.1 → σ.2.1 175 k = nI (τ k)) ∧ SoP (Qw P.2.2.2.1) P.2.2.1 τ) ∧ ∀ t, t < pT P → SdN σ (51 + 1 + 20 * t) (pNr P t) (pNc P t) (pSd P t) ∧ σ.1 257 (51 + 1 + 20 * t) = nI (ctB (pIn P t) (pM P)) ∧ σ.1 267 (51 + 1 + 20 * t) = nI (pHd P t) ∧ MiN σ (51 + 1 + 20 * t) (pMis P t) := ⟨h.1.1, h.1.2.1, h.1.2.2.1, h.1.2.2.2, h.2.1.1, h.2.1.2.1, h.2.1.2.2.1, h.2.1.2.2.2.1, h.2.1.2.2.2.2, fun t ht => ⟨(h.2.2.1 t ht).1.1, (h.2.2.1 t ht).1.2.1, (h.2.2.1 t ht).1.2.2, (h.2.2.1 t ht).2⟩⟩
set_option maxHeartbeats 4000000 in
set_option maxRecDepth 100000 in
theorem ct_piece {g : GG} {σ : SG} {S : Sp} (hK : FOKs) (hI : InvC σ S) (x what : Int32) : Cti g yX9_piece cX9_piece 3 (some .int) (rmm 6 148) [.ref (ad g 0), .int x, .int what] σ (PoC σ (aPiece S.1 x what, S)) := by
  refine ct_of (own := RX9) (lv := [some (.ref (ad g 0)), some (.int x), some (.int what)]) rfl (by decide) (Nat.le_of_ble_eq_true rfl) (by intro u hu; simp only [List.mem_cons, List.not_mem_nil, or_false] at hu; rcases hu with rfl | rfl | rfl <;> rfl) (lv_ok [.ref (ad g 0), .int x, .int what] 0) ?_
  obtain ⟨hP, hV, ⟨m1, m2, m3⟩, h4, h5, h6⟩ := id hI
  have hl6 := l_6
  have hl3 := l_3
  have hl5 := l_5
  have hc : σ.1 162 2 = nI S.1.1 := hP.1.2.1
  have hm : σ.1 161 2 = nI 24 := m1.1
  have hcw : σ.1 162 4 = nI S.1.2.2.1 := hP.2.1.2.1
  have hmw : σ.1 161 4 = nI 20 := m1.2
  have hc24 := hV.1
  have hw20 := hV.2.2.1
  rcases ix_cases x (n := S.1.1) (by omega) with ⟨h, e⟩ | ⟨k, hk, rfl, e⟩
  · skip
    refine aw_aload_n dX9_piece_0 rfl ?_
    refine gf9_page dX9_piece_1 kf9_12 k_0 ?_
    refine aw_eqr (b := 1) rfl ?_
    refine gf3_pieces dX9_piece_4 kf9_53 k_1 ?_
    refine aw_eqr (b := 2) rfl ?_
    refine aw_iload_n dX9_piece_7 rfl ?_
    refine cqi1 dX9_piece_8 km9_71 ok_X5_has rfl rfl (by decide) k_2 (Nat.le_of_ble_eq_true rfl) ⟨Nat.le_of_ble_eq_true rfl, Nat.le_of_ble_eq_true rfl⟩ rfl rfl (ct_Rows_has k_2 _) ?_
    refine aw_if_neB dX9_piece_11 rfl (fun h_11 => absurd h_11 (ix_no hc h)) (fun h_11 => ?_)
    refine aw_ic (-1) dX9_piece_14 (by decide) ?_
    exact aw_ireti dX9_piece_15 (PoC.mk (by unfold aPiece; rw [e]) hI (FrC.refl σ))
  · skip
    rcases ix_cases what (n := 5) (by decide) with ⟨h, e2⟩ | ⟨w, hw, rfl, e2⟩
    · skip
      refine aw_aload_n dX9_piece_0 rfl ?_
      refine gf9_page dX9_piece_1 kf9_12 k_0 ?_
      refine aw_eqr (b := 1) rfl ?_
      refine gf3_pieces dX9_piece_4 kf9_53 k_1 ?_
      refine aw_eqr (b := 2) rfl ?_
      refine aw_iload_n dX9_piece_7 rfl ?_
      refine cqi1 dX9_piece_8 km9_71 ok_X5_has rfl rfl (by decide) k_2 (Nat.le_of_ble_eq_true rfl) ⟨Nat.le_of_ble_eq_true rfl, Nat.le_of_ble_eq_true rfl⟩ rfl rfl (ct_Rows_has k_2 _) ?_
      refine aw_if_neB dX9_piece_11 rfl (fun h_11 => ?_) (fun h_11 => absurd h_11 (not_not_intro (ix_yes hc hk (by omega))))
      refine aw_iload_n dX9_piece_16 rfl ?_
      refine aw_if_lt dX9_piece_17 (fun h_17 => ?_) (fun h_17 => ?_)
      · skip
        refine aw_bi (-2) dX9_piece_25 (by decide) ?_
        exact aw_ireti dX9_piece_27 (PoC.mk (by unfold aPiece; rw [e]; dsimp only; rw [e2]) hI (FrC.refl σ))
      · skip
        refine aw_iload_n dX9_piece_20 rfl ?_
        refine aw_ic (nI 4) dX9_piece_21 (by decide) ?_
        refine aw_icmp_le dX9_piece_22 (fun h_22 => absurd h_22 (fun z => h.elim h_17 (fun y => lim_no y z (by decide)))) (fun h_22 => ?_)
        refine aw_bi (-2) dX9_piece_25 (by decide) ?_
        exact aw_ireti dX9_piece_27 (PoC.mk (by unfold aPiece; rw [e]; dsimp only; rw [e2]) hI (FrC.refl σ))
    · skip
      by_cases hw4 : w < 4
      · skip
        refine aw_aload_n dX9_piece_0 rfl ?_
        refine gf9_page dX9_piece_1 kf9_12 k_0 ?_
        refine aw_eqr (b := 1) rfl ?_
        refine gf3_pieces dX9_piece_4 kf9_53 k_1 ?_
        refine aw_eqr (b := 2) rfl ?_
        refine aw_iload_n dX9_piece_7 rfl ?_
        refine cqi1 dX9_piece_8 km9_71 ok_X5_has rfl rfl (by decide) k_2 (Nat.le_of_ble_eq_true rfl) ⟨Nat.le_of_ble_eq_true rfl, Nat.le_of_ble_eq_true rfl⟩ rfl rfl (ct_Rows_has k_2 _) ?_
        refine aw_if_neB dX9_piece_11 rfl (fun h_11 => ?_) (fun h_11 => absurd h_11 (not_not_intro (ix_yes hc hk (by omega))))
        refine aw_iload_n dX9_piece_16 rfl ?_
        refine aw_if_lt dX9_piece_17 (fun h_17 => absurd h_17 (nI_pos (by omega))) (fun h_17 => ?_)
        refine aw_iload_n dX9_piece_20 rfl ?_
        refine aw_ic (nI 4) dX9_piece_21 (by decide) ?_
        refine aw_icmp_leN dX9_piece_22 rfl (b := 4) rfl (by omega) (by omega) (fun h_22 => ?_) (fun h_22 => absurd h_22 (by omega))
        refine aw_iload_n dX9_piece_28 rfl ?_
        refine aw_ic (nI 4) dX9_piece_29 (by decide) ?_
        refine aw_icmp_geN dX9_piece_30 rfl (b := 4) rfl (by omega) (by omega) (fun h_30 => absurd h_30 (by omega)) (fun h_30 => ?_)
        refine aw_aload_n dX9_piece_33 rfl ?_
        refine gf9_page dX9_piece_34 kf9_12 k_0 ?_
        refine aw_eqr (b := 1) rfl ?_
        refine gf3_pieces dX9_piece_37 kf9_53 k_1 ?_
        refine aw_eqr (b := 2) rfl ?_
        refine aw_iload_n dX9_piece_40 rfl ?_
        refine aw_iload_n dX9_piece_41 rfl ?_
        refine cqi2 dX9_piece_42 km9_78 ok_X5_number rfl rfl (by decide) k_2 (Nat.le_of_ble_eq_true rfl) ⟨Nat.le_of_ble_eq_true rfl, Nat.le_of_ble_eq_true rfl⟩ rfl rfl (ct_num hP.1 hk hw4) ?_
        refine aw_goto dX9_piece_45 ?_
        exact aw_ireti dX9_piece_60 (PoC.mk (by unfold aPiece; rw [e]; dsimp only; rw [e2]; dsimp only; rw [if_pos hw4]) hI (FrC.refl σ))
      · skip
        have hl50 := l_50
        refine aw_aload_n dX9_piece_0 rfl ?_
        refine gf9_page dX9_piece_1 kf9_12 k_0 ?_
        refine aw_eqr (b := 1) rfl ?_
        refine gf3_pieces dX9_piece_4 kf9_53 k_1 ?_
        refine aw_eqr (b := 2) rfl ?_
        refine aw_iload_n dX9_piece_7 rfl ?_
        refine cqi1 dX9_piece_8 km9_71 ok_X5_has rfl rfl (by decide) k_2 (Nat.le_of_ble_eq_true rfl) ⟨Nat.le_of_ble_eq_true rfl, Nat.le_of_ble_eq_true rfl⟩ rfl rfl (ct_Rows_has k_2 _) ?_
        refine aw_if_neB dX9_piece_11 rfl (fun h_11 => ?_) (fun h_11 => absurd h_11 (not_not_intro (ix_yes hc hk (by omega))))
        refine aw_iload_n dX9_piece_16 rfl ?_
        refine aw_if_lt dX9_piece_17 (fun h_17 => absurd h_17 (nI_pos (by omega))) (fun h_17 => ?_)
        refine aw_iload_n dX9_piece_20 rfl ?_
        refine aw_ic (nI 4) dX9_piece_21 (by decide) ?_
        refine aw_icmp_leN dX9_piece_22 rfl (b := 4) rfl (by omega) (by omega) (fun h_22 => ?_) (fun h_22 => absurd h_22 (by omega))
        refine aw_iload_n dX9_piece_28 rfl ?_
        refine aw_ic (nI 4) dX9_piece_29 (by decide) ?_
        refine aw_icmp_geN dX9_piece_30 rfl (b := 4) rfl (by omega) (by omega) (fun h_30 => ?_) (fun h_30 => absurd h_30 (by omega))
        refine aw_aload_n dX9_piece_48 rfl ?_
        refine cvr0 dX9_piece_49 km9_82 ok_X9_found rfl rfl (by decide) k_0 (Nat.le_of_ble_eq_true rfl) ⟨Nat.le_of_ble_eq_true rfl, Nat.le_of_ble_eq_true rfl⟩ rfl rfl (ct_found hK hI) ?_
        intro σ1 hp_49
        obtain ⟨hI1, hF1, hFr⟩ := hp_49
        obtain ⟨r1, r2, r3, r4, w1, w2, w3, w4, ⟨τ, w5, w6⟩, t1⟩ := hF1.un
        refine gf0_rules dX9_piece_52 kf9_86 k_21 ?_
        refine aw_eqr (b := 24) rfl ?_
        refine gf7_ofPiece dX9_piece_55 kf9_90 k_24 ?_
        refine aw_eqr (b := 50) rfl ?_
        refine aw_iload_n dX9_piece_58 rfl ?_
        refine aw_ld (k) dX9_piece_59 k_50 (rfl) (by omega) ?_
        refine aw_eq (r2 k hk) ?_
        exact aw_ireti dX9_piece_60 (PoC.mk (by unfold aPiece; rw [e]; dsimp only; rw [e2]; dsimp only; rw [if_neg hw4]) hI1 hFr)

set_option maxHeartbeats 4000000 in
set_option maxRecDepth 100000 in
theorem ct_word {g : GG} {σ : SG} {S : Sp} (hK : FOKs) (hI : InvC σ S) (x what : Int32) : Cti g yX9_word cX9_word 4 (some .int) (rmm 6 148) [.ref (ad g 0), .int x, .int what] σ (PoC σ (aWord S.1 x what, S)) := by
  refine ct_of (own := RX9) (lv := [some (.ref (ad g 0)), some (.int x), some (.int what), none]) rfl (by decide) (Nat.le_of_ble_eq_true rfl) (by intro u hu; simp only [List.mem_cons, List.not_mem_nil, or_false] at hu; rcases hu with rfl | rfl | rfl <;> rfl) (lv_ok [.ref (ad g 0), .int x, .int what] 1) ?_
  obtain ⟨hP, hV, ⟨m1, m2, m3⟩, h4, h5, h6⟩ := id hI
  have hl6 := l_6
  have hl3 := l_3
  have hl5 := l_5
  have hc : σ.1 162 2 = nI S.1.1 := hP.1.2.1
  have hm : σ.1 161 2 = nI 24 := m1.1
  have hcw : σ.1 162 4 = nI S.1.2.2.1 := hP.2.1.2.1
  have hmw : σ.1 161 4 = nI 20 := m1.2
  have hc24 := hV.1
  have hw20 := hV.2.2.1
  rcases ix_cases x (n := S.1.2.2.1) (by omega) with ⟨h, e⟩ | ⟨k, hk, rfl, e⟩
  · skip
    refine aw_aload_n dX9_word_0 rfl ?_
    refine gf9_page dX9_word_1 kf9_12 k_0 ?_
    refine aw_eqr (b := 1) rfl ?_
    refine gf3_words dX9_word_4 kf9_95 k_1 ?_
    refine aw_eqr (b := 4) rfl ?_
    refine aw_iload_n dX9_word_7 rfl ?_
    refine cqi1 dX9_word_8 km9_71 ok_X5_has rfl rfl (by decide) k_4 (Nat.le_of_ble_eq_true rfl) ⟨Nat.le_of_ble_eq_true rfl, Nat.le_of_ble_eq_true rfl⟩ rfl rfl (ct_Rows_has k_4 _) ?_
    refine aw_if_neB dX9_word_11 rfl (fun h_11 => absurd h_11 (ix_no hcw h)) (fun h_11 => ?_)
    refine aw_ic (-1) dX9_word_14 (by decide) ?_
    exact aw_ireti dX9_word_15 (PoC.mk (by unfold aWord; rw [e]) hI (FrC.refl σ))
  · skip
    rcases ix_cases what (n := 6) (by decide) with ⟨h, e2⟩ | ⟨w, hw, rfl, e2⟩
    · skip
      refine aw_aload_n dX9_word_0 rfl ?_
      refine gf9_page dX9_word_1 kf9_12 k_0 ?_
      refine aw_eqr (b := 1) rfl ?_
      refine gf3_words dX9_word_4 kf9_95 k_1 ?_
      refine aw_eqr (b := 4) rfl ?_
      refine aw_iload_n dX9_word_7 rfl ?_
      refine cqi1 dX9_word_8 km9_71 ok_X5_has rfl rfl (by decide) k_4 (Nat.le_of_ble_eq_true rfl) ⟨Nat.le_of_ble_eq_true rfl, Nat.le_of_ble_eq_true rfl⟩ rfl rfl (ct_Rows_has k_4 _) ?_
      refine aw_if_neB dX9_word_11 rfl (fun h_11 => ?_) (fun h_11 => absurd h_11 (not_not_intro (ix_yes hcw hk (by omega))))
      refine aw_iload_n dX9_word_16 rfl ?_
      refine aw_if_lt dX9_word_17 (fun h_17 => ?_) (fun h_17 => ?_)
      · skip
        refine aw_bi (-2) dX9_word_25 (by decide) ?_
        exact aw_ireti dX9_word_27 (PoC.mk (by unfold aWord; rw [e]; dsimp only; rw [e2]) hI (FrC.refl σ))
      · skip
        refine aw_iload_n dX9_word_20 rfl ?_
        refine aw_ic (nI 5) dX9_word_21 (by decide) ?_
        refine aw_icmp_le dX9_word_22 (fun h_22 => absurd h_22 (fun z => h.elim h_17 (fun y => lim_no y z (by decide)))) (fun h_22 => ?_)
        refine aw_bi (-2) dX9_word_25 (by decide) ?_
        exact aw_ireti dX9_word_27 (PoC.mk (by unfold aWord; rw [e]; dsimp only; rw [e2]) hI (FrC.refl σ))
    · skip
      by_cases hw4 : w < 4
      · skip
        refine aw_aload_n dX9_word_0 rfl ?_
        refine gf9_page dX9_word_1 kf9_12 k_0 ?_
        refine aw_eqr (b := 1) rfl ?_
        refine gf3_words dX9_word_4 kf9_95 k_1 ?_
        refine aw_eqr (b := 4) rfl ?_
        refine aw_iload_n dX9_word_7 rfl ?_
        refine cqi1 dX9_word_8 km9_71 ok_X5_has rfl rfl (by decide) k_4 (Nat.le_of_ble_eq_true rfl) ⟨Nat.le_of_ble_eq_true rfl, Nat.le_of_ble_eq_true rfl⟩ rfl rfl (ct_Rows_has k_4 _) ?_
        refine aw_if_neB dX9_word_11 rfl (fun h_11 => ?_) (fun h_11 => absurd h_11 (not_not_intro (ix_yes hcw hk (by omega))))
        refine aw_iload_n dX9_word_16 rfl ?_
        refine aw_if_lt dX9_word_17 (fun h_17 => absurd h_17 (nI_pos (by omega))) (fun h_17 => ?_)
        refine aw_iload_n dX9_word_20 rfl ?_
        refine aw_ic (nI 5) dX9_word_21 (by decide) ?_
        refine aw_icmp_leN dX9_word_22 rfl (b := 5) rfl (by omega) (by omega) (fun h_22 => ?_) (fun h_22 => absurd h_22 (by omega))
        refine aw_iload_n dX9_word_28 rfl ?_
        refine aw_ic (nI 4) dX9_word_29 (by decide) ?_
        refine aw_icmp_geN dX9_word_30 rfl (b := 4) rfl (by omega) (by omega) (fun h_30 => absurd h_30 (by omega)) (fun h_30 => ?_)
        refine aw_aload_n dX9_word_33 rfl ?_
        refine gf9_page dX9_word_34 kf9_12 k_0 ?_
        refine aw_eqr (b := 1) rfl ?_
        refine gf3_words dX9_word_37 kf9_95 k_1 ?_
        refine aw_eqr (b := 4) rfl ?_
        refine aw_iload_n dX9_word_40 rfl ?_
        refine aw_iload_n dX9_word_41 rfl ?_
        refine cqi2 dX9_word_42 km9_78 ok_X5_number rfl rfl (by decide) k_4 (Nat.le_of_ble_eq_true rfl) ⟨Nat.le_of_ble_eq_true rfl, Nat.le_of_ble_eq_true rfl⟩ rfl rfl (ct_num hP.2.1 hk hw4) ?_
        exact aw_ireti dX9_word_45 (PoC.mk (by unfold aWord; rw [e]; dsimp only; rw [e2]; dsimp only; rw [if_pos hw4]) hI (FrC.refl σ))
      · skip
        by_cases hw5 : w = 4
        · skip
          refine aw_aload_n dX9_word_0 rfl ?_
          refine gf9_page dX9_word_1 kf9_12 k_0 ?_
          refine aw_eqr (b := 1) rfl ?_
          refine gf3_words dX9_word_4 kf9_95 k_1 ?_
          refine aw_eqr (b := 4) rfl ?_
          refine aw_iload_n dX9_word_7 rfl ?_
          refine cqi1 dX9_word_8 km9_71 ok_X5_has rfl rfl (by decide) k_4 (Nat.le_of_ble_eq_true rfl) ⟨Nat.le_of_ble_eq_true rfl, Nat.le_of_ble_eq_true rfl⟩ rfl rfl (ct_Rows_has k_4 _) ?_
          refine aw_if_neB dX9_word_11 rfl (fun h_11 => ?_) (fun h_11 => absurd h_11 (not_not_intro (ix_yes hcw hk (by omega))))
          refine aw_iload_n dX9_word_16 rfl ?_
          refine aw_if_lt dX9_word_17 (fun h_17 => absurd h_17 (nI_pos (by omega))) (fun h_17 => ?_)
          refine aw_iload_n dX9_word_20 rfl ?_
          refine aw_ic (nI 5) dX9_word_21 (by decide) ?_
          refine aw_icmp_leN dX9_word_22 rfl (b := 5) rfl (by omega) (by omega) (fun h_22 => ?_) (fun h_22 => absurd h_22 (by omega))
          refine aw_iload_n dX9_word_28 rfl ?_
          refine aw_ic (nI 4) dX9_word_29 (by decide) ?_
          refine aw_icmp_geN dX9_word_30 rfl (b := 4) rfl (by omega) (by omega) (fun h_30 => ?_) (fun h_30 => absurd h_30 (by omega))
          refine aw_aload_n dX9_word_46 rfl ?_
          refine cvr0 dX9_word_47 km9_82 ok_X9_found rfl rfl (by decide) k_0 (Nat.le_of_ble_eq_true rfl) ⟨Nat.le_of_ble_eq_true rfl, Nat.le_of_ble_eq_true rfl⟩ rfl rfl (ct_found hK hI) ?_
          intro σ1 hp_47
          obtain ⟨hI1, hF1, hFr⟩ := hp_47
          obtain ⟨r1, r2, r3, r4, w1, w2, w3, w4, ⟨τ, w5, w6⟩, t1⟩ := hF1.un
          refine gf0_placing dX9_word_50 kf9_98 k_21 ?_
          refine aw_eqr (b := 172) rfl ?_
          refine aw_astore_n dX9_word_53 (Nat.le_of_ble_eq_true rfl) ?_
          refine aw_iload_n dX9_word_54 rfl ?_
          refine aw_ic (nI 4) dX9_word_55 (by decide) ?_
          refine aw_icmp_neN dX9_word_56 rfl (b := 4) rfl (by omega) (by omega) (fun h_56 => absurd h_56 (by omega)) (fun h_56 => ?_)
          refine aw_aload_n dX9_word_59 rfl ?_
          refine gf4_tables dX9_word_60 kf9_102 k_172 ?_
          refine aw_eqr (b := 173) rfl ?_
          refine aw_iload_n dX9_word_63 rfl ?_
          refine aw_ld (k) dX9_word_64 k_173 (rfl) (by have := l_173; omega) ?_
          refine aw_eq (w4 k hk).1 ?_
          refine aw_goto dX9_word_65 ?_
          exact aw_ireti dX9_word_74 (PoC.mk (by unfold aWord; rw [e]; dsimp only; rw [e2]; dsimp only; rw [if_neg hw4]; by_cases q : pWT S.1 k < pT S.1 <;> simp only [q, if_true, if_false]; rw [if_pos hw5]) hI1 hFr)
        · skip
          refine aw_aload_n dX9_word_0 rfl ?_
          refine gf9_page dX9_word_1 kf9_12 k_0 ?_
          refine aw_eqr (b := 1) rfl ?_
          refine gf3_words dX9_word_4 kf9_95 k_1 ?_
          refine aw_eqr (b := 4) rfl ?_
          refine aw_iload_n dX9_word_7 rfl ?_
          refine cqi1 dX9_word_8 km9_71 ok_X5_has rfl rfl (by decide) k_4 (Nat.le_of_ble_eq_true rfl) ⟨Nat.le_of_ble_eq_true rfl, Nat.le_of_ble_eq_true rfl⟩ rfl rfl (ct_Rows_has k_4 _) ?_
          refine aw_if_neB dX9_word_11 rfl (fun h_11 => ?_) (fun h_11 => absurd h_11 (not_not_intro (ix_yes hcw hk (by omega))))
          refine aw_iload_n dX9_word_16 rfl ?_
          refine aw_if_lt dX9_word_17 (fun h_17 => absurd h_17 (nI_pos (by omega))) (fun h_17 => ?_)
          refine aw_iload_n dX9_word_20 rfl ?_
          refine aw_ic (nI 5) dX9_word_21 (by decide) ?_
          refine aw_icmp_leN dX9_word_22 rfl (b := 5) rfl (by omega) (by omega) (fun h_22 => ?_) (fun h_22 => absurd h_22 (by omega))
          refine aw_iload_n dX9_word_28 rfl ?_
          refine aw_ic (nI 4) dX9_word_29 (by decide) ?_
          refine aw_icmp_geN dX9_word_30 rfl (b := 4) rfl (by omega) (by omega) (fun h_30 => ?_) (fun h_30 => absurd h_30 (by omega))
          refine aw_aload_n dX9_word_46 rfl ?_
          refine cvr0 dX9_word_47 km9_82 ok_X9_found rfl rfl (by decide) k_0 (Nat.le_of_ble_eq_true rfl) ⟨Nat.le_of_ble_eq_true rfl, Nat.le_of_ble_eq_true rfl⟩ rfl rfl (ct_found hK hI) ?_
          intro σ1 hp_47
          obtain ⟨hI1, hF1, hFr⟩ := hp_47
          obtain ⟨r1, r2, r3, r4, w1, w2, w3, w4, ⟨τ, w5, w6⟩, t1⟩ := hF1.un
          refine gf0_placing dX9_word_50 kf9_98 k_21 ?_
          refine aw_eqr (b := 172) rfl ?_
          refine aw_astore_n dX9_word_53 (Nat.le_of_ble_eq_true rfl) ?_
          refine aw_iload_n dX9_word_54 rfl ?_
          refine aw_ic (nI 4) dX9_word_55 (by decide) ?_
          refine aw_icmp_neN dX9_word_56 rfl (b := 4) rfl (by omega) (by omega) (fun h_56 => ?_) (fun h_56 => absurd h_56 (by omega))
          refine aw_aload_n dX9_word_68 rfl ?_
          refine gf4_cells dX9_word_69 kf9_107 k_172 ?_
          refine aw_eqr (b := 174) rfl ?_
          refine aw_iload_n dX9_word_72 rfl ?_
          refine aw_ld (k) dX9_word_73 k_174 (rfl) (by have := l_174; omega) ?_
          refine aw_eq (w4 k hk).2 ?_
          exact aw_ireti dX9_word_74 (PoC.mk (by unfold aWord; rw [e]; dsimp only; rw [e2]; dsimp only; rw [if_neg hw4]; by_cases q : pWT S.1 k < pT S.1 <;> simp only [q, if_true, if_false]; rw [if_neg hw5]) hI1 hFr)

