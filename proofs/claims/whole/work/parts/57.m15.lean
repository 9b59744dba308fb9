set_option maxHeartbeats 4000000 in
set_option maxRecDepth 100000 in
theorem ctM_write {g : GG} {σ : SG} {S : Sp} (hI : InvM σ S) (l t r b_ : Int32) : Cti g yX10_write cX10_write 5 (some .int) (rmm 2 45) [.ref (ad g 176), .int l, .int t, .int r, .int b_] σ (PoM σ (sWrite S l t r b_)) := by
  refine ct_of (own := RX10) (lv := [some (.ref (ad g 176)), some (.int l), some (.int t), some (.int r), some (.int b_)]) rfl (by decide) (Nat.le_of_ble_eq_true rfl) (by intro u hu; simp only [List.mem_cons, List.not_mem_nil, or_false] at hu; rcases hu with rfl | rfl | rfl | rfl | rfl <;> rfl) (lv_ok [.ref (ad g 176), .int l, .int t, .int r, .int b_] 0) ?_
  obtain ⟨⟨hc, hp, hcw, hw9, hs0, hs1, hs2⟩, hV, hIm, hFn⟩ := id hI
  have hl178 := l_178
  have hw20 := hV.2.2.1
  rcases ix_cases l (n := 100) (by decide) with ⟨h, e⟩ | ⟨a, ha, rfl, e⟩
  · skip
    refine aw_iload_n dX10_write_0 rfl ?_
    refine csq1 dX10_write_1 km10_84 ok_X10_isPlace (Nat.le_of_ble_eq_true rfl) ⟨Nat.le_of_ble_eq_true rfl, Nat.le_of_ble_eq_true rfl⟩ rfl rfl (ct_isPlaceM _) ?_
    refine aw_if_eqB dX10_write_4 rfl (fun h_4 => ?_) (fun h_4 => absurd h_4 (ix_no rfl h))
    refine aw_bi (-2) dX10_write_40 (by decide) ?_
    exact aw_ireti dX10_write_42 (PoM.mk (by unfold sWrite wArg; rw [e]) hI (FrM.refl σ))
  · skip
    rcases ix_cases t (n := 100) (by decide) with ⟨h, e2⟩ | ⟨b, hb, rfl, e2⟩
    · skip
      refine aw_iload_n dX10_write_0 rfl ?_
      refine csq1 dX10_write_1 km10_84 ok_X10_isPlace (Nat.le_of_ble_eq_true rfl) ⟨Nat.le_of_ble_eq_true rfl, Nat.le_of_ble_eq_true rfl⟩ rfl rfl (ct_isPlaceM _) ?_
      refine aw_if_eqB dX10_write_4 rfl (fun h_4 => absurd h_4 (not_not_intro (ix_yes rfl ha (by decide)))) (fun h_4 => ?_)
      refine aw_iload_n dX10_write_7 rfl ?_
      refine csq1 dX10_write_8 km10_84 ok_X10_isPlace (Nat.le_of_ble_eq_true rfl) ⟨Nat.le_of_ble_eq_true rfl, Nat.le_of_ble_eq_true rfl⟩ rfl rfl (ct_isPlaceM _) ?_
      refine aw_if_eqB dX10_write_11 rfl (fun h_11 => ?_) (fun h_11 => absurd h_11 (ix_no rfl h))
      refine aw_bi (-2) dX10_write_40 (by decide) ?_
      exact aw_ireti dX10_write_42 (PoM.mk (by unfold sWrite wArg; rw [e, e2]) hI (FrM.refl σ))
    · skip
      rcases ix_cases r (n := 100) (by decide) with ⟨h, e3⟩ | ⟨d, hd, rfl, e3⟩
      · skip
        refine aw_iload_n dX10_write_0 rfl ?_
        refine csq1 dX10_write_1 km10_84 ok_X10_isPlace (Nat.le_of_ble_eq_true rfl) ⟨Nat.le_of_ble_eq_true rfl, Nat.le_of_ble_eq_true rfl⟩ rfl rfl (ct_isPlaceM _) ?_
        refine aw_if_eqB dX10_write_4 rfl (fun h_4 => absurd h_4 (not_not_intro (ix_yes rfl ha (by decide)))) (fun h_4 => ?_)
        refine aw_iload_n dX10_write_7 rfl ?_
        refine csq1 dX10_write_8 km10_84 ok_X10_isPlace (Nat.le_of_ble_eq_true rfl) ⟨Nat.le_of_ble_eq_true rfl, Nat.le_of_ble_eq_true rfl⟩ rfl rfl (ct_isPlaceM _) ?_
        refine aw_if_eqB dX10_write_11 rfl (fun h_11 => absurd h_11 (not_not_intro (ix_yes rfl hb (by decide)))) (fun h_11 => ?_)
        refine aw_iload_n dX10_write_14 rfl ?_
        refine csq1 dX10_write_15 km10_84 ok_X10_isPlace (Nat.le_of_ble_eq_true rfl) ⟨Nat.le_of_ble_eq_true rfl, Nat.le_of_ble_eq_true rfl⟩ rfl rfl (ct_isPlaceM _) ?_
        refine aw_if_eqB dX10_write_18 rfl (fun h_18 => ?_) (fun h_18 => absurd h_18 (ix_no rfl h))
        refine aw_bi (-2) dX10_write_40 (by decide) ?_
        exact aw_ireti dX10_write_42 (PoM.mk (by unfold sWrite wArg; rw [e, e2, e3]) hI (FrM.refl σ))
      · skip
        rcases ix_cases b_ (n := 100) (by decide) with ⟨h, e4⟩ | ⟨f, he, rfl, e4⟩
        · skip
          refine aw_iload_n dX10_write_0 rfl ?_
          refine csq1 dX10_write_1 km10_84 ok_X10_isPlace (Nat.le_of_ble_eq_true rfl) ⟨Nat.le_of_ble_eq_true rfl, Nat.le_of_ble_eq_true rfl⟩ rfl rfl (ct_isPlaceM _) ?_
          refine aw_if_eqB dX10_write_4 rfl (fun h_4 => absurd h_4 (not_not_intro (ix_yes rfl ha (by decide)))) (fun h_4 => ?_)
          refine aw_iload_n dX10_write_7 rfl ?_
          refine csq1 dX10_write_8 km10_84 ok_X10_isPlace (Nat.le_of_ble_eq_true rfl) ⟨Nat.le_of_ble_eq_true rfl, Nat.le_of_ble_eq_true rfl⟩ rfl rfl (ct_isPlaceM _) ?_
          refine aw_if_eqB dX10_write_11 rfl (fun h_11 => absurd h_11 (not_not_intro (ix_yes rfl hb (by decide)))) (fun h_11 => ?_)
          refine aw_iload_n dX10_write_14 rfl ?_
          refine csq1 dX10_write_15 km10_84 ok_X10_isPlace (Nat.le_of_ble_eq_true rfl) ⟨Nat.le_of_ble_eq_true rfl, Nat.le_of_ble_eq_true rfl⟩ rfl rfl (ct_isPlaceM _) ?_
          refine aw_if_eqB dX10_write_18 rfl (fun h_18 => absurd h_18 (not_not_intro (ix_yes rfl hd (by decide)))) (fun h_18 => ?_)
          refine aw_iload dX10_write_21 rfl ?_
          refine csq1 dX10_write_23 km10_84 ok_X10_isPlace (Nat.le_of_ble_eq_true rfl) ⟨Nat.le_of_ble_eq_true rfl, Nat.le_of_ble_eq_true rfl⟩ rfl rfl (ct_isPlaceM _) ?_
          refine aw_if_eqB dX10_write_26 rfl (fun h_26 => ?_) (fun h_26 => absurd h_26 (ix_no rfl h))
          refine aw_bi (-2) dX10_write_40 (by decide) ?_
          exact aw_ireti dX10_write_42 (PoM.mk (by unfold sWrite wArg; rw [e, e2, e3, e4]) hI (FrM.refl σ))
        · skip
          by_cases h1 : a < d
          · skip
            by_cases h2 : b < f
            · skip
              by_cases h20 : S.1.2.2.1 = 20
              · skip
                refine aw_iload_n dX10_write_0 rfl ?_
                refine csq1 dX10_write_1 km10_84 ok_X10_isPlace (Nat.le_of_ble_eq_true rfl) ⟨Nat.le_of_ble_eq_true rfl, Nat.le_of_ble_eq_true rfl⟩ rfl rfl (ct_isPlaceM _) ?_
                refine aw_if_eqB dX10_write_4 rfl (fun h_4 => absurd h_4 (not_not_intro (ix_yes rfl ha (by decide)))) (fun h_4 => ?_)
                refine aw_iload_n dX10_write_7 rfl ?_
                refine csq1 dX10_write_8 km10_84 ok_X10_isPlace (Nat.le_of_ble_eq_true rfl) ⟨Nat.le_of_ble_eq_true rfl, Nat.le_of_ble_eq_true rfl⟩ rfl rfl (ct_isPlaceM _) ?_
                refine aw_if_eqB dX10_write_11 rfl (fun h_11 => absurd h_11 (not_not_intro (ix_yes rfl hb (by decide)))) (fun h_11 => ?_)
                refine aw_iload_n dX10_write_14 rfl ?_
                refine csq1 dX10_write_15 km10_84 ok_X10_isPlace (Nat.le_of_ble_eq_true rfl) ⟨Nat.le_of_ble_eq_true rfl, Nat.le_of_ble_eq_true rfl⟩ rfl rfl (ct_isPlaceM _) ?_
                refine aw_if_eqB dX10_write_18 rfl (fun h_18 => absurd h_18 (not_not_intro (ix_yes rfl hd (by decide)))) (fun h_18 => ?_)
                refine aw_iload dX10_write_21 rfl ?_
                refine csq1 dX10_write_23 km10_84 ok_X10_isPlace (Nat.le_of_ble_eq_true rfl) ⟨Nat.le_of_ble_eq_true rfl, Nat.le_of_ble_eq_true rfl⟩ rfl rfl (ct_isPlaceM _) ?_
                refine aw_if_eqB dX10_write_26 rfl (fun h_26 => absurd h_26 (not_not_intro (ix_yes rfl he (by decide)))) (fun h_26 => ?_)
                refine aw_iload_n dX10_write_29 rfl ?_
                refine aw_iload_n dX10_write_30 rfl ?_
                refine aw_icmp_geN dX10_write_31 rfl rfl (by omega) (by omega) (fun h_31 => absurd h_31 (by omega)) (fun h_31 => ?_)
                refine aw_iload_n dX10_write_34 rfl ?_
                refine aw_iload dX10_write_35 rfl ?_
                refine aw_icmp_ltN dX10_write_37 rfl rfl (by omega) (by omega) (fun h_37 => ?_) (fun h_37 => absurd h_37 (by omega))
                refine aw_aload_n dX10_write_43 rfl ?_
                refine gf10_boxMany dX10_write_44 kf10_92 k_176 ?_
                refine aw_eq hcw ?_
                refine aw_bi (nI 20) dX10_write_47 (by decide) ?_
                refine aw_icmp_neN dX10_write_49 rfl (b := 20) rfl (by omega) (by omega) (fun h_49 => absurd h_49 (by omega)) (fun h_49 => ?_)
                refine aw_bi (-4) dX10_write_52 (by decide) ?_
                exact aw_ireti dX10_write_54 (PoM.mk (by unfold sWrite wArg; rw [e, e2, e3, e4]; dsimp only; rw [if_pos ⟨h1, h2⟩]; dsimp only; rw [if_pos h20]) hI (FrM.refl σ))
              · skip
                refine aw_iload_n dX10_write_0 rfl ?_
                refine csq1 dX10_write_1 km10_84 ok_X10_isPlace (Nat.le_of_ble_eq_true rfl) ⟨Nat.le_of_ble_eq_true rfl, Nat.le_of_ble_eq_true rfl⟩ rfl rfl (ct_isPlaceM _) ?_
                refine aw_if_eqB dX10_write_4 rfl (fun h_4 => absurd h_4 (not_not_intro (ix_yes rfl ha (by decide)))) (fun h_4 => ?_)
                refine aw_iload_n dX10_write_7 rfl ?_
                refine csq1 dX10_write_8 km10_84 ok_X10_isPlace (Nat.le_of_ble_eq_true rfl) ⟨Nat.le_of_ble_eq_true rfl, Nat.le_of_ble_eq_true rfl⟩ rfl rfl (ct_isPlaceM _) ?_
                refine aw_if_eqB dX10_write_11 rfl (fun h_11 => absurd h_11 (not_not_intro (ix_yes rfl hb (by decide)))) (fun h_11 => ?_)
                refine aw_iload_n dX10_write_14 rfl ?_
                refine csq1 dX10_write_15 km10_84 ok_X10_isPlace (Nat.le_of_ble_eq_true rfl) ⟨Nat.le_of_ble_eq_true rfl, Nat.le_of_ble_eq_true rfl⟩ rfl rfl (ct_isPlaceM _) ?_
                refine aw_if_eqB dX10_write_18 rfl (fun h_18 => absurd h_18 (not_not_intro (ix_yes rfl hd (by decide)))) (fun h_18 => ?_)
                refine aw_iload dX10_write_21 rfl ?_
                refine csq1 dX10_write_23 km10_84 ok_X10_isPlace (Nat.le_of_ble_eq_true rfl) ⟨Nat.le_of_ble_eq_true rfl, Nat.le_of_ble_eq_true rfl⟩ rfl rfl (ct_isPlaceM _) ?_
                refine aw_if_eqB dX10_write_26 rfl (fun h_26 => absurd h_26 (not_not_intro (ix_yes rfl he (by decide)))) (fun h_26 => ?_)
                refine aw_iload_n dX10_write_29 rfl ?_
                refine aw_iload_n dX10_write_30 rfl ?_
                refine aw_icmp_geN dX10_write_31 rfl rfl (by omega) (by omega) (fun h_31 => absurd h_31 (by omega)) (fun h_31 => ?_)
                refine aw_iload_n dX10_write_34 rfl ?_
                refine aw_iload dX10_write_35 rfl ?_
                refine aw_icmp_ltN dX10_write_37 rfl rfl (by omega) (by omega) (fun h_37 => ?_) (fun h_37 => absurd h_37 (by omega))
                refine aw_aload_n dX10_write_43 rfl ?_
                refine gf10_boxMany dX10_write_44 kf10_92 k_176 ?_
                refine aw_eq hcw ?_
                refine aw_bi (nI 20) dX10_write_47 (by decide) ?_
                refine aw_icmp_neN dX10_write_49 rfl (b := 20) rfl (by omega) (by omega) (fun h_49 => ?_) (fun h_49 => absurd h_49 (by omega))
                refine aw_aload_n dX10_write_55 rfl ?_
                refine gf10_boxes dX10_write_56 kf10_13 k_176 ?_
                refine aw_eqr (b := 178) rfl ?_
                refine aw_ic (nI 4) dX10_write_59 (by decide) ?_
                refine aw_aload_n dX10_write_60 rfl ?_
                refine gf10_boxMany dX10_write_61 kf10_92 k_176 ?_
                refine aw_eq hcw ?_
                refine aw_imul dX10_write_64 ?_
                refine aw_eq (show _ = nI (4 * S.1.2.2.1) by rw [pk_mul]) ?_
                refine aw_iload_n dX10_write_65 rfl ?_
                refine aw_sto (4 * S.1.2.2.1) dX10_write_66 k_178 (rfl) (by omega) ?_
                refine aw_aload_n dX10_write_67 rfl ?_
                refine gf10_boxes dX10_write_68 kf10_13 k_176 ?_
                refine aw_eqr (b := 178) rfl ?_
                refine aw_ic (nI 4) dX10_write_71 (by decide) ?_
                refine aw_aload_n dX10_write_72 rfl ?_
                refine gf10_boxMany dX10_write_73 kf10_92 k_176 ?_
                refine aw_eq hcw ?_
                refine aw_imul dX10_write_76 ?_
                refine aw_eq (show _ = nI (4 * S.1.2.2.1) by rw [pk_mul]) ?_
                refine aw_ic (nI 1) dX10_write_77 (by decide) ?_
                refine aw_iadd dX10_write_78 ?_
                refine aw_iload_n dX10_write_79 rfl ?_
                refine aw_sto (4 * S.1.2.2.1 + 1) dX10_write_80 k_178 (by rw [nI_add]) (by omega) ?_
                refine aw_sg (show _ = (σ.1, uA σ.2.1 178 (upd (upd (σ.2.1 178) (4 * S.1.2.2.1) (nI a)) (4 * S.1.2.2.1 + 1) (nI b)), σ.2.2) by rw [uA_s, uA_uA]) ?_
                refine aw_aload_n dX10_write_81 rfl ?_
                refine gf10_boxes dX10_write_82 kf10_13 k_176 ?_
                refine aw_eqr (b := 178) rfl ?_
                refine aw_ic (nI 4) dX10_write_85 (by decide) ?_
                refine aw_aload_n dX10_write_86 rfl ?_
                refine gf10_boxMany dX10_write_87 kf10_92 k_176 ?_
                refine aw_eq hcw ?_
                refine aw_imul dX10_write_90 ?_
                refine aw_eq (show _ = nI (4 * S.1.2.2.1) by rw [pk_mul]) ?_
                refine aw_ic (nI 2) dX10_write_91 (by decide) ?_
                refine aw_iadd dX10_write_92 ?_
                refine aw_iload_n dX10_write_93 rfl ?_
                refine aw_sto (4 * S.1.2.2.1 + 2) dX10_write_94 k_178 (by rw [nI_add]) (by omega) ?_
                refine aw_sg (show _ = (σ.1, uA σ.2.1 178 (upd (upd (upd (σ.2.1 178) (4 * S.1.2.2.1) (nI a)) (4 * S.1.2.2.1 + 1) (nI b)) (4 * S.1.2.2.1 + 2) (nI d)), σ.2.2) by rw [uA_s, uA_uA]) ?_
                refine aw_aload_n dX10_write_95 rfl ?_
                refine gf10_boxes dX10_write_96 kf10_13 k_176 ?_
                refine aw_eqr (b := 178) rfl ?_
                refine aw_ic (nI 4) dX10_write_99 (by decide) ?_
                refine aw_aload_n dX10_write_100 rfl ?_
                refine gf10_boxMany dX10_write_101 kf10_92 k_176 ?_
                refine aw_eq hcw ?_
                refine aw_imul dX10_write_104 ?_
                refine aw_eq (show _ = nI (4 * S.1.2.2.1) by rw [pk_mul]) ?_
                refine aw_ic (nI 3) dX10_write_105 (by decide) ?_
                refine aw_iadd dX10_write_106 ?_
                refine aw_iload dX10_write_107 rfl ?_
                refine aw_sto (4 * S.1.2.2.1 + 3) dX10_write_109 k_178 (by rw [nI_add]) (by omega) ?_
                refine aw_sg (show _ = (σ.1, uA σ.2.1 178 (upd (upd (upd (upd (σ.2.1 178) (4 * S.1.2.2.1) (nI a)) (4 * S.1.2.2.1 + 1) (nI b)) (4 * S.1.2.2.1 + 2) (nI d)) (4 * S.1.2.2.1 + 3) (nI f)), σ.2.2) by rw [uA_s, uA_uA]) ?_
                refine aw_aload_n dX10_write_110 rfl ?_
                refine aw_dup dX10_write_111 rfl ?_
                refine gf10_boxMany dX10_write_112 kf10_92 k_176 ?_
                refine aw_eq hcw ?_
                refine aw_ic (nI 1) dX10_write_115 (by decide) ?_
                refine aw_iadd dX10_write_116 ?_
                refine aw_eq (show _ = nI (S.1.2.2.1 + 1) by rw [nI_add]) ?_
                refine pf10_boxMany dX10_write_117 kf10_92 k_176 ?_
                refine aw_aload_n dX10_write_120 rfl ?_
                refine aw_ic (nI 0) dX10_write_121 (by decide) ?_
                refine pf10_isFound dX10_write_122 kf10_74 k_176 (by decide) ?_
                refine aw_aload_n dX10_write_125 rfl ?_
                refine gf10_boxMany dX10_write_126 kf10_92 k_176 ?_
                refine aw_eq ((uI_f (by decide)).trans (uI_s _ _ _ _)) ?_
                exact aw_ireti dX10_write_129 (by
                    refine InvM.pgJ hI (P := addW S.1 (four a b d f)) (PgS.mk9 ((uI_f (by decide)).trans ((uI_f (by decide)).trans hc)) (fun p w h1 h2 => (congrFun (uA_n (by decide)) _).trans (hp p w h1 h2)) ((uI_f (by decide)).trans (uI_s _ _ _ _)) (fun p x h1 h2 => (congrFun (uA_s _ _ _) _).trans (dAdd hw9 (four a b d f) p x h1 h2)) ((congrFun (uA_n (by decide)) _).trans hs0) ((congrFun (uA_n (by decide)) _).trans hs1) ((congrFun (uA_n (by decide)) _).trans hs2)) (hV.addW (by omega) (four_le (by omega) (by omega) (by omega) (by omega))) (uI_s _ _ _ _) (fun f q h => (uI_k h).trans (uI_k h)) (fun q h => uA_n (by omega)) (by unfold sWrite wArg; rw [e, e2, e3, e4]; dsimp only; rw [if_pos ⟨h1, h2⟩]; dsimp only; rw [if_neg h20]))
            · skip
              refine aw_iload_n dX10_write_0 rfl ?_
              refine csq1 dX10_write_1 km10_84 ok_X10_isPlace (Nat.le_of_ble_eq_true rfl) ⟨Nat.le_of_ble_eq_true rfl, Nat.le_of_ble_eq_true rfl⟩ rfl rfl (ct_isPlaceM _) ?_
              refine aw_if_eqB dX10_write_4 rfl (fun h_4 => absurd h_4 (not_not_intro (ix_yes rfl ha (by decide)))) (fun h_4 => ?_)
              refine aw_iload_n dX10_write_7 rfl ?_
              refine csq1 dX10_write_8 km10_84 ok_X10_isPlace (Nat.le_of_ble_eq_true rfl) ⟨Nat.le_of_ble_eq_true rfl, Nat.le_of_ble_eq_true rfl⟩ rfl rfl (ct_isPlaceM _) ?_
              refine aw_if_eqB dX10_write_11 rfl (fun h_11 => absurd h_11 (not_not_intro (ix_yes rfl hb (by decide)))) (fun h_11 => ?_)
              refine aw_iload_n dX10_write_14 rfl ?_
              refine csq1 dX10_write_15 km10_84 ok_X10_isPlace (Nat.le_of_ble_eq_true rfl) ⟨Nat.le_of_ble_eq_true rfl, Nat.le_of_ble_eq_true rfl⟩ rfl rfl (ct_isPlaceM _) ?_
              refine aw_if_eqB dX10_write_18 rfl (fun h_18 => absurd h_18 (not_not_intro (ix_yes rfl hd (by decide)))) (fun h_18 => ?_)
              refine aw_iload dX10_write_21 rfl ?_
              refine csq1 dX10_write_23 km10_84 ok_X10_isPlace (Nat.le_of_ble_eq_true rfl) ⟨Nat.le_of_ble_eq_true rfl, Nat.le_of_ble_eq_true rfl⟩ rfl rfl (ct_isPlaceM _) ?_
              refine aw_if_eqB dX10_write_26 rfl (fun h_26 => absurd h_26 (not_not_intro (ix_yes rfl he (by decide)))) (fun h_26 => ?_)
              refine aw_iload_n dX10_write_29 rfl ?_
              refine aw_iload_n dX10_write_30 rfl ?_
              refine aw_icmp_geN dX10_write_31 rfl rfl (by omega) (by omega) (fun h_31 => absurd h_31 (by omega)) (fun h_31 => ?_)
              refine aw_iload_n dX10_write_34 rfl ?_
              refine aw_iload dX10_write_35 rfl ?_
              refine aw_icmp_ltN dX10_write_37 rfl rfl (by omega) (by omega) (fun h_37 => absurd h_37 (by omega)) (fun h_37 => ?_)
              refine aw_bi (-2) dX10_write_40 (by decide) ?_
              exact aw_ireti dX10_write_42 (PoM.mk (by unfold sWrite wArg; rw [e, e2, e3, e4]; dsimp only; rw [if_neg (fun z => h2 z.2)]) hI (FrM.refl σ))
          · skip
            refine aw_iload_n dX10_write_0 rfl ?_
            refine csq1 dX10_write_1 km10_84 ok_X10_isPlace (Nat.le_of_ble_eq_true rfl) ⟨Nat.le_of_ble_eq_true rfl, Nat.le_of_ble_eq_true rfl⟩ rfl rfl (ct_isPlaceM _) ?_
            refine aw_if_eqB dX10_write_4 rfl (fun h_4 => absurd h_4 (not_not_intro (ix_yes rfl ha (by decide)))) (fun h_4 => ?_)
            refine aw_iload_n dX10_write_7 rfl ?_
            refine csq1 dX10_write_8 km10_84 ok_X10_isPlace (Nat.le_of_ble_eq_true rfl) ⟨Nat.le_of_ble_eq_true rfl, Nat.le_of_ble_eq_true rfl⟩ rfl rfl (ct_isPlaceM _) ?_
            refine aw_if_eqB dX10_write_11 rfl (fun h_11 => absurd h_11 (not_not_intro (ix_yes rfl hb (by decide)))) (fun h_11 => ?_)
            refine aw_iload_n dX10_write_14 rfl ?_
            refine csq1 dX10_write_15 km10_84 ok_X10_isPlace (Nat.le_of_ble_eq_true rfl) ⟨Nat.le_of_ble_eq_true rfl, Nat.le_of_ble_eq_true rfl⟩ rfl rfl (ct_isPlaceM _) ?_
            refine aw_if_eqB dX10_write_18 rfl (fun h_18 => absurd h_18 (not_not_intro (ix_yes rfl hd (by decide)))) (fun h_18 => ?_)
            refine aw_iload dX10_write_21 rfl ?_
            refine csq1 dX10_write_23 km10_84 ok_X10_isPlace (Nat.le_of_ble_eq_true rfl) ⟨Nat.le_of_ble_eq_true rfl, Nat.le_of_ble_eq_true rfl⟩ rfl rfl (ct_isPlaceM _) ?_
            refine aw_if_eqB dX10_write_26 rfl (fun h_26 => absurd h_26 (not_not_intro (ix_yes rfl he (by decide)))) (fun h_26 => ?_)
            refine aw_iload_n dX10_write_29 rfl ?_
            refine aw_iload_n dX10_write_30 rfl ?_
            refine aw_icmp_geN dX10_write_31 rfl rfl (by omega) (by omega) (fun h_31 => ?_) (fun h_31 => absurd h_31 (by omega))
            refine aw_bi (-2) dX10_write_40 (by decide) ?_
            exact aw_ireti dX10_write_42 (PoM.mk (by unfold sWrite wArg; rw [e, e2, e3, e4]; dsimp only; rw [if_neg (fun z => h1 z.1)]) hI (FrM.refl σ))

set_option maxHeartbeats 4000000 in
set_option maxRecDepth 100000 in
theorem ctW_pass {g : GG} {σ : SG} {a : Nat} (v : Int32) (h1 : σ.1 347 176 = 1) (hat : σ.1 346 176 = nI a) (ha : a < 362) : Cti g yX10_pass cX10_pass 3 (some .int) (rmm 0 0) [.ref (ad g 176), .int v] σ (fun r σ' => r = v ∧ σ' = (uI σ.1 346 176 (nI (a + 1)), uA σ.2.1 192 (upd (σ.2.1 192) a v), σ.2.2)) := by
  refine ct_of (own := RX10) (lv := [some (.ref (ad g 176)), some (.int v), none]) rfl (by decide) (Nat.le_of_ble_eq_true rfl) (by intro u hu; simp only [List.mem_cons, List.not_mem_nil, or_false] at hu; rcases hu with rfl | rfl <;> rfl) (lv_ok [.ref (ad g 176), .int v] 1) ?_
  have hl192 := l_192
  refine aw_aload_n dX10_pass_0 rfl ?_
  refine gf10_isWriting dX10_pass_1 kf10_267 k_176 ?_
  refine aw_eq h1 ?_
  refine aw_if_eq dX10_pass_4 (fun h_4 => absurd h_4 (by decide)) (fun h_4 => ?_)
  refine aw_iload_n dX10_pass_7 rfl ?_
  refine aw_goto dX10_pass_8 ?_
  refine aw_istore_n dX10_pass_20 (Nat.le_of_ble_eq_true rfl) ?_
  refine aw_aload_n dX10_pass_21 rfl ?_
  refine gf10_kept dX10_pass_22 kf10_55 k_176 ?_
  refine aw_eqr (b := 192) rfl ?_
  refine aw_aload_n dX10_pass_25 rfl ?_
  refine gf10_keptAt dX10_pass_26 kf10_270 k_176 ?_
  refine aw_eq hat ?_
  refine aw_iload_n dX10_pass_29 rfl ?_
  refine aw_sto (a) dX10_pass_30 k_192 (rfl) (by omega) ?_
  refine aw_aload_n dX10_pass_31 rfl ?_
  refine aw_dup dX10_pass_32 rfl ?_
  refine gf10_keptAt dX10_pass_33 kf10_270 k_176 ?_
  refine aw_eq hat ?_
  refine aw_ic (nI 1) dX10_pass_36 (by decide) ?_
  refine aw_iadd dX10_pass_37 ?_
  refine aw_eq (show _ = nI (a + 1) by rw [nI_add]) ?_
  refine pf10_keptAt dX10_pass_38 kf10_270 k_176 ?_
  refine aw_iload_n dX10_pass_41 rfl ?_
  exact aw_ireti dX10_pass_42 (⟨rfl, rfl⟩)

set_option maxHeartbeats 4000000 in
set_option maxRecDepth 100000 in
theorem ctR_pass {g : GG} {σ : SG} {a : Nat} (v : Int32) (h1 : σ.1 347 176 = 0) (hat : σ.1 346 176 = nI a) (ha : a < 362) : Cti g yX10_pass cX10_pass 3 (some .int) (rmm 0 0) [.ref (ad g 176), .int v] σ (fun r σ' => r = σ.2.1 192 a ∧ σ' = (uI σ.1 346 176 (nI (a + 1)), σ.2.1, σ.2.2)) := by
  refine ct_of (own := RX10) (lv := [some (.ref (ad g 176)), some (.int v), none]) rfl (by decide) (Nat.le_of_ble_eq_true rfl) (by intro u hu; simp only [List.mem_cons, List.not_mem_nil, or_false] at hu; rcases hu with rfl | rfl <;> rfl) (lv_ok [.ref (ad g 176), .int v] 1) ?_
  have hl192 := l_192
  refine aw_aload_n dX10_pass_0 rfl ?_
  refine gf10_isWriting dX10_pass_1 kf10_267 k_176 ?_
  refine aw_eq h1 ?_
  refine aw_if_eq dX10_pass_4 (fun h_4 => ?_) (fun h_4 => absurd h_4 (fun z => z rfl))
  refine aw_aload_n dX10_pass_11 rfl ?_
  refine gf10_kept dX10_pass_12 kf10_55 k_176 ?_
  refine aw_eqr (b := 192) rfl ?_
  refine aw_aload_n dX10_pass_15 rfl ?_
  refine gf10_keptAt dX10_pass_16 kf10_270 k_176 ?_
  refine aw_eq hat ?_
  refine aw_ld (a) dX10_pass_19 k_192 (rfl) (by omega) ?_
  refine aw_istore_n dX10_pass_20 (Nat.le_of_ble_eq_true rfl) ?_
  refine aw_aload_n dX10_pass_21 rfl ?_
  refine gf10_kept dX10_pass_22 kf10_55 k_176 ?_
  refine aw_eqr (b := 192) rfl ?_
  refine aw_aload_n dX10_pass_25 rfl ?_
  refine gf10_keptAt dX10_pass_26 kf10_270 k_176 ?_
  refine aw_eq hat ?_
  refine aw_iload_n dX10_pass_29 rfl ?_
  refine aw_sto (a) dX10_pass_30 k_192 (rfl) (by omega) ?_
  refine aw_aload_n dX10_pass_31 rfl ?_
  refine aw_dup dX10_pass_32 rfl ?_
  refine gf10_keptAt dX10_pass_33 kf10_270 k_176 ?_
  refine aw_eq hat ?_
  refine aw_ic (nI 1) dX10_pass_36 (by decide) ?_
  refine aw_iadd dX10_pass_37 ?_
  refine aw_eq (show _ = nI (a + 1) by rw [nI_add]) ?_
  refine pf10_keptAt dX10_pass_38 kf10_270 k_176 ?_
  refine aw_iload_n dX10_pass_41 rfl ?_
  exact aw_ireti dX10_pass_42 (⟨rfl, by rw [upd_same rfl, uA_same]⟩)

theorem row_same {B : Nat → Nat → Int32} {h : Nat → Int32} {o k : Nat} {v : Int32} (n : o ≠ 192) (e : B o k = v) : uA (uA B 192 h) o (upd ((uA B 192 h) o) k v) = uA B 192 h := by
  rw [upd_same (by rw [uA_n n]; exact e), uA_same]
set_option maxHeartbeats 4000000 in
set_option maxRecDepth 100000 in
theorem ctW_row177 {g : GG} {σ : SG} {a n : Nat} (h1 : σ.1 347 176 = 1) (hat : σ.1 346 176 = nI a) (ha : a + n ≤ 362) (hn : n ≤ 96) : Ctv g yX10_passRow cX10_passRow 4 (rmm 1 22) [.ref (ad g 176), .ref (ad g 177), .int (nI n)] σ (fun σ' => ∃ h, σ' = (uI σ.1 346 176 (nI (a + n)), uA σ.2.1 192 h, σ.2.2) ∧ (∀ k, k < n → h (a + k) = σ.2.1 177 k) ∧ (∀ x, (x < a ∨ a + n ≤ x) → h x = σ.2.1 192 x)) := by
  refine ct_of (own := RX10) (lv := [some (.ref (ad g 176)), some (.ref (ad g 177)), some (.int (nI n)), none]) rfl (by decide) (Nat.le_of_ble_eq_true rfl) (by intro u hu; simp only [List.mem_cons, List.not_mem_nil, or_false] at hu; rcases hu with rfl | rfl | rfl <;> rfl) (lv_ok [.ref (ad g 176), .ref (ad g 177), .int (nI n)] 1) ?_
  have hlo := l_177
  have hl192 := l_192
  refine aw_ic (nI 0) dX10_passRow_0 (by decide) ?_
  refine aw_istore_n dX10_passRow_1 (Nat.le_of_ble_eq_true rfl) ?_
  refine for_ux (fun i σ' lv' => ∃ h, σ' = (uI σ.1 346 176 (nI (a + i)), uA σ.2.1 192 h, σ.2.2) ∧ (∀ k, k < i → h (a + k) = σ.2.1 177 k) ∧ (∀ x, (x < a ∨ a + i ≤ x) → h x = σ.2.1 192 x) ∧ lv' = [some (.ref (ad g 176)), some (.ref (ad g 177)), some (.int (nI n)), some (.int (nI i))]) (n) ?_ ?_ (0) _ _ (by omega) (⟨σ.2.1 192, by rw [uA_same, show nI (a + 0) = σ.1 346 176 from hat.symm, uI_same], fun k hk => absurd hk (Nat.not_lt_zero k), fun x _ => rfl, rfl⟩)
  · rintro i σ2 lv2 hi ⟨h, rfl, g1, g2, rfl⟩ ih
    refine aw_iload_n dX10_passRow_2 rfl ?_
    refine aw_iload_n dX10_passRow_3 rfl ?_
    refine aw_icmp_geN dX10_passRow_4 rfl rfl (by omega) (by omega) (fun h_4 => absurd h_4 (by omega)) (fun h_4 => ?_)
    refine aw_aload_n dX10_passRow_7 rfl ?_
    refine aw_iload_n dX10_passRow_8 rfl ?_
    refine aw_aload_n dX10_passRow_9 rfl ?_
    refine aw_aload_n dX10_passRow_10 rfl ?_
    refine aw_iload_n dX10_passRow_11 rfl ?_
    refine aw_ld (i) dX10_passRow_12 k_177 (rfl) (by omega) ?_
    refine aw_eq (nB (by decide) rfl) ?_
    refine cvi1 dX10_passRow_13 km10_273 ok_X10_pass rfl rfl (by decide) k_176 (Nat.le_of_ble_eq_true rfl) ⟨Nat.le_of_ble_eq_true rfl, Nat.le_of_ble_eq_true rfl⟩ rfl rfl (ctW_pass (a := a + i) (σ.2.1 177 i) (tF (by decide) h1) tG (by omega)) ?_
    intro r9 σ3 hp_13
    obtain ⟨rfl, rfl⟩ := hp_13
    refine aw_sg (show _ = (uI σ.1 346 176 (nI (a + (i + 1))), uA σ.2.1 192 (upd h (a + i) (σ.2.1 177 i)), σ.2.2) by dsimp only; rw [uI_uI, uA_s, uA_uA]; rfl) ?_
    refine aw_sto (i) dX10_passRow_16 k_177 (rfl) (by omega) ?_
    refine aw_sg (show _ = (uI σ.1 346 176 (nI (a + (i + 1))), uA σ.2.1 192 (upd h (a + i) (σ.2.1 177 i)), σ.2.2) by rw [row_same (by decide) rfl]) ?_
    refine aw_inc (nI (i + 1)) dX10_passRow_17 rfl (Nat.le_of_ble_eq_true rfl) (nI_1 i) ?_
    refine aw_goto dX10_passRow_20 ?_
    exact ih _ _ ⟨_, rfl, fun k hk => by
      by_cases z : k = i
      · rw [z, pk_us]
      · rw [pk_un (by omega)]; exact g1 k (by omega), fun x hx => by rw [pk_un (by omega)]; exact g2 x (by omega), rfl⟩
  · rintro σ2 lv2 ⟨h, rfl, g1, g2, rfl⟩
    refine aw_iload_n dX10_passRow_2 rfl ?_
    refine aw_iload_n dX10_passRow_3 rfl ?_
    refine aw_icmp_geN dX10_passRow_4 rfl rfl (by omega) (by omega) (fun h_4 => ?_) (fun h_4 => absurd h_4 (by omega))
    exact aw_ret dX10_passRow_23 (⟨h, rfl, g1, g2⟩)

set_option maxHeartbeats 4000000 in
set_option maxRecDepth 100000 in
theorem ctR_row177 {g : GG} {σ : SG} {a n : Nat} (h1 : σ.1 347 176 = 0) (hat : σ.1 346 176 = nI a) (ha : a + n ≤ 362) (hn : n ≤ 96) : Ctv g yX10_passRow cX10_passRow 4 (rmm 1 22) [.ref (ad g 176), .ref (ad g 177), .int (nI n)] σ (fun σ' => ∃ h, σ' = (uI σ.1 346 176 (nI (a + n)), uA σ.2.1 177 h, σ.2.2) ∧ (∀ k, k < n → h k = σ.2.1 192 (a + k))) := by
  refine ct_of (own := RX10) (lv := [some (.ref (ad g 176)), some (.ref (ad g 177)), some (.int (nI n)), none]) rfl (by decide) (Nat.le_of_ble_eq_true rfl) (by intro u hu; simp only [List.mem_cons, List.not_mem_nil, or_false] at hu; rcases hu with rfl | rfl | rfl <;> rfl) (lv_ok [.ref (ad g 176), .ref (ad g 177), .int (nI n)] 1) ?_
  have hlo := l_177
  have hl192 := l_192
  refine aw_ic (nI 0) dX10_passRow_0 (by decide) ?_
  refine aw_istore_n dX10_passRow_1 (Nat.le_of_ble_eq_true rfl) ?_
  refine for_ux (fun i σ' lv' => ∃ h, σ' = (uI σ.1 346 176 (nI (a + i)), uA σ.2.1 177 h, σ.2.2) ∧ (∀ k, k < i → h k = σ.2.1 192 (a + k)) ∧ lv' = [some (.ref (ad g 176)), some (.ref (ad g 177)), some (.int (nI n)), some (.int (nI i))]) (n) ?_ ?_ (0) _ _ (by omega) (⟨σ.2.1 177, by rw [uA_same, show nI (a + 0) = σ.1 346 176 from hat.symm, uI_same], fun k hk => absurd hk (Nat.not_lt_zero k), rfl⟩)
  · rintro i σ2 lv2 hi ⟨h, rfl, g1, rfl⟩ ih
    refine aw_iload_n dX10_passRow_2 rfl ?_
    refine aw_iload_n dX10_passRow_3 rfl ?_
    refine aw_icmp_geN dX10_passRow_4 rfl rfl (by omega) (by omega) (fun h_4 => absurd h_4 (by omega)) (fun h_4 => ?_)
    refine aw_aload_n dX10_passRow_7 rfl ?_
    refine aw_iload_n dX10_passRow_8 rfl ?_
    refine aw_aload_n dX10_passRow_9 rfl ?_
    refine aw_aload_n dX10_passRow_10 rfl ?_
    refine aw_iload_n dX10_passRow_11 rfl ?_
    refine aw_ld (i) dX10_passRow_12 k_177 (rfl) (by omega) ?_
    refine cvi1 dX10_passRow_13 km10_273 ok_X10_pass rfl rfl (by decide) k_176 (Nat.le_of_ble_eq_true rfl) ⟨Nat.le_of_ble_eq_true rfl, Nat.le_of_ble_eq_true rfl⟩ rfl rfl (ctR_pass (a := a + i) _ (tF (by decide) h1) tG (by omega)) ?_
    intro r9 σ3 hp_13
    obtain ⟨rfl, rfl⟩ := hp_13
    refine aw_eq (show _ = σ.2.1 192 (a + i) from tA (by decide) rfl) ?_
    refine aw_sg (show _ = (uI σ.1 346 176 (nI (a + (i + 1))), uA σ.2.1 177 h, σ.2.2) by dsimp only; rw [uI_uI]; rfl) ?_
    refine aw_sto (i) dX10_passRow_16 k_177 (rfl) (by omega) ?_
    refine aw_inc (nI (i + 1)) dX10_passRow_17 rfl (Nat.le_of_ble_eq_true rfl) (nI_1 i) ?_
    refine aw_goto dX10_passRow_20 ?_
    exact ih _ _ ⟨_, by rw [uA_s, uA_uA], fun k hk => by
      by_cases z : k = i
      · rw [z, pk_us]
      · rw [pk_un (by omega)]; exact g1 k (by omega), rfl⟩
  · rintro σ2 lv2 ⟨h, rfl, g1, rfl⟩
    refine aw_iload_n dX10_passRow_2 rfl ?_
    refine aw_iload_n dX10_passRow_3 rfl ?_
    refine aw_icmp_geN dX10_passRow_4 rfl rfl (by omega) (by omega) (fun h_4 => ?_) (fun h_4 => absurd h_4 (by omega))
    exact aw_ret dX10_passRow_23 (⟨h, rfl, g1⟩)

set_option maxHeartbeats 4000000 in
set_option maxRecDepth 100000 in
theorem ctW_row178 {g : GG} {σ : SG} {a n : Nat} (h1 : σ.1 347 176 = 1) (hat : σ.1 346 176 = nI a) (ha : a + n ≤ 362) (hn : n ≤ 80) : Ctv g yX10_passRow cX10_passRow 4 (rmm 1 22) [.ref (ad g 176), .ref (ad g 178), .int (nI n)] σ (fun σ' => ∃ h, σ' = (uI σ.1 346 176 (nI (a + n)), uA σ.2.1 192 h, σ.2.2) ∧ (∀ k, k < n → h (a + k) = σ.2.1 178 k) ∧ (∀ x, (x < a ∨ a + n ≤ x) → h x = σ.2.1 192 x)) := by
  refine ct_of (own := RX10) (lv := [some (.ref (ad g 176)), some (.ref (ad g 178)), some (.int (nI n)), none]) rfl (by decide) (Nat.le_of_ble_eq_true rfl) (by intro u hu; simp only [List.mem_cons, List.not_mem_nil, or_false] at hu; rcases hu with rfl | rfl | rfl <;> rfl) (lv_ok [.ref (ad g 176), .ref (ad g 178), .int (nI n)] 1) ?_
  have hlo := l_178
  have hl192 := l_192
  refine aw_ic (nI 0) dX10_passRow_0 (by decide) ?_
  refine aw_istore_n dX10_passRow_1 (Nat.le_of_ble_eq_true rfl) ?_
  refine for_ux (fun i σ' lv' => ∃ h, σ' = (uI σ.1 346 176 (nI (a + i)), uA σ.2.1 192 h, σ.2.2) ∧ (∀ k, k < i → h (a + k) = σ.2.1 178 k) ∧ (∀ x, (x < a ∨ a + i ≤ x) → h x = σ.2.1 192 x) ∧ lv' = [some (.ref (ad g 176)), some (.ref (ad g 178)), some (.int (nI n)), some (.int (nI i))]) (n) ?_ ?_ (0) _ _ (by omega) (⟨σ.2.1 192, by rw [uA_same, show nI (a + 0) = σ.1 346 176 from hat.symm, uI_same], fun k hk => absurd hk (Nat.not_lt_zero k), fun x _ => rfl, rfl⟩)
  · rintro i σ2 lv2 hi ⟨h, rfl, g1, g2, rfl⟩ ih
    refine aw_iload_n dX10_passRow_2 rfl ?_
    refine aw_iload_n dX10_passRow_3 rfl ?_
    refine aw_icmp_geN dX10_passRow_4 rfl rfl (by omega) (by omega) (fun h_4 => absurd h_4 (by omega)) (fun h_4 => ?_)
    refine aw_aload_n dX10_passRow_7 rfl ?_
    refine aw_iload_n dX10_passRow_8 rfl ?_
    refine aw_aload_n dX10_passRow_9 rfl ?_
    refine aw_aload_n dX10_passRow_10 rfl ?_
    refine aw_iload_n dX10_passRow_11 rfl ?_
    refine aw_ld (i) dX10_passRow_12 k_178 (rfl) (by omega) ?_
    refine aw_eq (nB (by decide) rfl) ?_
    refine cvi1 dX10_passRow_13 km10_273 ok_X10_pass rfl rfl (by decide) k_176 (Nat.le_of_ble_eq_true rfl) ⟨Nat.le_of_ble_eq_true rfl, Nat.le_of_ble_eq_true rfl⟩ rfl rfl (ctW_pass (a := a + i) (σ.2.1 178 i) (tF (by decide) h1) tG (by omega)) ?_
    intro r9 σ3 hp_13
    obtain ⟨rfl, rfl⟩ := hp_13
    refine aw_sg (show _ = (uI σ.1 346 176 (nI (a + (i + 1))), uA σ.2.1 192 (upd h (a + i) (σ.2.1 178 i)), σ.2.2) by dsimp only; rw [uI_uI, uA_s, uA_uA]; rfl) ?_
    refine aw_sto (i) dX10_passRow_16 k_178 (rfl) (by omega) ?_
    refine aw_sg (show _ = (uI σ.1 346 176 (nI (a + (i + 1))), uA σ.2.1 192 (upd h (a + i) (σ.2.1 178 i)), σ.2.2) by rw [row_same (by decide) rfl]) ?_
    refine aw_inc (nI (i + 1)) dX10_passRow_17 rfl (Nat.le_of_ble_eq_true rfl) (nI_1 i) ?_
    refine aw_goto dX10_passRow_20 ?_
    exact ih _ _ ⟨_, rfl, fun k hk => by
      by_cases z : k = i
      · rw [z, pk_us]
      · rw [pk_un (by omega)]; exact g1 k (by omega), fun x hx => by rw [pk_un (by omega)]; exact g2 x (by omega), rfl⟩
  · rintro σ2 lv2 ⟨h, rfl, g1, g2, rfl⟩
    refine aw_iload_n dX10_passRow_2 rfl ?_
    refine aw_iload_n dX10_passRow_3 rfl ?_
    refine aw_icmp_geN dX10_passRow_4 rfl rfl (by omega) (by omega) (fun h_4 => ?_) (fun h_4 => absurd h_4 (by omega))
    exact aw_ret dX10_passRow_23 (⟨h, rfl, g1, g2⟩)

set_option maxHeartbeats 4000000 in
set_option maxRecDepth 100000 in
theorem ctR_row178 {g : GG} {σ : SG} {a n : Nat} (h1 : σ.1 347 176 = 0) (hat : σ.1 346 176 = nI a) (ha : a + n ≤ 362) (hn : n ≤ 80) : Ctv g yX10_passRow cX10_passRow 4 (rmm 1 22) [.ref (ad g 176), .ref (ad g 178), .int (nI n)] σ (fun σ' => ∃ h, σ' = (uI σ.1 346 176 (nI (a + n)), uA σ.2.1 178 h, σ.2.2) ∧ (∀ k, k < n → h k = σ.2.1 192 (a + k))) := by
  refine ct_of (own := RX10) (lv := [some (.ref (ad g 176)), some (.ref (ad g 178)), some (.int (nI n)), none]) rfl (by decide) (Nat.le_of_ble_eq_true rfl) (by intro u hu; simp only [List.mem_cons, List.not_mem_nil, or_false] at hu; rcases hu with rfl | rfl | rfl <;> rfl) (lv_ok [.ref (ad g 176), .ref (ad g 178), .int (nI n)] 1) ?_
  have hlo := l_178
  have hl192 := l_192
  refine aw_ic (nI 0) dX10_passRow_0 (by decide) ?_
  refine aw_istore_n dX10_passRow_1 (Nat.le_of_ble_eq_true rfl) ?_
  refine for_ux (fun i σ' lv' => ∃ h, σ' = (uI σ.1 346 176 (nI (a + i)), uA σ.2.1 178 h, σ.2.2) ∧ (∀ k, k < i → h k = σ.2.1 192 (a + k)) ∧ lv' = [some (.ref (ad g 176)), some (.ref (ad g 178)), some (.int (nI n)), some (.int (nI i))]) (n) ?_ ?_ (0) _ _ (by omega) (⟨σ.2.1 178, by rw [uA_same, show nI (a + 0) = σ.1 346 176 from hat.symm, uI_same], fun k hk => absurd hk (Nat.not_lt_zero k), rfl⟩)
  · rintro i σ2 lv2 hi ⟨h, rfl, g1, rfl⟩ ih
    refine aw_iload_n dX10_passRow_2 rfl ?_
    refine aw_iload_n dX10_passRow_3 rfl ?_
    refine aw_icmp_geN dX10_passRow_4 rfl rfl (by omega) (by omega) (fun h_4 => absurd h_4 (by omega)) (fun h_4 => ?_)
    refine aw_aload_n dX10_passRow_7 rfl ?_
    refine aw_iload_n dX10_passRow_8 rfl ?_
    refine aw_aload_n dX10_passRow_9 rfl ?_
    refine aw_aload_n dX10_passRow_10 rfl ?_
    refine aw_iload_n dX10_passRow_11 rfl ?_
    refine aw_ld (i) dX10_passRow_12 k_178 (rfl) (by omega) ?_
    refine cvi1 dX10_passRow_13 km10_273 ok_X10_pass rfl rfl (by decide) k_176 (Nat.le_of_ble_eq_true rfl) ⟨Nat.le_of_ble_eq_true rfl, Nat.le_of_ble_eq_true rfl⟩ rfl rfl (ctR_pass (a := a + i) _ (tF (by decide) h1) tG (by omega)) ?_
    intro r9 σ3 hp_13
    obtain ⟨rfl, rfl⟩ := hp_13
    refine aw_eq (show _ = σ.2.1 192 (a + i) from tA (by decide) rfl) ?_
    refine aw_sg (show _ = (uI σ.1 346 176 (nI (a + (i + 1))), uA σ.2.1 178 h, σ.2.2) by dsimp only; rw [uI_uI]; rfl) ?_
    refine aw_sto (i) dX10_passRow_16 k_178 (rfl) (by omega) ?_
    refine aw_inc (nI (i + 1)) dX10_passRow_17 rfl (Nat.le_of_ble_eq_true rfl) (nI_1 i) ?_
    refine aw_goto dX10_passRow_20 ?_
    exact ih _ _ ⟨_, by rw [uA_s, uA_uA], fun k hk => by
      by_cases z : k = i
      · rw [z, pk_us]
      · rw [pk_un (by omega)]; exact g1 k (by omega), rfl⟩
  · rintro σ2 lv2 ⟨h, rfl, g1, rfl⟩
    refine aw_iload_n dX10_passRow_2 rfl ?_
    refine aw_iload_n dX10_passRow_3 rfl ?_
    refine aw_icmp_geN dX10_passRow_4 rfl rfl (by omega) (by omega) (fun h_4 => ?_) (fun h_4 => absurd h_4 (by omega))
    exact aw_ret dX10_passRow_23 (⟨h, rfl, g1⟩)

set_option maxHeartbeats 4000000 in
set_option maxRecDepth 100000 in
theorem ctW_row179 {g : GG} {σ : SG} {a n : Nat} (h1 : σ.1 347 176 = 1) (hat : σ.1 346 176 = nI a) (ha : a + n ≤ 362) (hn : n ≤ 3) : Ctv g yX10_passRow cX10_passRow 4 (rmm 1 22) [.ref (ad g 176), .ref (ad g 179), .int (nI n)] σ (fun σ' => ∃ h, σ' = (uI σ.1 346 176 (nI (a + n)), uA σ.2.1 192 h, σ.2.2) ∧ (∀ k, k < n → h (a + k) = σ.2.1 179 k) ∧ (∀ x, (x < a ∨ a + n ≤ x) → h x = σ.2.1 192 x)) := by
  refine ct_of (own := RX10) (lv := [some (.ref (ad g 176)), some (.ref (ad g 179)), some (.int (nI n)), none]) rfl (by decide) (Nat.le_of_ble_eq_true rfl) (by intro u hu; simp only [List.mem_cons, List.not_mem_nil, or_false] at hu; rcases hu with rfl | rfl | rfl <;> rfl) (lv_ok [.ref (ad g 176), .ref (ad g 179), .int (nI n)] 1) ?_
  have hlo := l_179
  have hl192 := l_192
  refine aw_ic (nI 0) dX10_passRow_0 (by decide) ?_
  refine aw_istore_n dX10_passRow_1 (Nat.le_of_ble_eq_true rfl) ?_
  refine for_ux (fun i σ' lv' => ∃ h, σ' = (uI σ.1 346 176 (nI (a + i)), uA σ.2.1 192 h, σ.2.2) ∧ (∀ k, k < i → h (a + k) = σ.2.1 179 k) ∧ (∀ x, (x < a ∨ a + i ≤ x) → h x = σ.2.1 192 x) ∧ lv' = [some (.ref (ad g 176)), some (.ref (ad g 179)), some (.int (nI n)), some (.int (nI i))]) (n) ?_ ?_ (0) _ _ (by omega) (⟨σ.2.1 192, by rw [uA_same, show nI (a + 0) = σ.1 346 176 from hat.symm, uI_same], fun k hk => absurd hk (Nat.not_lt_zero k), fun x _ => rfl, rfl⟩)
  · rintro i σ2 lv2 hi ⟨h, rfl, g1, g2, rfl⟩ ih
    refine aw_iload_n dX10_passRow_2 rfl ?_
    refine aw_iload_n dX10_passRow_3 rfl ?_
    refine aw_icmp_geN dX10_passRow_4 rfl rfl (by omega) (by omega) (fun h_4 => absurd h_4 (by omega)) (fun h_4 => ?_)
    refine aw_aload_n dX10_passRow_7 rfl ?_
    refine aw_iload_n dX10_passRow_8 rfl ?_
    refine aw_aload_n dX10_passRow_9 rfl ?_
    refine aw_aload_n dX10_passRow_10 rfl ?_
    refine aw_iload_n dX10_passRow_11 rfl ?_
    refine aw_ld (i) dX10_passRow_12 k_179 (rfl) (by omega) ?_
    refine aw_eq (nB (by decide) rfl) ?_
    refine cvi1 dX10_passRow_13 km10_273 ok_X10_pass rfl rfl (by decide) k_176 (Nat.le_of_ble_eq_true rfl) ⟨Nat.le_of_ble_eq_true rfl, Nat.le_of_ble_eq_true rfl⟩ rfl rfl (ctW_pass (a := a + i) (σ.2.1 179 i) (tF (by decide) h1) tG (by omega)) ?_
    intro r9 σ3 hp_13
    obtain ⟨rfl, rfl⟩ := hp_13
    refine aw_sg (show _ = (uI σ.1 346 176 (nI (a + (i + 1))), uA σ.2.1 192 (upd h (a + i) (σ.2.1 179 i)), σ.2.2) by dsimp only; rw [uI_uI, uA_s, uA_uA]; rfl) ?_
    refine aw_sto (i) dX10_passRow_16 k_179 (rfl) (by omega) ?_
    refine aw_sg (show _ = (uI σ.1 346 176 (nI (a + (i + 1))), uA σ.2.1 192 (upd h (a + i) (σ.2.1 179 i)), σ.2.2) by rw [row_same (by decide) rfl]) ?_
    refine aw_inc (nI (i + 1)) dX10_passRow_17 rfl (Nat.le_of_ble_eq_true rfl) (nI_1 i) ?_
    refine aw_goto dX10_passRow_20 ?_
    exact ih _ _ ⟨_, rfl, fun k hk => by
      by_cases z : k = i
      · rw [z, pk_us]
      · rw [pk_un (by omega)]; exact g1 k (by omega), fun x hx => by rw [pk_un (by omega)]; exact g2 x (by omega), rfl⟩
  · rintro σ2 lv2 ⟨h, rfl, g1, g2, rfl⟩
    refine aw_iload_n dX10_passRow_2 rfl ?_
    refine aw_iload_n dX10_passRow_3 rfl ?_
    refine aw_icmp_geN dX10_passRow_4 rfl rfl (by omega) (by omega) (fun h_4 => ?_) (fun h_4 => absurd h_4 (by omega))
    exact aw_ret dX10_passRow_23 (⟨h, rfl, g1, g2⟩)

set_option maxHeartbeats 4000000 in
set_option maxRecDepth 100000 in
theorem ctR_row179 {g : GG} {σ : SG} {a n : Nat} (h1 : σ.1 347 176 = 0) (hat : σ.1 346 176 = nI a) (ha : a + n ≤ 362) (hn : n ≤ 3) : Ctv g yX10_passRow cX10_passRow 4 (rmm 1 22) [.ref (ad g 176), .ref (ad g 179), .int (nI n)] σ (fun σ' => ∃ h, σ' = (uI σ.1 346 176 (nI (a + n)), uA σ.2.1 179 h, σ.2.2) ∧ (∀ k, k < n → h k = σ.2.1 192 (a + k))) := by
  refine ct_of (own := RX10) (lv := [some (.ref (ad g 176)), some (.ref (ad g 179)), some (.int (nI n)), none]) rfl (by decide) (Nat.le_of_ble_eq_true rfl) (by intro u hu; simp only [List.mem_cons, List.not_mem_nil, or_false] at hu; rcases hu with rfl | rfl | rfl <;> rfl) (lv_ok [.ref (ad g 176), .ref (ad g 179), .int (nI n)] 1) ?_
  have hlo := l_179
  have hl192 := l_192
  refine aw_ic (nI 0) dX10_passRow_0 (by decide) ?_
  refine aw_istore_n dX10_passRow_1 (Nat.le_of_ble_eq_true rfl) ?_
  refine for_ux (fun i σ' lv' => ∃ h, σ' = (uI σ.1 346 176 (nI (a + i)), uA σ.2.1 179 h, σ.2.2) ∧ (∀ k, k < i → h k = σ.2.1 192 (a + k)) ∧ lv' = [some (.ref (ad g 176)), some (.ref (ad g 179)), some (.int (nI n)), some (.int (nI i))]) (n) ?_ ?_ (0) _ _ (by omega) (⟨σ.2.1 179, by rw [uA_same, show nI (a + 0) = σ.1 346 176 from hat.symm, uI_same], fun k hk => absurd hk (Nat.not_lt_zero k), rfl⟩)
  · rintro i σ2 lv2 hi ⟨h, rfl, g1, rfl⟩ ih
    refine aw_iload_n dX10_passRow_2 rfl ?_
    refine aw_iload_n dX10_passRow_3 rfl ?_
    refine aw_icmp_geN dX10_passRow_4 rfl rfl (by omega) (by omega) (fun h_4 => absurd h_4 (by omega)) (fun h_4 => ?_)
    refine aw_aload_n dX10_passRow_7 rfl ?_
    refine aw_iload_n dX10_passRow_8 rfl ?_
    refine aw_aload_n dX10_passRow_9 rfl ?_
    refine aw_aload_n dX10_passRow_10 rfl ?_
    refine aw_iload_n dX10_passRow_11 rfl ?_
    refine aw_ld (i) dX10_passRow_12 k_179 (rfl) (by omega) ?_
    refine cvi1 dX10_passRow_13 km10_273 ok_X10_pass rfl rfl (by decide) k_176 (Nat.le_of_ble_eq_true rfl) ⟨Nat.le_of_ble_eq_true rfl, Nat.le_of_ble_eq_true rfl⟩ rfl rfl (ctR_pass (a := a + i) _ (tF (by decide) h1) tG (by omega)) ?_
    intro r9 σ3 hp_13
    obtain ⟨rfl, rfl⟩ := hp_13
    refine aw_eq (show _ = σ.2.1 192 (a + i) from tA (by decide) rfl) ?_
    refine aw_sg (show _ = (uI σ.1 346 176 (nI (a + (i + 1))), uA σ.2.1 179 h, σ.2.2) by dsimp only; rw [uI_uI]; rfl) ?_
    refine aw_sto (i) dX10_passRow_16 k_179 (rfl) (by omega) ?_
    refine aw_inc (nI (i + 1)) dX10_passRow_17 rfl (Nat.le_of_ble_eq_true rfl) (nI_1 i) ?_
    refine aw_goto dX10_passRow_20 ?_
    exact ih _ _ ⟨_, by rw [uA_s, uA_uA], fun k hk => by
      by_cases z : k = i
      · rw [z, pk_us]
      · rw [pk_un (by omega)]; exact g1 k (by omega), rfl⟩
  · rintro σ2 lv2 ⟨h, rfl, g1, rfl⟩
    refine aw_iload_n dX10_passRow_2 rfl ?_
    refine aw_iload_n dX10_passRow_3 rfl ?_
    refine aw_icmp_geN dX10_passRow_4 rfl rfl (by omega) (by omega) (fun h_4 => ?_) (fun h_4 => absurd h_4 (by omega))
    exact aw_ret dX10_passRow_23 (⟨h, rfl, g1⟩)

set_option maxHeartbeats 4000000 in
set_option maxRecDepth 100000 in
theorem ctW_passAll {g : GG} {σ : SG} {a : Nat} (h1 : σ.1 347 176 = 1) (hat : σ.1 346 176 = nI a) (ha : a + 181 ≤ 362) : Ctv g yX10_passAll cX10_passAll 1 (rmm 2 45) [.ref (ad g 176)] σ (fun σ' => ∃ J h, σ' = (J, uA σ.2.1 192 h, σ.2.2) ∧ (∀ f q, (f ≠ 346 ∨ q ≠ 176) → J f q = σ.1 f q) ∧ h a = σ.1 321 176 ∧ h (a + 1) = σ.1 323 176 ∧ (∀ k, k < 3 → h (a + 2 + k) = σ.2.1 179 k) ∧ (∀ k, k < 96 → h (a + 5 + k) = σ.2.1 177 k) ∧ (∀ k, k < 80 → h (a + 101 + k) = σ.2.1 178 k) ∧ ∀ x, (x < a ∨ a + 181 ≤ x) → h x = σ.2.1 192 x) := by
  refine ct_of (own := RX10) (lv := [some (.ref (ad g 176))]) rfl (by decide) (Nat.le_of_ble_eq_true rfl) (by intro u hu; simp only [List.mem_cons, List.not_mem_nil, or_false] at hu; rcases hu with rfl <;> rfl) (lv_ok [.ref (ad g 176)] 0) ?_
  refine aw_aload_n dX10_passAll_0 rfl ?_
  refine aw_aload_n dX10_passAll_1 rfl ?_
  refine aw_aload_n dX10_passAll_2 rfl ?_
  refine gf10_drawnMany dX10_passAll_3 kf10_80 k_176 ?_
  refine cvi1 dX10_passAll_6 km10_273 ok_X10_pass rfl rfl (by decide) k_176 (Nat.le_of_ble_eq_true rfl) ⟨Nat.le_of_ble_eq_true rfl, Nat.le_of_ble_eq_true rfl⟩ rfl rfl (ctW_pass (a := a) _ h1 hat (by omega)) ?_
  intro r6 σ6 hp_6
  obtain ⟨rfl, rfl⟩ := hp_6
  try dsimp only
  refine pf10_drawnMany dX10_passAll_9 kf10_80 k_176 ?_
  refine aw_aload_n dX10_passAll_12 rfl ?_
  refine aw_aload_n dX10_passAll_13 rfl ?_
  refine aw_aload_n dX10_passAll_14 rfl ?_
  refine gf10_boxMany dX10_passAll_15 kf10_92 k_176 ?_
  refine aw_eq (show _ = σ.1 323 176 from (uI_f (by decide)).trans (uI_f (by decide))) ?_
  refine cvi1 dX10_passAll_18 km10_273 ok_X10_pass rfl rfl (by decide) k_176 (Nat.le_of_ble_eq_true rfl) ⟨Nat.le_of_ble_eq_true rfl, Nat.le_of_ble_eq_true rfl⟩ rfl rfl (ctW_pass (a := a + 1) _ (tF (by decide) (show uI σ.1 346 176 (nI (a + 1)) 347 176 = 1 from (uI_f (by decide)).trans h1)) (tF (by decide) (uI_s _ _ _ _)) (by omega)) ?_
  intro r18 σ18 hp_18
  obtain ⟨rfl, rfl⟩ := hp_18
  try dsimp only
  refine pf10_boxMany dX10_passAll_21 kf10_92 k_176 ?_
  refine aw_sg (show _ = (uI (uI (uI (uI σ.1 346 176 (nI (a + 1))) 321 176 (σ.1 321 176)) 346 176 (nI (a + 2))) 323 176 (σ.1 323 176), uA σ.2.1 192 (upd (upd (σ.2.1 192) a (σ.1 321 176)) (a + 1) (σ.1 323 176)), σ.2.2) by rw [uA_s, uA_uA]) ?_
  refine aw_aload_n dX10_passAll_24 rfl ?_
  refine aw_aload_n dX10_passAll_25 rfl ?_
  refine gf10_how dX10_passAll_26 kf10_16 k_176 ?_
  refine aw_eqr (b := 179) rfl ?_
  refine aw_ic (nI 3) dX10_passAll_29 (by decide) ?_
  refine cvv2 dX10_passAll_30 km10_276 ok_X10_passRow rfl rfl (by decide) k_176 (Nat.le_of_ble_eq_true rfl) ⟨Nat.le_of_ble_eq_true rfl, Nat.le_of_ble_eq_true rfl⟩ rfl rfl (ctW_row179 (a := a + 2) (n := 3) (show (uI (uI (uI (uI σ.1 346 176 (nI (a + 1))) 321 176 (σ.1 321 176)) 346 176 (nI (a + 2))) 323 176 (σ.1 323 176)) 347 176 = 1 from (uI_f (by decide)).trans ((uI_f (by decide)).trans ((uI_f (by decide)).trans ((uI_f (by decide)).trans h1)))) (show (uI (uI (uI (uI σ.1 346 176 (nI (a + 1))) 321 176 (σ.1 321 176)) 346 176 (nI (a + 2))) 323 176 (σ.1 323 176)) 346 176 = nI (a + 2) from (uI_f (by decide)).trans (uI_s _ _ _ _)) (by omega) (by omega)) ?_
  intro σ30 hp_30
  obtain ⟨h3, rfl, p1, p2⟩ := hp_30
  try dsimp only
  refine aw_aload_n dX10_passAll_33 rfl ?_
  refine aw_aload_n dX10_passAll_34 rfl ?_
  refine gf10_drawn dX10_passAll_35 kf10_7 k_176 ?_
  refine aw_eqr (b := 177) rfl ?_
  refine aw_bi (nI 96) dX10_passAll_38 (by decide) ?_
  refine cvv2 dX10_passAll_40 km10_276 ok_X10_passRow rfl rfl (by decide) k_176 (Nat.le_of_ble_eq_true rfl) ⟨Nat.le_of_ble_eq_true rfl, Nat.le_of_ble_eq_true rfl⟩ rfl rfl (ctW_row177 (a := a + 5) (n := 96) (tF (by decide) (show (uI (uI (uI (uI σ.1 346 176 (nI (a + 1))) 321 176 (σ.1 321 176)) 346 176 (nI (a + 2))) 323 176 (σ.1 323 176)) 347 176 = 1 from (uI_f (by decide)).trans ((uI_f (by decide)).trans ((uI_f (by decide)).trans ((uI_f (by decide)).trans h1))))) tG (by omega) (by omega)) ?_
  intro σ40 hp_40
  obtain ⟨h4, rfl, p3, p4⟩ := hp_40
  try dsimp only
  refine aw_aload_n dX10_passAll_43 rfl ?_
  refine aw_aload_n dX10_passAll_44 rfl ?_
  refine gf10_boxes dX10_passAll_45 kf10_13 k_176 ?_
  refine aw_eqr (b := 178) rfl ?_
  refine aw_bi (nI 80) dX10_passAll_48 (by decide) ?_
  refine cvv2 dX10_passAll_50 km10_276 ok_X10_passRow rfl rfl (by decide) k_176 (Nat.le_of_ble_eq_true rfl) ⟨Nat.le_of_ble_eq_true rfl, Nat.le_of_ble_eq_true rfl⟩ rfl rfl (ctW_row178 (a := a + 101) (n := 80) (tF (by decide) (show uI (uI (uI (uI (uI σ.1 346 176 (nI (a + 1))) 321 176 (σ.1 321 176)) 346 176 (nI (a + 2))) 323 176 (σ.1 323 176)) 346 176 (nI (a + 2 + 3)) 347 176 = 1 from (uI_f (by decide)).trans ((uI_f (by decide)).trans ((uI_f (by decide)).trans ((uI_f (by decide)).trans ((uI_f (by decide)).trans h1)))))) tG (by omega) (by omega)) ?_
  intro σ50 hp_50
  obtain ⟨h5, rfl, p5, p6⟩ := hp_50
  try dsimp only
  exact aw_ret dX10_passAll_53 (by
      refine ⟨_, h5, by rw [uA_uA, uA_uA, uA_uA], fun f q hf => ?_, ?_, ?_, fun k hk => ?_, fun k hk => ?_, fun k hk => ?_, fun x hx => ?_⟩
      · rw [uI_uI, uI_uI]
        by_cases z : f = 346 ∧ q = 176
        · omega
        · unfold uI
          rw [if_neg z]
          by_cases y : f = 323 ∧ q = 176
          · rw [if_pos y, y.1, y.2]
          · rw [if_neg y, if_neg z]
            by_cases u : f = 321 ∧ q = 176
            · rw [if_pos u, u.1, u.2]
            · rw [if_neg u, if_neg z]
      · exact (p6 _ (by omega)).trans (tS ((p4 _ (by omega)).trans (tS ((p2 _ (by omega)).trans (tS ((pk_un (by omega)).trans pk_us))))))
      · exact (p6 _ (by omega)).trans (tS ((p4 _ (by omega)).trans (tS ((p2 _ (by omega)).trans (tS pk_us)))))
      · exact (p6 _ (by omega)).trans (tS ((p4 _ (by omega)).trans (tS ((p1 k hk).trans (tA (by decide) rfl)))))
      · exact (p6 _ (by omega)).trans (tS ((p3 k hk).trans (tA (by decide) (nB (by decide) rfl))))
      · exact (p5 k hk).trans (tA (by decide) (nB (by decide) (nB (by decide) rfl)))
      · exact (p6 _ (by omega)).trans (tS ((p4 _ (by omega)).trans (tS ((p2 _ (by omega)).trans (tS ((pk_un (by omega)).trans (pk_un (by omega)))))))))

set_option maxHeartbeats 4000000 in
set_option maxRecDepth 100000 in
theorem ctR_passAll {g : GG} {σ : SG} {a : Nat} (h1 : σ.1 347 176 = 0) (hat : σ.1 346 176 = nI a) (ha : a + 181 ≤ 362) : Ctv g yX10_passAll cX10_passAll 1 (rmm 2 45) [.ref (ad g 176)] σ (fun σ' => ∃ J B, σ' = (J, B, σ.2.2) ∧ (∀ f q, q ≠ 176 → J f q = σ.1 f q) ∧ J 321 176 = σ.2.1 192 a ∧ J 323 176 = σ.2.1 192 (a + 1) ∧ (∀ k, k < 3 → B 179 k = σ.2.1 192 (a + 2 + k)) ∧ (∀ k, k < 96 → B 177 k = σ.2.1 192 (a + 5 + k)) ∧ (∀ k, k < 80 → B 178 k = σ.2.1 192 (a + 101 + k)) ∧ ∀ q, (q < 177 ∨ 179 < q) → B q = σ.2.1 q) := by
  refine ct_of (own := RX10) (lv := [some (.ref (ad g 176))]) rfl (by decide) (Nat.le_of_ble_eq_true rfl) (by intro u hu; simp only [List.mem_cons, List.not_mem_nil, or_false] at hu; rcases hu with rfl <;> rfl) (lv_ok [.ref (ad g 176)] 0) ?_
  refine aw_aload_n dX10_passAll_0 rfl ?_
  refine aw_aload_n dX10_passAll_1 rfl ?_
  refine aw_aload_n dX10_passAll_2 rfl ?_
  refine gf10_drawnMany dX10_passAll_3 kf10_80 k_176 ?_
  refine cvi1 dX10_passAll_6 km10_273 ok_X10_pass rfl rfl (by decide) k_176 (Nat.le_of_ble_eq_true rfl) ⟨Nat.le_of_ble_eq_true rfl, Nat.le_of_ble_eq_true rfl⟩ rfl rfl (ctR_pass (a := a) _ h1 hat (by omega)) ?_
  intro r6 σ6 hp_6
  obtain ⟨rfl, rfl⟩ := hp_6
  try dsimp only
  refine pf10_drawnMany dX10_passAll_9 kf10_80 k_176 ?_
  refine aw_aload_n dX10_passAll_12 rfl ?_
  refine aw_aload_n dX10_passAll_13 rfl ?_
  refine aw_aload_n dX10_passAll_14 rfl ?_
  refine gf10_boxMany dX10_passAll_15 kf10_92 k_176 ?_
  refine cvi1 dX10_passAll_18 km10_273 ok_X10_pass rfl rfl (by decide) k_176 (Nat.le_of_ble_eq_true rfl) ⟨Nat.le_of_ble_eq_true rfl, Nat.le_of_ble_eq_true rfl⟩ rfl rfl (ctR_pass (a := a + 1) _ (tF (by decide) (show uI σ.1 346 176 (nI (a + 1)) 347 176 = 0 from (uI_f (by decide)).trans h1)) (tF (by decide) (uI_s _ _ _ _)) (by omega)) ?_
  intro r18 σ18 hp_18
  obtain ⟨rfl, rfl⟩ := hp_18
  try dsimp only
  refine pf10_boxMany dX10_passAll_21 kf10_92 k_176 ?_
  refine aw_sg (show _ = (uI (uI (uI (uI σ.1 346 176 (nI (a + 1))) 321 176 (σ.2.1 192 a)) 346 176 (nI (a + 2))) 323 176 (σ.2.1 192 (a + 1)), σ.2.1, σ.2.2) from rfl) ?_
  refine aw_aload_n dX10_passAll_24 rfl ?_
  refine aw_aload_n dX10_passAll_25 rfl ?_
  refine gf10_how dX10_passAll_26 kf10_16 k_176 ?_
  refine aw_eqr (b := 179) rfl ?_
  refine aw_ic (nI 3) dX10_passAll_29 (by decide) ?_
  refine cvv2 dX10_passAll_30 km10_276 ok_X10_passRow rfl rfl (by decide) k_176 (Nat.le_of_ble_eq_true rfl) ⟨Nat.le_of_ble_eq_true rfl, Nat.le_of_ble_eq_true rfl⟩ rfl rfl (ctR_row179 (a := a + 2) (n := 3) (show (uI (uI (uI (uI σ.1 346 176 (nI (a + 1))) 321 176 (σ.2.1 192 a)) 346 176 (nI (a + 2))) 323 176 (σ.2.1 192 (a + 1))) 347 176 = 0 from (uI_f (by decide)).trans ((uI_f (by decide)).trans ((uI_f (by decide)).trans ((uI_f (by decide)).trans h1)))) (show (uI (uI (uI (uI σ.1 346 176 (nI (a + 1))) 321 176 (σ.2.1 192 a)) 346 176 (nI (a + 2))) 323 176 (σ.2.1 192 (a + 1))) 346 176 = nI (a + 2) from (uI_f (by decide)).trans (uI_s _ _ _ _)) (by omega) (by omega)) ?_
  intro σ30 hp_30
  obtain ⟨h3, rfl, p1⟩ := hp_30
  try dsimp only
  refine aw_aload_n dX10_passAll_33 rfl ?_
  refine aw_aload_n dX10_passAll_34 rfl ?_
  refine gf10_drawn dX10_passAll_35 kf10_7 k_176 ?_
  refine aw_eqr (b := 177) rfl ?_
  refine aw_bi (nI 96) dX10_passAll_38 (by decide) ?_
  refine cvv2 dX10_passAll_40 km10_276 ok_X10_passRow rfl rfl (by decide) k_176 (Nat.le_of_ble_eq_true rfl) ⟨Nat.le_of_ble_eq_true rfl, Nat.le_of_ble_eq_true rfl⟩ rfl rfl (ctR_row177 (a := a + 5) (n := 96) (tF (by decide) (show (uI (uI (uI (uI σ.1 346 176 (nI (a + 1))) 321 176 (σ.2.1 192 a)) 346 176 (nI (a + 2))) 323 176 (σ.2.1 192 (a + 1))) 347 176 = 0 from (uI_f (by decide)).trans ((uI_f (by decide)).trans ((uI_f (by decide)).trans ((uI_f (by decide)).trans h1))))) tG (by omega) (by omega)) ?_
  intro σ40 hp_40
  obtain ⟨h4, rfl, p3⟩ := hp_40
  try dsimp only
  refine aw_aload_n dX10_passAll_43 rfl ?_
  refine aw_aload_n dX10_passAll_44 rfl ?_
  refine gf10_boxes dX10_passAll_45 kf10_13 k_176 ?_
  refine aw_eqr (b := 178) rfl ?_
  refine aw_bi (nI 80) dX10_passAll_48 (by decide) ?_
  refine cvv2 dX10_passAll_50 km10_276 ok_X10_passRow rfl rfl (by decide) k_176 (Nat.le_of_ble_eq_true rfl) ⟨Nat.le_of_ble_eq_true rfl, Nat.le_of_ble_eq_true rfl⟩ rfl rfl (ctR_row178 (a := a + 101) (n := 80) (tF (by decide) (show uI (uI (uI (uI (uI σ.1 346 176 (nI (a + 1))) 321 176 (σ.2.1 192 a)) 346 176 (nI (a + 2))) 323 176 (σ.2.1 192 (a + 1))) 346 176 (nI (a + 2 + 3)) 347 176 = 0 from (uI_f (by decide)).trans ((uI_f (by decide)).trans ((uI_f (by decide)).trans ((uI_f (by decide)).trans ((uI_f (by decide)).trans h1)))))) tG (by omega) (by omega)) ?_
  intro σ50 hp_50
  obtain ⟨h5, rfl, p5⟩ := hp_50
  try dsimp only
  exact aw_ret dX10_passAll_53 (by
      refine ⟨_, _, rfl, fun f q hq => ?_, ?_, ?_, fun k hk => ?_, fun k hk => ?_, fun k hk => ?_, fun q hq => ?_⟩
      · rw [uI_k hq, uI_k hq, uI_k hq, uI_k hq, uI_k hq, uI_k hq, uI_k hq]
      · rw [uI_f (by decide), uI_f (by decide), uI_f (by decide), uI_f (by decide), uI_f (by decide), uI_s]
      · rw [uI_f (by decide), uI_f (by decide), uI_f (by decide), uI_s]
      · exact nB (by decide) (nB (by decide) (sB (p1 k hk)))
      · exact nB (by decide) (sB ((p3 k hk).trans (tA (by decide) rfl)))
      · exact sB ((p5 k hk).trans (tA (by decide) (nB (by decide) rfl)))
      · rw [uA_n (by omega), uA_n (by omega), uA_n (by omega)])

theorem FnS.ex {σ : SG} {P : Pg} {J B : Nat → Nat → Int32} (h : FnS σ P) (h1 : J 328 176 = σ.1 328 176) (h2 : J 330 176 = σ.1 330 176) (hB : ∀ q, 181 ≤ q → q ≤ 190 → B q = σ.2.1 q) : FnS (J, B, σ.2.2) P := by
  unfold FnS at h ⊢
  rw [show ((J, B, σ.2.2) : SG).1 = J from rfl, show ((J, B, σ.2.2) : SG).2.1 = B from rfl, h1, h2, hB 181 (by decide) (by decide), hB 182 (by decide) (by decide), hB 183 (by decide) (by decide), hB 184 (by decide) (by decide), hB 185 (by decide) (by decide), hB 186 (by decide) (by decide), hB 187 (by decide) (by decide), hB 188 (by decide) (by decide), hB 189 (by decide) (by decide), hB 190 (by decide) (by decide)]
  exact h
theorem ImS.k2 {σ : SG} {J B : Nat → Nat → Int32} {k : Nat} {o : Option Pg} (h : ImS σ k o) (h1 : B 193 k = σ.2.1 193 k) (h2 : ∀ x, 181 * k ≤ x → x < 181 * k + 181 → B 192 x = σ.2.1 192 x) : ImS (J, B, σ.2.2) k o := by
  cases o with
  | none => exact h1.trans h
  | some P =>
    obtain ⟨a, b, c, d, ⟨e, f, g⟩, p, w⟩ := h
    have hc := b.1
    have hw := b.2.2.1
    exact ⟨h1.trans a, b, (h2 _ (by omega) (by omega)).trans c, (h2 _ (by omega) (by omega)).trans d, ⟨(h2 _ (by omega) (by omega)).trans e, (h2 _ (by omega) (by omega)).trans f, (h2 _ (by omega) (by omega)).trans g⟩, fun x y hx hy => (h2 _ (by omega) (by omega)).trans (p x y hx hy), fun x y hx hy => (h2 _ (by omega) (by omega)).trans (w x y hx hy)⟩
set_option maxHeartbeats 4000000 in
set_option maxRecDepth 100000 in
theorem ctM_image {g : GG} {σ : SG} {S : Sp} (hI : InvM σ S) (k : Int32) : Cti g yX10_image cX10_image 2 (some .int) (rmm 3 65) [.ref (ad g 176), .int k] σ (PoM σ (sImage S k)) := by
  refine ct_of (own := RX10) (lv := [some (.ref (ad g 176)), some (.int k)]) rfl (by decide) (Nat.le_of_ble_eq_true rfl) (by intro u hu; simp only [List.mem_cons, List.not_mem_nil, or_false] at hu; rcases hu with rfl | rfl <;> rfl) (lv_ok [.ref (ad g 176), .int k] 0) ?_
  obtain ⟨⟨hc, hp, hcw, hw9, hs0, hs1, hs2⟩, hV, hIm, hFn⟩ := id hI
  have hl193 := l_193
  have hc24 := hV.1
  have hw20 := hV.2.2.1
  rcases ix_cases k (n := 2) (by decide) with ⟨h, e⟩ | ⟨i, hi, rfl, e⟩
  · skip
    refine aw_iload_n dX10_image_0 rfl ?_
    refine aw_i2l dX10_image_1 ?_
    refine aw_lconst dX10_image_2 ?_
    refine aw_lconst dX10_image_3 ?_
    refine csq3 dX10_image_4 km10_64 ok_X10_in (Nat.le_of_ble_eq_true rfl) ⟨Nat.le_of_ble_eq_true rfl, Nat.le_of_ble_eq_true rfl⟩ rfl rfl (ct_inN _ 2 (by decide) (by decide) (by decide)) ?_
    refine aw_if_neB dX10_image_7 rfl (fun h_7 => absurd h_7 (ix_no rfl h)) (fun h_7 => ?_)
    refine aw_bi (-2) dX10_image_10 (by decide) ?_
    exact aw_ireti dX10_image_12 (PoM.mk (by unfold sImage; rw [e]) hI (FrM.refl σ))
  · skip
    refine aw_iload_n dX10_image_0 rfl ?_
    refine aw_i2l dX10_image_1 ?_
    refine aw_lconst dX10_image_2 ?_
    refine aw_lconst dX10_image_3 ?_
    refine csq3 dX10_image_4 km10_64 ok_X10_in (Nat.le_of_ble_eq_true rfl) ⟨Nat.le_of_ble_eq_true rfl, Nat.le_of_ble_eq_true rfl⟩ rfl rfl (ct_inN _ 2 (by decide) (by decide) (by decide)) ?_
    refine aw_if_neB dX10_image_7 rfl (fun h_7 => ?_) (fun h_7 => absurd h_7 (not_not_intro (ix_yes rfl hi (by omega))))
    refine aw_aload_n dX10_image_13 rfl ?_
    refine aw_si (nI 181) dX10_image_14 (by decide) ?_
    refine aw_iload_n dX10_image_17 rfl ?_
    refine aw_imul dX10_image_18 ?_
    refine aw_eq (show _ = nI (181 * i) by rw [pk_mul]) ?_
    refine pf10_keptAt dX10_image_19 kf10_270 k_176 ?_
    refine aw_aload_n dX10_image_22 rfl ?_
    refine aw_ic (nI 1) dX10_image_23 (by decide) ?_
    refine pf10_isWriting dX10_image_24 kf10_267 k_176 (by decide) ?_
    refine aw_aload_n dX10_image_27 rfl ?_
    refine cvv0 dX10_image_28 km10_280 ok_X10_passAll rfl rfl (by decide) k_176 (Nat.le_of_ble_eq_true rfl) ⟨Nat.le_of_ble_eq_true rfl, Nat.le_of_ble_eq_true rfl⟩ rfl rfl (ctW_passAll (a := 181 * i) tG (tF (by decide) (uI_s _ _ _ _)) (by omega)) ?_
    intro σ1 hp_28
    obtain ⟨J, h9, rfl, j1, m1, m2, m3, m4, m5, m6⟩ := hp_28
    dsimp only at j1 m1 m2 m3 m4 m5 m6
    try dsimp only
    refine aw_aload_n dX10_image_31 rfl ?_
    refine gf10_isKept dX10_image_32 kf10_58 k_176 ?_
    refine aw_eqr (b := 193) rfl ?_
    refine aw_iload_n dX10_image_35 rfl ?_
    refine aw_ic (nI 1) dX10_image_36 (by decide) ?_
    refine aw_zsto (i) dX10_image_37 k_193 (rfl) (by omega) (by decide) ?_
    refine aw_ic (nI 1) dX10_image_38 (by decide) ?_
    exact aw_ireti dX10_image_39 (by
        have jf : ∀ f q, f ≠ 346 → f ≠ 347 → J f q = σ.1 f q := fun f q a b => (j1 f q (Or.inl a)).trans ((uI_f b).trans (uI_f a))
        have jq : ∀ f q, q ≠ 176 → J f q = σ.1 f q := fun f q a => (j1 f q (Or.inr a)).trans ((uI_k a).trans (uI_k a))
        have bq : ∀ q, q ≠ 192 → q ≠ 193 → uA (uA σ.2.1 192 h9) 193 (upd (uA σ.2.1 192 h9 193) i (nI 1)) q = σ.2.1 q := fun q a b => (uA_n b).trans (uA_n a)
        refine PoM.mk (S := (S.1, fun j => if j = i then some S.1 else S.2 j)) (by unfold sImage; rw [e]; rfl) ⟨PgS.mk9 ((jf 321 176 (by decide) (by decide)).trans hc) (fun p w a b => (congrFun (bq 177 (by decide) (by decide)) _).trans (hp p w a b)) ((jf 323 176 (by decide) (by decide)).trans hcw) (fun p w a b => (congrFun (bq 178 (by decide) (by decide)) _).trans (hw9 p w a b)) ((congrFun (bq 179 (by decide) (by decide)) _).trans hs0) ((congrFun (bq 179 (by decide) (by decide)) _).trans hs1) ((congrFun (bq 179 (by decide) (by decide)) _).trans hs2), hV, fun k hk => ?_, ?_⟩ ⟨rfl, fun f q hq => jq f q (by omega), fun q hq => bq q (by omega) (by omega)⟩
        · by_cases z : k = i
          · subst z
            show ImS _ k (if k = k then some S.1 else S.2 k)
            rw [if_pos rfl]
            exact ⟨tS pk_us, hV, tA (by decide) (sB (m1.trans ((uI_f (by decide)).trans ((uI_f (by decide)).trans hc)))), tA (by decide) (sB (m2.trans ((uI_f (by decide)).trans ((uI_f (by decide)).trans hcw)))), ⟨tA (by decide) (sB ((m3 0 (by decide)).trans hs0)), tA (by decide) (sB ((m3 1 (by decide)).trans hs1)), tA (by decide) (sB ((m3 2 (by decide)).trans hs2))⟩, fun p w a b => tA (by decide) (sB ((m4 _ (by omega)).trans (hp p w a b))), fun p w a b => tA (by decide) (sB ((m5 _ (by omega)).trans (hw9 p w a b)))⟩
          · show ImS _ k (if k = i then some S.1 else S.2 k)
            rw [if_neg z]
            exact (hIm k hk).k2 (sB ((pk_un z).trans (congrFun (uA_n (by decide)) k))) (fun x a b => nB (by decide) (sB (m6 x (by omega))))
        · rcases hFn with z | ⟨z, y⟩
          · exact Or.inl ((jf 325 176 (by decide) (by decide)).trans z)
          · exact Or.inr ⟨(jf 325 176 (by decide) (by decide)).trans z, y.ex (jf 328 176 (by decide) (by decide)) (jf 330 176 (by decide) (by decide)) (fun q a b => bq q (by omega) (by omega))⟩)

set_option maxHeartbeats 4000000 in
set_option maxRecDepth 100000 in
theorem ctM_restore {g : GG} {σ : SG} {S : Sp} (hI : InvM σ S) (k : Int32) : Cti g yX10_restore cX10_restore 2 (some .int) (rmm 3 65) [.ref (ad g 176), .int k] σ (PoM σ (sRestore S k)) := by
  refine ct_of (own := RX10) (lv := [some (.ref (ad g 176)), some (.int k)]) rfl (by decide) (Nat.le_of_ble_eq_true rfl) (by intro u hu; simp only [List.mem_cons, List.not_mem_nil, or_false] at hu; rcases hu with rfl | rfl <;> rfl) (lv_ok [.ref (ad g 176), .int k] 0) ?_
  obtain ⟨⟨hc, hp, hcw, hw9, hs0, hs1, hs2⟩, hV, hIm, hFn⟩ := id hI
  have hl193 := l_193
  have hc24 := hV.1
  have hw20 := hV.2.2.1
  rcases ix_cases k (n := 2) (by decide) with ⟨h, e⟩ | ⟨i, hi, rfl, e⟩
  · skip
    refine aw_iload_n dX10_restore_0 rfl ?_
    refine aw_i2l dX10_restore_1 ?_
    refine aw_lconst dX10_restore_2 ?_
    refine aw_lconst dX10_restore_3 ?_
    refine csq3 dX10_restore_4 km10_64 ok_X10_in (Nat.le_of_ble_eq_true rfl) ⟨Nat.le_of_ble_eq_true rfl, Nat.le_of_ble_eq_true rfl⟩ rfl rfl (ct_inN _ 2 (by decide) (by decide) (by decide)) ?_
    refine aw_if_neB dX10_restore_7 rfl (fun h_7 => absurd h_7 (ix_no rfl h)) (fun h_7 => ?_)
    refine aw_bi (-2) dX10_restore_10 (by decide) ?_
    exact aw_ireti dX10_restore_12 (PoM.mk (by unfold sRestore; rw [e]) hI (FrM.refl σ))
  · skip
    have him := hIm i hi
    rcases es : S.2 i with _ | Q
    · skip
      rw [es] at him
      refine aw_iload_n dX10_restore_0 rfl ?_
      refine aw_i2l dX10_restore_1 ?_
      refine aw_lconst dX10_restore_2 ?_
      refine aw_lconst dX10_restore_3 ?_
      refine csq3 dX10_restore_4 km10_64 ok_X10_in (Nat.le_of_ble_eq_true rfl) ⟨Nat.le_of_ble_eq_true rfl, Nat.le_of_ble_eq_true rfl⟩ rfl rfl (ct_inN _ 2 (by decide) (by decide) (by decide)) ?_
      refine aw_if_neB dX10_restore_7 rfl (fun h_7 => ?_) (fun h_7 => absurd h_7 (not_not_intro (ix_yes rfl hi (by omega))))
      refine aw_aload_n dX10_restore_13 rfl ?_
      refine gf10_isKept dX10_restore_14 kf10_58 k_176 ?_
      refine aw_eqr (b := 193) rfl ?_
      refine aw_iload_n dX10_restore_17 rfl ?_
      refine aw_zld (i) dX10_restore_18 k_193 (rfl) (by omega) ?_
      refine aw_eq (show _ = 0 from him) ?_
      refine aw_if_ne dX10_restore_19 (fun h_19 => absurd h_19 (fun z => z rfl)) (fun h_19 => ?_)
      refine aw_bi (-3) dX10_restore_22 (by decide) ?_
      exact aw_ireti dX10_restore_24 (PoM.mk (by unfold sRestore; rw [e]; dsimp only; rw [es]) hI (FrM.refl σ))
    · skip
      rw [es] at him
      obtain ⟨a, b, c, d, ⟨s1, s2, s3⟩, y1, y2⟩ := him
      have hq1 := b.1
      have hq2 := b.2.2.1
      refine aw_iload_n dX10_restore_0 rfl ?_
      refine aw_i2l dX10_restore_1 ?_
      refine aw_lconst dX10_restore_2 ?_
      refine aw_lconst dX10_restore_3 ?_
      refine csq3 dX10_restore_4 km10_64 ok_X10_in (Nat.le_of_ble_eq_true rfl) ⟨Nat.le_of_ble_eq_true rfl, Nat.le_of_ble_eq_true rfl⟩ rfl rfl (ct_inN _ 2 (by decide) (by decide) (by decide)) ?_
      refine aw_if_neB dX10_restore_7 rfl (fun h_7 => ?_) (fun h_7 => absurd h_7 (not_not_intro (ix_yes rfl hi (by omega))))
      refine aw_aload_n dX10_restore_13 rfl ?_
      refine gf10_isKept dX10_restore_14 kf10_58 k_176 ?_
      refine aw_eqr (b := 193) rfl ?_
      refine aw_iload_n dX10_restore_17 rfl ?_
      refine aw_zld (i) dX10_restore_18 k_193 (rfl) (by omega) ?_
      refine aw_eq a ?_
      refine aw_if_ne dX10_restore_19 (fun h_19 => ?_) (fun h_19 => absurd h_19 (by decide))
      refine aw_aload_n dX10_restore_25 rfl ?_
      refine aw_si (nI 181) dX10_restore_26 (by decide) ?_
      refine aw_iload_n dX10_restore_29 rfl ?_
      refine aw_imul dX10_restore_30 ?_
      refine aw_eq (show _ = nI (181 * i) by rw [pk_mul]) ?_
      refine pf10_keptAt dX10_restore_31 kf10_270 k_176 ?_
      refine aw_aload_n dX10_restore_34 rfl ?_
      refine aw_ic (nI 0) dX10_restore_35 (by decide) ?_
      refine pf10_isWriting dX10_restore_36 kf10_267 k_176 (by decide) ?_
      refine aw_aload_n dX10_restore_39 rfl ?_
      refine cvv0 dX10_restore_40 km10_280 ok_X10_passAll rfl rfl (by decide) k_176 (Nat.le_of_ble_eq_true rfl) ⟨Nat.le_of_ble_eq_true rfl, Nat.le_of_ble_eq_true rfl⟩ rfl rfl (ctR_passAll (a := 181 * i) tG (tF (by decide) (uI_s _ _ _ _)) (by omega)) ?_
      intro σ1 hp_40
      obtain ⟨J, B, rfl, j1, m1, m2, m3, m4, m5, m6⟩ := hp_40
      dsimp only at j1 m1 m2 m3 m4 m5 m6
      try dsimp only
      refine aw_aload_n dX10_restore_43 rfl ?_
      refine aw_ic (nI 0) dX10_restore_44 (by decide) ?_
      refine pf10_isFound dX10_restore_45 kf10_74 k_176 (by decide) ?_
      refine aw_ic (nI 1) dX10_restore_48 (by decide) ?_
      exact aw_ireti dX10_restore_49 (by
          have jq : ∀ f q, q ≠ 176 → J f q = σ.1 f q := fun f q a => (j1 f q a).trans ((uI_k a).trans (uI_k a))
          refine InvM.pgJ hI (P := Q) (PgS.mk9 ((uI_f (by decide)).trans (m1.trans c)) (fun p w a b => (m4 _ (by omega)).trans (y1 p w a b)) ((uI_f (by decide)).trans (m2.trans d)) (fun p w a b => (m5 _ (by omega)).trans (y2 p w a b)) ((m3 0 (by decide)).trans s1) ((m3 1 (by decide)).trans s2) ((m3 2 (by decide)).trans s3)) b (uI_s _ _ _ _) (fun f q h => (uI_k h).trans (jq f q h)) (fun q h => m6 q (by omega)) (by unfold sRestore; rw [e]; dsimp only; rw [es]; rfl))

