theorem nI_div {a b : Nat} (ha : a < 2 ^ 31) (hb : b < 2 ^ 31) : nI a / nI b = nI (a / b) := by
  have h := Nat.div_le_self a b
  apply Int32.toInt_inj.mp
  rw [Int32.toInt_div, nI_toInt ha, nI_toInt hb, nI_toInt (by omega), ← Int.ofNat_tdiv]
  generalize a / b = q at *
  exact Int.bmod_eq_of_le (by omega) (by omega)
theorem nI_rem {a b : Nat} (ha : a < 2 ^ 31) (hb : b < 2 ^ 31) : nI a - nI a / nI b * nI b = nI (a % b) := by
  rw [nI_div ha hb, pk_mul, pk_sub (Nat.div_mul_le_self a b)]
  refine congrArg nI ?_
  have := Nat.div_add_mod a b
  rw [Nat.mul_comm] at this
  omega
theorem joinL_comm (l : Nat → Nat) (f a b : Nat) : joinL (joinL l f a) f b = joinL (joinL l f b) f a := by
  funext k
  unfold joinL
  repeat' split
  all_goals omega
theorem gN_le {R : Nat → Nat → Nat} {m rc t w : Nat} (hK : FOK R m rc) (ht : t < tbn R m rc) (hw : w < 2) : gN R m rc t w ≤ 22 ∧ 2 ≤ gN R m rc t w := by
  obtain ⟨-, a, b, c, d, -⟩ := (hK.2.2.2 t ht).1
  unfold gN
  rw [show tnr (inN R m rc t) R m = (lnS (inN R m rc t) R m).1 0 - 1 from rfl] at c
  rw [show tnc (inN R m rc t) R m = (lnS (inN R m rc t) R m).1 1 - 1 from rfl] at d
  rcases (by omega : w = 0 ∨ w = 1) with rfl | rfl
  · omega
  · omega
theorem tab_in {R : Nat → Nat → Nat} {m rc t k : Nat} (hm : m ≤ 24) (ht : t < 6) (hk : k < m) : ((if isN R m rc (l2 R m rc k) = true then nI (ctB (isN R m rc) (l2 R m rc k)) else -6) = nI t) ↔ inN R m rc t k = true := by
  have h1 := ctB_le (isN R m rc) (l2 R m rc k)
  have h2 : l2 R m rc k ≤ k := (Lb.labI m).1 k
  unfold inN
  rw [Bool.and_eq_true, decide_eq_true_eq]
  by_cases h : isN R m rc (l2 R m rc k) = true
  · rw [if_pos h]
    constructor
    · intro e
      have := congrArg Int32.toInt e
      rw [nI_toInt (by omega), nI_toInt (by omega)] at this
      exact ⟨h, by omega⟩
    · rintro ⟨-, e⟩
      rw [e]
  · rw [if_neg h]
    constructor
    · intro e
      have := congrArg Int32.toInt e
      rw [nI_toInt (by omega), show (-6 : Int32).toInt = -6 by decide] at this
      omega
    · rintro ⟨e, -⟩
      exact absurd e h
theorem uA_181' (A : Nat → Nat → Int32) (L : Nat → Int32) : uA (uA A 180 L) 181 (A 181) = uA A 180 L := uA_181 A L
theorem col_no {p : Nat → Bool} {i l : Nat} {v : Int32} (h : ¬ p i = true) : (if l < i ∧ p l = true then v else -6) = (if l < i + 1 ∧ p l = true then v else -6) := by
  by_cases e : l = i
  · rw [e, if_neg (fun u => h u.2), if_neg (fun u => h u.2)]
  · by_cases z : l < i ∧ p l = true
    · rw [if_pos z, if_pos ⟨by omega, z.2⟩]
    · rw [if_neg z, if_neg (fun u => z ⟨by omega, u.2⟩)]
theorem col_ne {p : Nat → Bool} {i l : Nat} {v : Int32} (h : ¬ l = i) : (if l < i ∧ p l = true then v else -6) = (if l < i + 1 ∧ p l = true then v else -6) := by
  by_cases z : l < i ∧ p l = true
  · rw [if_pos z, if_pos ⟨by omega, z.2⟩]
  · rw [if_neg z, if_neg (fun u => z ⟨by omega, u.2⟩)]
set_option maxHeartbeats 4000000 in
set_option maxRecDepth 100000 in
theorem ct_findTables {g : GG} {σ : SG} {m rc : Nat} {R : Nat → Nat → Nat} (hm : σ.1 328 176 = nI m) (hR : ∀ r k, r < m → k < 6 → σ.2.1 181 (7 * r + k) = nI (R r k)) (hB : ∀ r k, r < m → k < 6 → R r k ≤ 99) (hm24 : m ≤ 24) (h6 : ∀ r, r < m → σ.2.1 181 (7 * r + 6) = -6) (hs : σ.2.1 179 2 = nI rc) (hrc : rc ≤ 5) (hK : FOK R m rc) : Ctv g yX10_findTables cX10_findTables 3 (rmm 3 66) [.ref (ad g 176)] σ (fun σ' => ∃ L h h3 h4, σ' = (uI σ.1 330 176 (nI (tbn R m rc)), uA (uA (uA (uA σ.2.1 180 L) 181 h) 183 h3) 184 h4, σ.2.2) ∧ (∀ r k, r < m → k < 6 → h (7 * r + k) = nI (R r k)) ∧ (∀ e, e < m → h (7 * e + 6) = (if isN R m rc (l2 R m rc e) = true then nI (ctB (isN R m rc) (l2 R m rc e)) else -6)) ∧ (∀ t w, t < tbn R m rc → w < 2 → h4 (2 * t + w) = nI (gN R m rc t w) ∧ ∀ l, l < gN R m rc t w → h3 (44 * t + 22 * w + l) = nI (gPl R m rc t w l))) := by
  refine ct_of (own := RX10) (lv := [some (.ref (ad g 176)), none, none]) rfl (by decide) (Nat.le_of_ble_eq_true rfl) (by intro u hu; simp only [List.mem_cons, List.not_mem_nil, or_false] at hu; rcases hu with rfl <;> rfl) (lv_ok [.ref (ad g 176)] 2) ?_
  have hl180 := l_180
  have hl181 := l_181
  refine aw_aload_n dX10_findTables_0 rfl ?_
  refine aw_aload_n dX10_findTables_1 rfl ?_
  refine gf10_ruleMany dX10_findTables_2 kf10_105 k_176 ?_
  refine aw_eq hm ?_
  refine cvv1 dX10_findTables_5 km10_115 ok_X10_begin rfl rfl (by decide) k_176 (Nat.le_of_ble_eq_true rfl) ⟨Nat.le_of_ble_eq_true rfl, Nat.le_of_ble_eq_true rfl⟩ rfl rfl (ct_begin (n := m) (by omega)) ?_
  intro σ1 hp_5
  obtain ⟨L, rfl, hL⟩ := hp_5
  refine aw_ic (nI 0) dX10_findTables_8 (by decide) ?_
  refine aw_istore_n dX10_findTables_9 (Nat.le_of_ble_eq_true rfl) ?_
  refine for_ux (fun i σ' lv' => ∃ L x, σ' = (σ.1, uA σ.2.1 180 L, σ.2.2) ∧ (∀ k, k < m → L k = nI (labI (fun i j => crossN (R i) (R j) rc) i k)) ∧ lv' = [some (.ref (ad g 176)), some (.int (nI i)), x]) (m) ?_ ?_ (0) _ _ (by omega) (⟨L, _, rfl, hL, rfl⟩)
  · rintro i σ2 lv2 hi ⟨L, x, rfl, hL, rfl⟩ ih
    refine aw_iload_n dX10_findTables_10 rfl ?_
    refine aw_aload_n dX10_findTables_11 rfl ?_
    refine gf10_ruleMany dX10_findTables_12 kf10_105 k_176 ?_
    refine aw_eq hm ?_
    refine aw_icmp_geN dX10_findTables_15 rfl rfl (by omega) (by omega) (fun h_15 => absurd h_15 (by omega)) (fun h_15 => ?_)
    refine aw_ic (nI 0) dX10_findTables_18 (by decide) ?_
    refine aw_istore_n dX10_findTables_19 (Nat.le_of_ble_eq_true rfl) ?_
    refine for_ux (fun j σ' lv' => ∃ L, σ' = (σ.1, uA σ.2.1 180 L, σ.2.2) ∧ (∀ k, k < m → L k = nI (labJ (fun i j => crossN (R i) (R j) rc) (labI (fun i j => crossN (R i) (R j) rc) i) i j k)) ∧ lv' = [some (.ref (ad g 176)), some (.int (nI i)), some (.int (nI j))]) (i) ?_ ?_ (0) _ _ (by omega) (⟨L, rfl, hL, rfl⟩)
    · rintro j σ3 lv2 hj ⟨L, rfl, hL, rfl⟩ ih2
      by_cases hn : crossN (R i) (R j) rc = true
      · skip
        have hi : i < m := hi
        refine aw_iload_n dX10_findTables_20 rfl ?_
        refine aw_iload_n dX10_findTables_21 rfl ?_
        refine aw_icmp_geN dX10_findTables_22 rfl rfl (by omega) (by omega) (fun h_22 => absurd h_22 (by omega)) (fun h_22 => ?_)
        refine aw_aload_n dX10_findTables_25 rfl ?_
        refine aw_iload_n dX10_findTables_26 rfl ?_
        refine aw_iload_n dX10_findTables_27 rfl ?_
        refine cqi2 dX10_findTables_28 km10_135 ok_X10_isCross rfl rfl (by decide) k_176 (Nat.le_of_ble_eq_true rfl) ⟨Nat.le_of_ble_eq_true rfl, Nat.le_of_ble_eq_true rfl⟩ rfl rfl (ct_isCross (m := m) (R := R) (rc := rc) (fun r k h1 h2 => tA (by decide) (hR r k h1 h2)) hB hm24 (tA (by decide) hs) hrc hi (by omega)) ?_
        refine aw_if_eqB dX10_findTables_31 rfl (fun h_31 => absurd h_31 (not_not_intro hn)) (fun h_31 => ?_)
        refine aw_aload_n dX10_findTables_34 rfl ?_
        refine aw_iload_n dX10_findTables_35 rfl ?_
        refine aw_iload_n dX10_findTables_36 rfl ?_
        refine aw_aload_n dX10_findTables_37 rfl ?_
        refine gf10_ruleMany dX10_findTables_38 kf10_105 k_176 ?_
        refine aw_eq hm ?_
        refine cvv3 dX10_findTables_41 km10_122 ok_X10_join rfl rfl (by decide) k_176 (Nat.le_of_ble_eq_true rfl) ⟨Nat.le_of_ble_eq_true rfl, Nat.le_of_ble_eq_true rfl⟩ rfl rfl (ct_join (n := m) (fun k hk => tS (hL k hk)) ((Lb.labJ (Lb.labI i) i j).1) hi (by omega) (by omega)) ?_
        intro σ1 hp_41
        obtain ⟨L2, rfl, hL2⟩ := hp_41
        refine aw_inc (nI (j + 1)) dX10_findTables_44 rfl (Nat.le_of_ble_eq_true rfl) (nI_1 j) ?_
        refine aw_goto dX10_findTables_47 ?_
        exact ih2 _ _ ⟨L2, by rw [uA_uA], fun k hk => by rw [hL2 k hk, labJ_y (r := (fun i j => crossN (R i) (R j) rc)) hn], rfl⟩
      · skip
        have hi : i < m := hi
        refine aw_iload_n dX10_findTables_20 rfl ?_
        refine aw_iload_n dX10_findTables_21 rfl ?_
        refine aw_icmp_geN dX10_findTables_22 rfl rfl (by omega) (by omega) (fun h_22 => absurd h_22 (by omega)) (fun h_22 => ?_)
        refine aw_aload_n dX10_findTables_25 rfl ?_
        refine aw_iload_n dX10_findTables_26 rfl ?_
        refine aw_iload_n dX10_findTables_27 rfl ?_
        refine cqi2 dX10_findTables_28 km10_135 ok_X10_isCross rfl rfl (by decide) k_176 (Nat.le_of_ble_eq_true rfl) ⟨Nat.le_of_ble_eq_true rfl, Nat.le_of_ble_eq_true rfl⟩ rfl rfl (ct_isCross (m := m) (R := R) (rc := rc) (fun r k h1 h2 => tA (by decide) (hR r k h1 h2)) hB hm24 (tA (by decide) hs) hrc hi (by omega)) ?_
        refine aw_if_eqB dX10_findTables_31 rfl (fun h_31 => ?_) (fun h_31 => absurd h_31 (hn))
        refine aw_inc (nI (j + 1)) dX10_findTables_44 rfl (Nat.le_of_ble_eq_true rfl) (nI_1 j) ?_
        refine aw_goto dX10_findTables_47 ?_
        exact ih2 _ _ ⟨L, rfl, fun k hk => by rw [hL k hk, labJ_n (r := (fun i j => crossN (R i) (R j) rc)) hn], rfl⟩
    · rintro σ3 lv2 ⟨L, rfl, hL, rfl⟩
      refine aw_iload_n dX10_findTables_20 rfl ?_
      refine aw_iload_n dX10_findTables_21 rfl ?_
      refine aw_icmp_geN dX10_findTables_22 rfl rfl (by omega) (by omega) (fun h_22 => ?_) (fun h_22 => absurd h_22 (by omega))
      refine aw_inc (nI (i + 1)) dX10_findTables_50 rfl (Nat.le_of_ble_eq_true rfl) (nI_1 i) ?_
      refine aw_goto dX10_findTables_53 ?_
      exact ih _ _ ⟨L, _, rfl, hL, rfl⟩
  · rintro σ2 lv2 ⟨L, x, rfl, hL, rfl⟩
    have hLb : Lb (l2 R m rc) := Lb.labI m
    have hL : ∀ k, k < m → L k = nI (l2 R m rc k) := hL
    refine aw_iload_n dX10_findTables_10 rfl ?_
    refine aw_aload_n dX10_findTables_11 rfl ?_
    refine gf10_ruleMany dX10_findTables_12 kf10_105 k_176 ?_
    refine aw_eq hm ?_
    refine aw_icmp_geN dX10_findTables_15 rfl rfl (by omega) (by omega) (fun h_15 => ?_) (fun h_15 => absurd h_15 (by omega))
    refine aw_aload_n dX10_findTables_56 rfl ?_
    refine aw_ic (nI 0) dX10_findTables_57 (by decide) ?_
    refine pf10_tableMany dX10_findTables_58 kf10_138 k_176 ?_
    refine aw_ic (nI 0) dX10_findTables_61 (by decide) ?_
    refine aw_istore_n dX10_findTables_62 (Nat.le_of_ble_eq_true rfl) ?_
    refine for_ux (fun i σ' lv' => ∃ h x, σ' = (uI σ.1 330 176 (nI (ctB (isN R m rc) i)), uA (uA σ.2.1 180 L) 181 h, σ.2.2) ∧ (∀ r k, r < m → k < 6 → h (7 * r + k) = nI (R r k)) ∧ (∀ e, e < m → h (7 * e + 6) = (if l2 R m rc e < i ∧ isN R m rc (l2 R m rc e) = true then nI (ctB (isN R m rc) (l2 R m rc e)) else -6)) ∧ lv' = [some (.ref (ad g 176)), some (.int (nI i)), x]) (m) ?_ ?_ (0) _ _ (by omega) (⟨σ.2.1 181, _, by rw [uA_181]; rfl, hR, fun e he => by rw [if_neg (fun u => absurd u.1 (Nat.not_lt_zero _))]; exact h6 e he, rfl⟩)
    · rintro i σ2 lv2 hi ⟨h, x, rfl, g1, g2, rfl⟩ ih
      have hi : i < m := hi
      have hll := hLb.1 i
      have c0 := two_ct (lab := l2 R m rc) (f := i) (w := 0) hB
      have c1 := two_ct (lab := l2 R m rc) (f := i) (w := 1) hB
      have cb0 := ctB_le (isL (fun r => decide (l2 R m rc r = i)) R m 0) 100
      have cb1 := ctB_le (isL (fun r => decide (l2 R m rc r = i)) R m 1) 100
      have hyi : isN R m rc i = (decide (l2 R m rc i = i) && (twoB m (l2 R m rc) R i 0 && twoB m (l2 R m rc) R i 1)) := rfl
      by_cases e1 : l2 R m rc i = i
      · skip
        by_cases e2 : twoB m (l2 R m rc) R i 0 = true
        · skip
          by_cases e3 : twoB m (l2 R m rc) R i 1 = true
          · skip
            have hy : isN R m rc i = true := by rw [hyi, e2, e3, decide_eq_true e1]; rfl
            have c0 := c0.mpr e2
            have c1 := c1.mpr e3
            refine aw_iload_n dX10_findTables_63 rfl ?_
            refine aw_aload_n dX10_findTables_64 rfl ?_
            refine gf10_ruleMany dX10_findTables_65 kf10_105 k_176 ?_
            refine aw_eq ((uI_f (by decide)).trans hm) ?_
            refine aw_icmp_geN dX10_findTables_68 rfl rfl (by omega) (by omega) (fun h_68 => absurd h_68 (by omega)) (fun h_68 => ?_)
            refine aw_aload_n dX10_findTables_71 rfl ?_
            refine gf10_label dX10_findTables_72 kf10_19 k_176 ?_
            refine aw_eqr (b := 180) rfl ?_
            refine aw_iload_n dX10_findTables_75 rfl ?_
            refine aw_ld (i) dX10_findTables_76 k_180 (rfl) (by omega) ?_
            refine aw_eq (nB (by decide) (sB (hL i hi))) ?_
            refine aw_iload_n dX10_findTables_77 rfl ?_
            refine aw_icmp_neN dX10_findTables_78 rfl rfl (by omega) (by omega) (fun h_78 => absurd h_78 (by omega)) (fun h_78 => ?_)
            refine aw_aload_n dX10_findTables_81 rfl ?_
            refine aw_iload_n dX10_findTables_82 rfl ?_
            refine aw_ic (nI 0) dX10_findTables_83 (by decide) ?_
            refine cqi2 dX10_findTables_84 km10_141 ok_X10_countLines rfl rfl (by decide) k_176 (Nat.le_of_ble_eq_true rfl) ⟨Nat.le_of_ble_eq_true rfl, Nat.le_of_ble_eq_true rfl⟩ rfl rfl (ct_countLines (m := m) (f := i) (w := 0) (lab := l2 R m rc) (R := R) (tF (by decide) hm) (fun r k h1 h2 => tS (g1 r k h1 h2)) hB hm24 (fun k hk => tA (by decide) (sB (hL k hk))) hLb.1 hi (by decide)) ?_
            refine aw_ic (nI 1) dX10_findTables_87 (by decide) ?_
            refine aw_icmp_leN dX10_findTables_88 rfl (b := 1) rfl (by omega) (by omega) (fun h_88 => absurd h_88 (by omega)) (fun h_88 => ?_)
            refine aw_aload_n dX10_findTables_91 rfl ?_
            refine aw_iload_n dX10_findTables_92 rfl ?_
            refine aw_ic (nI 1) dX10_findTables_93 (by decide) ?_
            refine cqi2 dX10_findTables_94 km10_141 ok_X10_countLines rfl rfl (by decide) k_176 (Nat.le_of_ble_eq_true rfl) ⟨Nat.le_of_ble_eq_true rfl, Nat.le_of_ble_eq_true rfl⟩ rfl rfl (ct_countLines (m := m) (f := i) (w := 1) (lab := l2 R m rc) (R := R) (tF (by decide) hm) (fun r k h1 h2 => tS (g1 r k h1 h2)) hB hm24 (fun k hk => tA (by decide) (sB (hL k hk))) hLb.1 hi (by decide)) ?_
            refine aw_ic (nI 1) dX10_findTables_97 (by decide) ?_
            refine aw_icmp_leN dX10_findTables_98 rfl (b := 1) rfl (by omega) (by omega) (fun h_98 => absurd h_98 (by omega)) (fun h_98 => ?_)
            refine aw_ic (nI 0) dX10_findTables_101 (by decide) ?_
            refine aw_istore_n dX10_findTables_102 (Nat.le_of_ble_eq_true rfl) ?_
            refine for_ux (fun j σ' lv' => ∃ h2, σ' = (uI σ.1 330 176 (nI (ctB (isN R m rc) i)), uA (uA σ.2.1 180 L) 181 h2, σ.2.2) ∧ (∀ r k, r < m → k < 6 → h2 (7 * r + k) = nI (R r k)) ∧ (∀ e, e < m → h2 (7 * e + 6) = if e < j ∧ l2 R m rc e = i then nI (ctB (isN R m rc) i) else (if l2 R m rc e < i ∧ isN R m rc (l2 R m rc e) = true then nI (ctB (isN R m rc) (l2 R m rc e)) else -6)) ∧ lv' = [some (.ref (ad g 176)), some (.int (nI i)), some (.int (nI j))]) (m) ?_ ?_ (0) _ _ (by omega) (⟨h, rfl, g1, fun e he => by rw [if_neg (fun u => absurd u.1 (Nat.not_lt_zero e))]; exact g2 e he, rfl⟩)
            · rintro j σ3 lv2 hj ⟨h2, rfl, q1, q2, rfl⟩ ih2
              have hj : j < m := hj
              have hll := hLb.1 j
              by_cases hq : l2 R m rc j = i
              · skip
                refine aw_iload_n dX10_findTables_103 rfl ?_
                refine aw_aload_n dX10_findTables_104 rfl ?_
                refine gf10_ruleMany dX10_findTables_105 kf10_105 k_176 ?_
                refine aw_eq ((uI_f (by decide)).trans hm) ?_
                refine aw_icmp_geN dX10_findTables_108 rfl rfl (by omega) (by omega) (fun h_108 => absurd h_108 (by omega)) (fun h_108 => ?_)
                refine aw_aload_n dX10_findTables_111 rfl ?_
                refine gf10_rules dX10_findTables_112 kf10_22 k_176 ?_
                refine aw_eqr (b := 181) rfl ?_
                refine aw_bi (nI 7) dX10_findTables_115 (by decide) ?_
                refine aw_iload_n dX10_findTables_117 rfl ?_
                refine aw_imul dX10_findTables_118 ?_
                refine aw_eq (show _ = nI (7 * j) by rw [pk_mul]) ?_
                refine aw_bi (nI 6) dX10_findTables_119 (by decide) ?_
                refine aw_iadd dX10_findTables_121 ?_
                refine aw_eq (show _ = nI (7 * j + 6) by rw [nI_add]) ?_
                refine aw_aload_n dX10_findTables_122 rfl ?_
                refine gf10_label dX10_findTables_123 kf10_19 k_176 ?_
                refine aw_eqr (b := 180) rfl ?_
                refine aw_iload_n dX10_findTables_126 rfl ?_
                refine aw_ld (j) dX10_findTables_127 k_180 (rfl) (by omega) ?_
                refine aw_eq (nB (by decide) (sB (hL j hj))) ?_
                refine aw_iload_n dX10_findTables_128 rfl ?_
                refine aw_icmp_neN dX10_findTables_129 rfl rfl (by omega) (by omega) (fun h_129 => absurd h_129 (by omega)) (fun h_129 => ?_)
                refine aw_aload_n dX10_findTables_132 rfl ?_
                refine gf10_tableMany dX10_findTables_133 kf10_138 k_176 ?_
                refine aw_eq (uI_s _ _ _ _) ?_
                refine aw_goto dX10_findTables_136 ?_
                refine aw_sto (7 * j + 6) dX10_findTables_151 k_181 (rfl) (by omega) ?_
                refine aw_inc (nI (j + 1)) dX10_findTables_152 rfl (Nat.le_of_ble_eq_true rfl) (nI_1 j) ?_
                refine aw_goto dX10_findTables_155 ?_
                exact ih2 _ _ ⟨upd h2 (7 * j + 6) (nI (ctB (isN R m rc) i)), by rw [uA_s, uA_uA], fun r k hr hk => by rw [pk_un (by omega)]; exact q1 r k hr hk, fun e he => by
                  by_cases z : e = j
                  · rw [z, pk_us]
                    rw [if_pos ⟨by omega, hq⟩]
                  · rw [pk_un (by omega), q2 e he]
                    by_cases y : e < j ∧ l2 R m rc e = i
                    · rw [if_pos y, if_pos ⟨by omega, y.2⟩]
                    · exact (if_neg y).trans (if_neg (fun u => y ⟨by omega, u.2⟩)).symm, rfl⟩
              · skip
                refine aw_iload_n dX10_findTables_103 rfl ?_
                refine aw_aload_n dX10_findTables_104 rfl ?_
                refine gf10_ruleMany dX10_findTables_105 kf10_105 k_176 ?_
                refine aw_eq ((uI_f (by decide)).trans hm) ?_
                refine aw_icmp_geN dX10_findTables_108 rfl rfl (by omega) (by omega) (fun h_108 => absurd h_108 (by omega)) (fun h_108 => ?_)
                refine aw_aload_n dX10_findTables_111 rfl ?_
                refine gf10_rules dX10_findTables_112 kf10_22 k_176 ?_
                refine aw_eqr (b := 181) rfl ?_
                refine aw_bi (nI 7) dX10_findTables_115 (by decide) ?_
                refine aw_iload_n dX10_findTables_117 rfl ?_
                refine aw_imul dX10_findTables_118 ?_
                refine aw_eq (show _ = nI (7 * j) by rw [pk_mul]) ?_
                refine aw_bi (nI 6) dX10_findTables_119 (by decide) ?_
                refine aw_iadd dX10_findTables_121 ?_
                refine aw_eq (show _ = nI (7 * j + 6) by rw [nI_add]) ?_
                refine aw_aload_n dX10_findTables_122 rfl ?_
                refine gf10_label dX10_findTables_123 kf10_19 k_176 ?_
                refine aw_eqr (b := 180) rfl ?_
                refine aw_iload_n dX10_findTables_126 rfl ?_
                refine aw_ld (j) dX10_findTables_127 k_180 (rfl) (by omega) ?_
                refine aw_eq (nB (by decide) (sB (hL j hj))) ?_
                refine aw_iload_n dX10_findTables_128 rfl ?_
                refine aw_icmp_neN dX10_findTables_129 rfl rfl (by omega) (by omega) (fun h_129 => ?_) (fun h_129 => absurd h_129 (by omega))
                refine aw_aload_n dX10_findTables_139 rfl ?_
                refine gf10_rules dX10_findTables_140 kf10_22 k_176 ?_
                refine aw_eqr (b := 181) rfl ?_
                refine aw_bi (nI 7) dX10_findTables_143 (by decide) ?_
                refine aw_iload_n dX10_findTables_145 rfl ?_
                refine aw_imul dX10_findTables_146 ?_
                refine aw_eq (show _ = nI (7 * j) by rw [pk_mul]) ?_
                refine aw_bi (nI 6) dX10_findTables_147 (by decide) ?_
                refine aw_iadd dX10_findTables_149 ?_
                refine aw_eq (show _ = nI (7 * j + 6) by rw [nI_add]) ?_
                refine aw_ld (7 * j + 6) dX10_findTables_150 k_181 (rfl) (by omega) ?_
                refine aw_eq (sB rfl) ?_
                refine aw_sto (7 * j + 6) dX10_findTables_151 k_181 (rfl) (by omega) ?_
                refine aw_inc (nI (j + 1)) dX10_findTables_152 rfl (Nat.le_of_ble_eq_true rfl) (nI_1 j) ?_
                refine aw_goto dX10_findTables_155 ?_
                exact ih2 _ _ ⟨upd h2 (7 * j + 6) (h2 (7 * j + 6)), by rw [uA_s, uA_uA], fun r k hr hk => by rw [pk_un (by omega)]; exact q1 r k hr hk, fun e he => by
                  by_cases z : e = j
                  · rw [z, pk_us]
                    exact (q2 j hj).trans ((if_neg (fun u => hq u.2)).trans (if_neg (fun u => hq u.2)).symm)
                  · rw [pk_un (by omega), q2 e he]
                    by_cases y : e < j ∧ l2 R m rc e = i
                    · rw [if_pos y, if_pos ⟨by omega, y.2⟩]
                    · exact (if_neg y).trans (if_neg (fun u => y ⟨by omega, u.2⟩)).symm, rfl⟩
            · rintro σ3 lv2 ⟨h2, rfl, q1, q2, rfl⟩
              refine aw_iload_n dX10_findTables_103 rfl ?_
              refine aw_aload_n dX10_findTables_104 rfl ?_
              refine gf10_ruleMany dX10_findTables_105 kf10_105 k_176 ?_
              refine aw_eq ((uI_f (by decide)).trans hm) ?_
              refine aw_icmp_geN dX10_findTables_108 rfl rfl (by omega) (by omega) (fun h_108 => ?_) (fun h_108 => absurd h_108 (by omega))
              refine aw_aload_n dX10_findTables_158 rfl ?_
              refine aw_dup dX10_findTables_159 rfl ?_
              refine gf10_tableMany dX10_findTables_160 kf10_138 k_176 ?_
              refine aw_eq (uI_s _ _ _ _) ?_
              refine aw_ic (nI 1) dX10_findTables_163 (by decide) ?_
              refine aw_iadd dX10_findTables_164 ?_
              refine aw_eq (show _ = nI (ctB (isN R m rc) i + 1) by rw [nI_add]) ?_
              refine pf10_tableMany dX10_findTables_165 kf10_138 k_176 ?_
              refine aw_inc (nI (i + 1)) dX10_findTables_168 rfl (Nat.le_of_ble_eq_true rfl) (nI_1 i) ?_
              refine aw_goto dX10_findTables_171 ?_
              exact ih _ _ ⟨h2, _, by rw [uI_uI, ctB_s (p := isN R m rc) hy], q1, fun e he => by
                rw [q2 e he]
                by_cases y : l2 R m rc e = i
                · rw [if_pos ⟨he, y⟩, if_pos ⟨by omega, by rw [y]; exact hy⟩, y]
                · rw [if_neg (fun u => y u.2)]
                  exact col_ne (p := isN R m rc) y, rfl⟩
          · skip
            have hy : ¬ isN R m rc i = true := by rw [hyi]; simp [e3]
            have c1 : ¬ _ := fun z => e3 (c1.mp z)
            have c0 := c0.mpr e2
            refine aw_iload_n dX10_findTables_63 rfl ?_
            refine aw_aload_n dX10_findTables_64 rfl ?_
            refine gf10_ruleMany dX10_findTables_65 kf10_105 k_176 ?_
            refine aw_eq ((uI_f (by decide)).trans hm) ?_
            refine aw_icmp_geN dX10_findTables_68 rfl rfl (by omega) (by omega) (fun h_68 => absurd h_68 (by omega)) (fun h_68 => ?_)
            refine aw_aload_n dX10_findTables_71 rfl ?_
            refine gf10_label dX10_findTables_72 kf10_19 k_176 ?_
            refine aw_eqr (b := 180) rfl ?_
            refine aw_iload_n dX10_findTables_75 rfl ?_
            refine aw_ld (i) dX10_findTables_76 k_180 (rfl) (by omega) ?_
            refine aw_eq (nB (by decide) (sB (hL i hi))) ?_
            refine aw_iload_n dX10_findTables_77 rfl ?_
            refine aw_icmp_neN dX10_findTables_78 rfl rfl (by omega) (by omega) (fun h_78 => absurd h_78 (by omega)) (fun h_78 => ?_)
            refine aw_aload_n dX10_findTables_81 rfl ?_
            refine aw_iload_n dX10_findTables_82 rfl ?_
            refine aw_ic (nI 0) dX10_findTables_83 (by decide) ?_
            refine cqi2 dX10_findTables_84 km10_141 ok_X10_countLines rfl rfl (by decide) k_176 (Nat.le_of_ble_eq_true rfl) ⟨Nat.le_of_ble_eq_true rfl, Nat.le_of_ble_eq_true rfl⟩ rfl rfl (ct_countLines (m := m) (f := i) (w := 0) (lab := l2 R m rc) (R := R) (tF (by decide) hm) (fun r k h1 h2 => tS (g1 r k h1 h2)) hB hm24 (fun k hk => tA (by decide) (sB (hL k hk))) hLb.1 hi (by decide)) ?_
            refine aw_ic (nI 1) dX10_findTables_87 (by decide) ?_
            refine aw_icmp_leN dX10_findTables_88 rfl (b := 1) rfl (by omega) (by omega) (fun h_88 => absurd h_88 (by omega)) (fun h_88 => ?_)
            refine aw_aload_n dX10_findTables_91 rfl ?_
            refine aw_iload_n dX10_findTables_92 rfl ?_
            refine aw_ic (nI 1) dX10_findTables_93 (by decide) ?_
            refine cqi2 dX10_findTables_94 km10_141 ok_X10_countLines rfl rfl (by decide) k_176 (Nat.le_of_ble_eq_true rfl) ⟨Nat.le_of_ble_eq_true rfl, Nat.le_of_ble_eq_true rfl⟩ rfl rfl (ct_countLines (m := m) (f := i) (w := 1) (lab := l2 R m rc) (R := R) (tF (by decide) hm) (fun r k h1 h2 => tS (g1 r k h1 h2)) hB hm24 (fun k hk => tA (by decide) (sB (hL k hk))) hLb.1 hi (by decide)) ?_
            refine aw_ic (nI 1) dX10_findTables_97 (by decide) ?_
            refine aw_icmp_leN dX10_findTables_98 rfl (b := 1) rfl (by omega) (by omega) (fun h_98 => ?_) (fun h_98 => absurd h_98 (by omega))
            refine aw_inc (nI (i + 1)) dX10_findTables_168 rfl (Nat.le_of_ble_eq_true rfl) (nI_1 i) ?_
            refine aw_goto dX10_findTables_171 ?_
            exact ih _ _ ⟨h, _, by rw [ctB_no (p := isN R m rc) hy]; rfl, g1, fun e he => by rw [g2 e he]; exact col_no (p := isN R m rc) hy, rfl⟩
        · skip
          have hy : ¬ isN R m rc i = true := by rw [hyi]; simp [e2]
          have c0 : ¬ _ := fun z => e2 (c0.mp z)
          refine aw_iload_n dX10_findTables_63 rfl ?_
          refine aw_aload_n dX10_findTables_64 rfl ?_
          refine gf10_ruleMany dX10_findTables_65 kf10_105 k_176 ?_
          refine aw_eq ((uI_f (by decide)).trans hm) ?_
          refine aw_icmp_geN dX10_findTables_68 rfl rfl (by omega) (by omega) (fun h_68 => absurd h_68 (by omega)) (fun h_68 => ?_)
          refine aw_aload_n dX10_findTables_71 rfl ?_
          refine gf10_label dX10_findTables_72 kf10_19 k_176 ?_
          refine aw_eqr (b := 180) rfl ?_
          refine aw_iload_n dX10_findTables_75 rfl ?_
          refine aw_ld (i) dX10_findTables_76 k_180 (rfl) (by omega) ?_
          refine aw_eq (nB (by decide) (sB (hL i hi))) ?_
          refine aw_iload_n dX10_findTables_77 rfl ?_
          refine aw_icmp_neN dX10_findTables_78 rfl rfl (by omega) (by omega) (fun h_78 => absurd h_78 (by omega)) (fun h_78 => ?_)
          refine aw_aload_n dX10_findTables_81 rfl ?_
          refine aw_iload_n dX10_findTables_82 rfl ?_
          refine aw_ic (nI 0) dX10_findTables_83 (by decide) ?_
          refine cqi2 dX10_findTables_84 km10_141 ok_X10_countLines rfl rfl (by decide) k_176 (Nat.le_of_ble_eq_true rfl) ⟨Nat.le_of_ble_eq_true rfl, Nat.le_of_ble_eq_true rfl⟩ rfl rfl (ct_countLines (m := m) (f := i) (w := 0) (lab := l2 R m rc) (R := R) (tF (by decide) hm) (fun r k h1 h2 => tS (g1 r k h1 h2)) hB hm24 (fun k hk => tA (by decide) (sB (hL k hk))) hLb.1 hi (by decide)) ?_
          refine aw_ic (nI 1) dX10_findTables_87 (by decide) ?_
          refine aw_icmp_leN dX10_findTables_88 rfl (b := 1) rfl (by omega) (by omega) (fun h_88 => ?_) (fun h_88 => absurd h_88 (by omega))
          refine aw_inc (nI (i + 1)) dX10_findTables_168 rfl (Nat.le_of_ble_eq_true rfl) (nI_1 i) ?_
          refine aw_goto dX10_findTables_171 ?_
          exact ih _ _ ⟨h, _, by rw [ctB_no (p := isN R m rc) hy]; rfl, g1, fun e he => by rw [g2 e he]; exact col_no (p := isN R m rc) hy, rfl⟩
      · skip
        have hy : ¬ isN R m rc i = true := by rw [hyi]; simp [e1]
        refine aw_iload_n dX10_findTables_63 rfl ?_
        refine aw_aload_n dX10_findTables_64 rfl ?_
        refine gf10_ruleMany dX10_findTables_65 kf10_105 k_176 ?_
        refine aw_eq ((uI_f (by decide)).trans hm) ?_
        refine aw_icmp_geN dX10_findTables_68 rfl rfl (by omega) (by omega) (fun h_68 => absurd h_68 (by omega)) (fun h_68 => ?_)
        refine aw_aload_n dX10_findTables_71 rfl ?_
        refine gf10_label dX10_findTables_72 kf10_19 k_176 ?_
        refine aw_eqr (b := 180) rfl ?_
        refine aw_iload_n dX10_findTables_75 rfl ?_
        refine aw_ld (i) dX10_findTables_76 k_180 (rfl) (by omega) ?_
        refine aw_eq (nB (by decide) (sB (hL i hi))) ?_
        refine aw_iload_n dX10_findTables_77 rfl ?_
        refine aw_icmp_neN dX10_findTables_78 rfl rfl (by omega) (by omega) (fun h_78 => ?_) (fun h_78 => absurd h_78 (by omega))
        refine aw_inc (nI (i + 1)) dX10_findTables_168 rfl (Nat.le_of_ble_eq_true rfl) (nI_1 i) ?_
        refine aw_goto dX10_findTables_171 ?_
        exact ih _ _ ⟨h, _, by rw [ctB_no (p := isN R m rc) hy]; rfl, g1, fun e he => by rw [g2 e he]; exact col_no (p := isN R m rc) hy, rfl⟩
    · rintro σ2 lv2 ⟨h, x, rfl, g1, g2, rfl⟩
      have g2 : ∀ e, e < m → h (7 * e + 6) = (if isN R m rc (l2 R m rc e) = true then nI (ctB (isN R m rc) (l2 R m rc e)) else -6) := fun e he => by
        have := hLb.1 e
        rw [g2 e he]
        by_cases z : isN R m rc (l2 R m rc e) = true
        · rw [if_pos z, if_pos ⟨by omega, z⟩]
        · rw [if_neg z, if_neg (fun y => z y.2)]
      have hT6 := hK.2.2.1
      refine aw_iload_n dX10_findTables_63 rfl ?_
      refine aw_aload_n dX10_findTables_64 rfl ?_
      refine gf10_ruleMany dX10_findTables_65 kf10_105 k_176 ?_
      refine aw_eq ((uI_f (by decide)).trans hm) ?_
      refine aw_icmp_geN dX10_findTables_68 rfl rfl (by omega) (by omega) (fun h_68 => ?_) (fun h_68 => absurd h_68 (by omega))
      refine aw_ic (nI 0) dX10_findTables_174 (by decide) ?_
      refine aw_istore_n dX10_findTables_175 (Nat.le_of_ble_eq_true rfl) ?_
      generalize x = x9
      refine for_ux (fun i σ' lv' => ∃ h3 h4, σ' = (uI σ.1 330 176 (nI (tbn R m rc)), uA (uA (uA (uA σ.2.1 180 L) 181 h) 183 h3) 184 h4, σ.2.2) ∧ (∀ t w, t < i → w < 2 → h4 (2 * t + w) = nI (gN R m rc t w) ∧ ∀ l, l < gN R m rc t w → h3 (44 * t + 22 * w + l) = nI (gPl R m rc t w l)) ∧ lv' = [some (.ref (ad g 176)), some (.int (nI i)), x9]) (tbn R m rc) ?_ ?_ (0) _ _ (by omega) (⟨_, _, lay_00, fun t w ht => absurd ht (Nat.not_lt_zero t), rfl⟩)
      · rintro i σ2 lv2 hi ⟨h3, h4, rfl, G, rfl⟩ ih
        have ht6 : i < 6 := by omega
        obtain ⟨-, hRi, hon, -⟩ := hK.2.2.2 i hi
        refine aw_iload_n dX10_findTables_176 rfl ?_
        refine aw_aload_n dX10_findTables_177 rfl ?_
        refine gf10_tableMany dX10_findTables_178 kf10_138 k_176 ?_
        refine aw_eq (uI_s _ _ _ _) ?_
        refine aw_icmp_geN dX10_findTables_181 rfl rfl (by omega) (by omega) (fun h_181 => absurd h_181 (by omega)) (fun h_181 => ?_)
        refine aw_aload_n dX10_findTables_184 rfl ?_
        refine aw_iload_n dX10_findTables_185 rfl ?_
        refine aw_ic (nI 0) dX10_findTables_186 (by decide) ?_
        refine cvv2 dX10_findTables_187 km10_144 ok_X10_layLines rfl rfl (by decide) k_176 (Nat.le_of_ble_eq_true rfl) ⟨Nat.le_of_ble_eq_true rfl, Nat.le_of_ble_eq_true rfl⟩ rfl rfl (ct_layLines (m := m) (t := i) (w := 0) (n := gN R m rc i 0) (inT := inN R m rc i) (s := gPl R m rc i 0) (R := R) (tF (by decide) hm) (fun r k h1 h2 => tA (by decide) (nB (by decide) (sB (g1 r k h1 h2)))) hB hm24 (fun r hr => by rw [show _ = _ from tA (by decide) (nB (by decide) (sB (g2 r hr)))]; exact tab_in hm24 ht6 hr) ht6 (by decide) (gN_le hK hi (by decide)).1 (fun a b => hRi 0 a b (by decide)) (fun k hk => lnS_in m k hk) (fun r hr hx hw => by have z := hon r hr hx; rw [hw] at z; exact z)) ?_
        intro σ1 hp_187
        obtain ⟨a3, a4, rfl, b1, b2, b3, b4⟩ := hp_187
        refine aw_sg lay_2 ?_
        refine aw_aload_n dX10_findTables_190 rfl ?_
        refine aw_iload_n dX10_findTables_191 rfl ?_
        refine aw_ic (nI 1) dX10_findTables_192 (by decide) ?_
        refine cvv2 dX10_findTables_193 km10_144 ok_X10_layLines rfl rfl (by decide) k_176 (Nat.le_of_ble_eq_true rfl) ⟨Nat.le_of_ble_eq_true rfl, Nat.le_of_ble_eq_true rfl⟩ rfl rfl (ct_layLines (m := m) (t := i) (w := 1) (n := gN R m rc i 1) (inT := inN R m rc i) (s := gPl R m rc i 1) (R := R) (tF (by decide) hm) (fun r k h1 h2 => tA (by decide) (nB (by decide) (sB (g1 r k h1 h2)))) hB hm24 (fun r hr => by rw [show _ = _ from tA (by decide) (nB (by decide) (sB (g2 r hr)))]; exact tab_in hm24 ht6 hr) ht6 (by decide) (gN_le hK hi (by decide)).1 (fun a b => hRi 1 a b (by decide)) (fun k hk => lnS_in m k hk) (fun r hr hx hw => by have z := hon r hr hx; rw [hw] at z; exact z)) ?_
        intro σ1 hp_193
        obtain ⟨d3, d4, rfl, f1, f2, f3, f4⟩ := hp_193
        refine aw_sg lay_2 ?_
        refine aw_inc (nI (i + 1)) dX10_findTables_196 rfl (Nat.le_of_ble_eq_true rfl) (nI_1 i) ?_
        refine aw_goto dX10_findTables_199 ?_
        refine ih _ _ ⟨d3, d4, rfl, fun t w htt hw => ?_, rfl⟩
        have hg := (gN_le (w := w) hK (by omega : t < tbn R m rc) hw).1
        by_cases z : t = i
        · subst z
          rcases (by omega : w = 0 ∨ w = 1) with rfl | rfl
          · exact ⟨(f2 _ (by omega)).trans (tS b1), fun l hl => (f4 _ (by omega)).trans (tA (by decide) (sB (b3 l hl)))⟩
          · exact ⟨f1, f3⟩
        · obtain ⟨p1, p2⟩ := G t w (by omega) hw
          exact ⟨(f2 _ (by omega)).trans (tS ((b2 _ (by omega)).trans (tS p1))), fun l hl => (f4 _ (by omega)).trans (tA (by decide) (sB ((b4 _ (by omega)).trans (tA (by decide) (sB (p2 l hl))))))⟩
      · rintro σ2 lv2 ⟨h3, h4, rfl, G, rfl⟩
        refine aw_iload_n dX10_findTables_176 rfl ?_
        refine aw_aload_n dX10_findTables_177 rfl ?_
        refine gf10_tableMany dX10_findTables_178 kf10_138 k_176 ?_
        refine aw_eq (uI_s _ _ _ _) ?_
        refine aw_icmp_geN dX10_findTables_181 rfl rfl (by omega) (by omega) (fun h_181 => ?_) (fun h_181 => absurd h_181 (by omega))
        exact aw_ret dX10_findTables_202 (⟨L, h, h3, h4, rfl, g1, g2, G⟩)

/-- whether a rule of a set reaches along a line from b to e -/
def rchQ (inT : Nat → Bool) (R : Nat → Nat → Nat) (w p b e rc : Nat) : Nat → Bool := fun k => inT k && (decide (R k 0 = w) && (decide (R k 1 = p) && covN (R k) b e rc))
theorem rch_i {inT : Nat → Bool} {R : Nat → Nat → Nat} {w p b e rc k : Nat} (h : rchQ inT R w p b e rc k = true) : inT k = true ∧ R k 0 = w ∧ R k 1 = p ∧ R k 2 ≤ b + rc ∧ e ≤ R k 3 + rc := by
  unfold rchQ covN at h
  simp only [Bool.and_eq_true, decide_eq_true_eq] at h
  exact h
theorem rch_y {inT : Nat → Bool} {R : Nat → Nat → Nat} {w p b e rc k : Nat} (h : inT k = true) (h0 : R k 0 = w) (h1 : R k 1 = p) (h2 : R k 2 ≤ b + rc) (h3 : e ≤ R k 3 + rc) : rchQ inT R w p b e rc k = true := by
  unfold rchQ covN
  simp only [Bool.and_eq_true, decide_eq_true_eq]
  exact ⟨h, h0, h1, h2, h3⟩
set_option maxHeartbeats 4000000 in
set_option maxRecDepth 100000 in
theorem ct_reaches {g : GG} {σ : SG} {m t w p b e rc : Nat} {inT : Nat → Bool} {R : Nat → Nat → Nat} (hm : σ.1 328 176 = nI m) (hR : ∀ r k, r < m → k < 6 → σ.2.1 181 (7 * r + k) = nI (R r k)) (hB : ∀ r k, r < m → k < 6 → R r k ≤ 99) (hm24 : m ≤ 24) (hT : ∀ r, r < m → (σ.2.1 181 (7 * r + 6) = nI t ↔ inT r = true)) (hs : σ.2.1 179 2 = nI rc) (hrc : rc ≤ 5) (hw : w < 2) (hp : p ≤ 99) (hb : b ≤ 99) (he : e ≤ 99) : Cti g yX10_reaches cX10_reaches 9 (some .boolean) (rmm 1 22) [.ref (ad g 176), .int (nI t), .int (nI w), .int (nI p), .int (nI b), .int (nI e)] σ (fun r σ' => r = (if anyB (rchQ inT R w p b e rc) m = true then 1 else 0) ∧ σ' = σ) := by
  refine ct_of (own := RX10) (lv := [some (.ref (ad g 176)), some (.int (nI t)), some (.int (nI w)), some (.int (nI p)), some (.int (nI b)), some (.int (nI e)), none, none, none]) rfl (by decide) (Nat.le_of_ble_eq_true rfl) (by intro u hu; simp only [List.mem_cons, List.not_mem_nil, or_false] at hu; rcases hu with rfl | rfl | rfl | rfl | rfl | rfl <;> rfl) (lv_ok [.ref (ad g 176), .int (nI t), .int (nI w), .int (nI p), .int (nI b), .int (nI e)] 3) ?_
  have hl179 := l_179
  refine aw_ic (nI 0) dX10_reaches_0 (by decide) ?_
  refine aw_istore dX10_reaches_1 (Nat.le_of_ble_eq_true rfl) ?_
  refine aw_ic (nI 0) dX10_reaches_3 (by decide) ?_
  refine aw_istore dX10_reaches_4 (Nat.le_of_ble_eq_true rfl) ?_
  refine for_ux (fun i σ' lv' => σ = σ' ∧ ∃ v x, v = (if anyB (rchQ inT R w p b e rc) i = true then 1 else 0) ∧ lv' = [some (.ref (ad g 176)), some (.int (nI t)), some (.int (nI w)), some (.int (nI p)), some (.int (nI b)), some (.int (nI e)), some (.int v), some (.int (nI i)), x]) (m) ?_ ?_ (0) _ _ (by omega) (⟨rfl, _, _, rfl, rfl⟩)
  · rintro i σ2 lv2 hi ⟨rfl, v, x, hv, rfl⟩ ih
    have i0 := hB i 0 hi (by decide)
    have i1 := hB i 1 hi (by decide)
    have i2 := hB i 2 hi (by decide)
    have i3 := hB i 3 hi (by decide)
    refine aw_iload dX10_reaches_6 rfl ?_
    refine aw_aload_n dX10_reaches_8 rfl ?_
    refine gf10_ruleMany dX10_reaches_9 kf10_105 k_176 ?_
    refine aw_eq hm ?_
    refine aw_icmp_geN dX10_reaches_12 rfl rfl (by omega) (by omega) (fun h_12 => absurd h_12 (by omega)) (fun h_12 => ?_)
    refine aw_aload_n dX10_reaches_15 rfl ?_
    refine aw_iload dX10_reaches_16 rfl ?_
    refine aw_bi (nI 6) dX10_reaches_18 (by decide) ?_
    refine cqi2 dX10_reaches_20 km10_108 ok_X10_ruleAt rfl rfl (by decide) k_176 (Nat.le_of_ble_eq_true rfl) ⟨Nat.le_of_ble_eq_true rfl, Nat.le_of_ble_eq_true rfl⟩ rfl rfl (ct_ruleAt (r := i) (w := 6) (by omega)) ?_
    refine aw_iload_n dX10_reaches_23 rfl ?_
    refine aw_icmp_ne dX10_reaches_24 (fun h_24 => ?_) (fun h_24 => ?_)
    · skip
      refine aw_ic (nI 0) dX10_reaches_53 (by decide) ?_
      refine aw_istore dX10_reaches_54 (Nat.le_of_ble_eq_true rfl) ?_
      refine aw_iload dX10_reaches_56 rfl ?_
      refine aw_if_neB dX10_reaches_58 hv (fun h_58 => ?_) (fun h_58 => ?_)
      · skip
        refine aw_ic (nI 1) dX10_reaches_104 (by decide) ?_
        refine aw_goto dX10_reaches_105 ?_
        refine aw_istore dX10_reaches_109 (Nat.le_of_ble_eq_true rfl) ?_
        refine aw_inc (nI (i + 1)) dX10_reaches_111 rfl (Nat.le_of_ble_eq_true rfl) (nI_1 i) ?_
        refine aw_goto dX10_reaches_114 ?_
        exact ih _ _ ⟨rfl, _, _, (if_pos (any_s.mpr (Or.inl h_58))).symm, rfl⟩
      · skip
        refine aw_iload dX10_reaches_61 rfl ?_
        refine aw_if_eq dX10_reaches_63 (fun _ => ?_) (fun h => absurd (by decide) h)
        refine aw_ic (nI 0) dX10_reaches_108 (by decide) ?_
        refine aw_istore dX10_reaches_109 (Nat.le_of_ble_eq_true rfl) ?_
        refine aw_inc (nI (i + 1)) dX10_reaches_111 rfl (Nat.le_of_ble_eq_true rfl) (nI_1 i) ?_
        refine aw_goto dX10_reaches_114 ?_
        exact ih _ _ ⟨rfl, _, _, (if_neg (fun z => (any_s.mp z).elim h_58 (fun y => h_24 ((hT i hi).mpr (rch_i y).1)))).symm, rfl⟩
    · skip
      refine aw_aload_n dX10_reaches_27 rfl ?_
      refine aw_iload dX10_reaches_28 rfl ?_
      refine aw_ic (nI 0) dX10_reaches_30 (by decide) ?_
      refine cqi2 dX10_reaches_31 km10_108 ok_X10_ruleAt rfl rfl (by decide) k_176 (Nat.le_of_ble_eq_true rfl) ⟨Nat.le_of_ble_eq_true rfl, Nat.le_of_ble_eq_true rfl⟩ rfl rfl (ct_ruleAt (r := i) (w := 0) (by omega)) ?_
      refine aw_eq (hR i 0 hi (by decide)) ?_
      refine aw_iload_n dX10_reaches_34 rfl ?_
      refine aw_icmp_neN dX10_reaches_35 rfl rfl (by omega) (by omega) (fun h_35 => ?_) (fun h_35 => ?_)
      · skip
        refine aw_ic (nI 0) dX10_reaches_53 (by decide) ?_
        refine aw_istore dX10_reaches_54 (Nat.le_of_ble_eq_true rfl) ?_
        refine aw_iload dX10_reaches_56 rfl ?_
        refine aw_if_neB dX10_reaches_58 hv (fun h_58 => ?_) (fun h_58 => ?_)
        · skip
          refine aw_ic (nI 1) dX10_reaches_104 (by decide) ?_
          refine aw_goto dX10_reaches_105 ?_
          refine aw_istore dX10_reaches_109 (Nat.le_of_ble_eq_true rfl) ?_
          refine aw_inc (nI (i + 1)) dX10_reaches_111 rfl (Nat.le_of_ble_eq_true rfl) (nI_1 i) ?_
          refine aw_goto dX10_reaches_114 ?_
          exact ih _ _ ⟨rfl, _, _, (if_pos (any_s.mpr (Or.inl h_58))).symm, rfl⟩
        · skip
          refine aw_iload dX10_reaches_61 rfl ?_
          refine aw_if_eq dX10_reaches_63 (fun _ => ?_) (fun h => absurd (by decide) h)
          refine aw_ic (nI 0) dX10_reaches_108 (by decide) ?_
          refine aw_istore dX10_reaches_109 (Nat.le_of_ble_eq_true rfl) ?_
          refine aw_inc (nI (i + 1)) dX10_reaches_111 rfl (Nat.le_of_ble_eq_true rfl) (nI_1 i) ?_
          refine aw_goto dX10_reaches_114 ?_
          exact ih _ _ ⟨rfl, _, _, (if_neg (fun z => (any_s.mp z).elim h_58 (fun y => h_35 (rch_i y).2.1))).symm, rfl⟩
      · skip
        refine aw_aload_n dX10_reaches_38 rfl ?_
        refine aw_iload dX10_reaches_39 rfl ?_
        refine aw_ic (nI 1) dX10_reaches_41 (by decide) ?_
        refine cqi2 dX10_reaches_42 km10_108 ok_X10_ruleAt rfl rfl (by decide) k_176 (Nat.le_of_ble_eq_true rfl) ⟨Nat.le_of_ble_eq_true rfl, Nat.le_of_ble_eq_true rfl⟩ rfl rfl (ct_ruleAt (r := i) (w := 1) (by omega)) ?_
        refine aw_eq (hR i 1 hi (by decide)) ?_
        refine aw_iload_n dX10_reaches_45 rfl ?_
        refine aw_icmp_neN dX10_reaches_46 rfl rfl (by omega) (by omega) (fun h_46 => ?_) (fun h_46 => ?_)
        · skip
          refine aw_ic (nI 0) dX10_reaches_53 (by decide) ?_
          refine aw_istore dX10_reaches_54 (Nat.le_of_ble_eq_true rfl) ?_
          refine aw_iload dX10_reaches_56 rfl ?_
          refine aw_if_neB dX10_reaches_58 hv (fun h_58 => ?_) (fun h_58 => ?_)
          · skip
            refine aw_ic (nI 1) dX10_reaches_104 (by decide) ?_
            refine aw_goto dX10_reaches_105 ?_
            refine aw_istore dX10_reaches_109 (Nat.le_of_ble_eq_true rfl) ?_
            refine aw_inc (nI (i + 1)) dX10_reaches_111 rfl (Nat.le_of_ble_eq_true rfl) (nI_1 i) ?_
            refine aw_goto dX10_reaches_114 ?_
            exact ih _ _ ⟨rfl, _, _, (if_pos (any_s.mpr (Or.inl h_58))).symm, rfl⟩
          · skip
            refine aw_iload dX10_reaches_61 rfl ?_
            refine aw_if_eq dX10_reaches_63 (fun _ => ?_) (fun h => absurd (by decide) h)
            refine aw_ic (nI 0) dX10_reaches_108 (by decide) ?_
            refine aw_istore dX10_reaches_109 (Nat.le_of_ble_eq_true rfl) ?_
            refine aw_inc (nI (i + 1)) dX10_reaches_111 rfl (Nat.le_of_ble_eq_true rfl) (nI_1 i) ?_
            refine aw_goto dX10_reaches_114 ?_
            exact ih _ _ ⟨rfl, _, _, (if_neg (fun z => (any_s.mp z).elim h_58 (fun y => h_46 (rch_i y).2.2.1))).symm, rfl⟩
        · skip
          refine aw_ic (nI 1) dX10_reaches_49 (by decide) ?_
          refine aw_goto dX10_reaches_50 ?_
          refine aw_istore dX10_reaches_54 (Nat.le_of_ble_eq_true rfl) ?_
          refine aw_iload dX10_reaches_56 rfl ?_
          refine aw_if_neB dX10_reaches_58 hv (fun h_58 => ?_) (fun h_58 => ?_)
          · skip
            refine aw_ic (nI 1) dX10_reaches_104 (by decide) ?_
            refine aw_goto dX10_reaches_105 ?_
            refine aw_istore dX10_reaches_109 (Nat.le_of_ble_eq_true rfl) ?_
            refine aw_inc (nI (i + 1)) dX10_reaches_111 rfl (Nat.le_of_ble_eq_true rfl) (nI_1 i) ?_
            refine aw_goto dX10_reaches_114 ?_
            exact ih _ _ ⟨rfl, _, _, (if_pos (any_s.mpr (Or.inl h_58))).symm, rfl⟩
          · skip
            refine aw_iload dX10_reaches_61 rfl ?_
            refine aw_if_eq dX10_reaches_63 (fun h => absurd h (by decide)) (fun _ => ?_)
            refine aw_aload_n dX10_reaches_66 rfl ?_
            refine aw_iload dX10_reaches_67 rfl ?_
            refine aw_ic (nI 2) dX10_reaches_69 (by decide) ?_
            refine cqi2 dX10_reaches_70 km10_108 ok_X10_ruleAt rfl rfl (by decide) k_176 (Nat.le_of_ble_eq_true rfl) ⟨Nat.le_of_ble_eq_true rfl, Nat.le_of_ble_eq_true rfl⟩ rfl rfl (ct_ruleAt (r := i) (w := 2) (by omega)) ?_
            refine aw_eq (hR i 2 hi (by decide)) ?_
            refine aw_aload_n dX10_reaches_73 rfl ?_
            refine gf10_how dX10_reaches_74 kf10_16 k_176 ?_
            refine aw_eqr (b := 179) rfl ?_
            refine aw_ic (nI 2) dX10_reaches_77 (by decide) ?_
            refine aw_ld (2) dX10_reaches_78 k_179 (rfl) (by omega) ?_
            refine aw_eq hs ?_
            refine aw_isub dX10_reaches_79 ?_
            refine aw_iload dX10_reaches_80 rfl ?_
            refine aw_icmp_gt dX10_reaches_82 (fun h_82 => ?_) (fun h_82 => ?_)
            · skip
              refine aw_ic (nI 0) dX10_reaches_108 (by decide) ?_
              refine aw_istore dX10_reaches_109 (Nat.le_of_ble_eq_true rfl) ?_
              refine aw_inc (nI (i + 1)) dX10_reaches_111 rfl (Nat.le_of_ble_eq_true rfl) (nI_1 i) ?_
              refine aw_goto dX10_reaches_114 ?_
              rw [sub_gtN (by omega) (by omega) (by omega)] at h_82
              exact ih _ _ ⟨rfl, _, _, (if_neg (fun z => (any_s.mp z).elim h_58 (fun y => by have := (rch_i y).2.2.2.1; omega))).symm, rfl⟩
            · skip
              refine aw_aload_n dX10_reaches_85 rfl ?_
              refine aw_iload dX10_reaches_86 rfl ?_
              refine aw_ic (nI 3) dX10_reaches_88 (by decide) ?_
              refine cqi2 dX10_reaches_89 km10_108 ok_X10_ruleAt rfl rfl (by decide) k_176 (Nat.le_of_ble_eq_true rfl) ⟨Nat.le_of_ble_eq_true rfl, Nat.le_of_ble_eq_true rfl⟩ rfl rfl (ct_ruleAt (r := i) (w := 3) (by omega)) ?_
              refine aw_eq (hR i 3 hi (by decide)) ?_
              refine aw_aload_n dX10_reaches_92 rfl ?_
              refine gf10_how dX10_reaches_93 kf10_16 k_176 ?_
              refine aw_eqr (b := 179) rfl ?_
              refine aw_ic (nI 2) dX10_reaches_96 (by decide) ?_
              refine aw_ld (2) dX10_reaches_97 k_179 (rfl) (by omega) ?_
              refine aw_eq hs ?_
              refine aw_iadd dX10_reaches_98 ?_
              refine aw_eq (show _ = nI (R i 3 + rc) by rw [nI_add]) ?_
              refine aw_iload dX10_reaches_99 rfl ?_
              refine aw_icmp_ltN dX10_reaches_101 rfl rfl (by omega) (by omega) (fun h_101 => ?_) (fun h_101 => ?_)
              · skip
                refine aw_ic (nI 0) dX10_reaches_108 (by decide) ?_
                refine aw_istore dX10_reaches_109 (Nat.le_of_ble_eq_true rfl) ?_
                refine aw_inc (nI (i + 1)) dX10_reaches_111 rfl (Nat.le_of_ble_eq_true rfl) (nI_1 i) ?_
                refine aw_goto dX10_reaches_114 ?_
                rw [sub_gtN (by omega) (by omega) (by omega)] at h_82
                exact ih _ _ ⟨rfl, _, _, (if_neg (fun z => (any_s.mp z).elim h_58 (fun y => by have := (rch_i y).2.2.2.2; omega))).symm, rfl⟩
              · skip
                refine aw_ic (nI 1) dX10_reaches_104 (by decide) ?_
                refine aw_goto dX10_reaches_105 ?_
                refine aw_istore dX10_reaches_109 (Nat.le_of_ble_eq_true rfl) ?_
                refine aw_inc (nI (i + 1)) dX10_reaches_111 rfl (Nat.le_of_ble_eq_true rfl) (nI_1 i) ?_
                refine aw_goto dX10_reaches_114 ?_
                rw [sub_gtN (by omega) (by omega) (by omega)] at h_82
                exact ih _ _ ⟨rfl, _, _, (if_pos (any_s.mpr (Or.inr (rch_y ((hT i hi).mp h_24) h_35 h_46 (by omega) (by omega))))).symm, rfl⟩
  · rintro σ2 lv2 ⟨rfl, v, x, hv, rfl⟩
    refine aw_iload dX10_reaches_6 rfl ?_
    refine aw_aload_n dX10_reaches_8 rfl ?_
    refine gf10_ruleMany dX10_reaches_9 kf10_105 k_176 ?_
    refine aw_eq hm ?_
    refine aw_icmp_geN dX10_reaches_12 rfl rfl (by omega) (by omega) (fun h_12 => ?_) (fun h_12 => absurd h_12 (by omega))
    refine aw_iload dX10_reaches_117 rfl ?_
    exact aw_iretz dX10_reaches_119 (by rw [hv]; exact ite_01) (⟨hv, rfl⟩)

theorem i64_s {a w : Nat} (h : w ≤ a) (ha : a < 2 ^ 30) : (nI a - nI w).toInt64.toInt = ((a + 1 - w : Nat) : Int) - 1 := by
  rw [pk_sub h, Int32.toInt_toInt64, nI_toInt (by omega)]
  omega
theorem i64_c {a w : Nat} (h : 1 ≤ a) (ha : a < 2 ^ 30) (hw : w < 2) : (nI a - nI 1 + nI w).toInt64.toInt = ((a + w : Nat) : Int) - 1 := by
  rw [pk_sub h, nI_add, Int32.toInt_toInt64, nI_toInt (by omega)]
  omega
set_option maxHeartbeats 4000000 in
set_option maxRecDepth 100000 in
theorem ct_isSide {g : GG} {σ : SG} {t w nr nc : Nat} (ht : t < 6) (hr0 : σ.2.1 184 (2 * t + 0) = nI (nr + 1)) (hc0 : σ.2.1 184 (2 * t + 1) = nI (nc + 1)) (hnr : 1 ≤ nr ∧ nr ≤ 21) (hnc : 1 ≤ nc ∧ nc ≤ 21) (hw : w < 2) (row col : Int32) : Cti g yX10_isSide cX10_isSide 5 (some .boolean) (rmm 1 25) [.ref (ad g 176), .int (nI t), .int (nI w), .int row, .int col] σ (fun r σ' => r = (if (¬ row < 0 ∧ ¬ nI (nr + 1 - w) ≤ row) ∧ (¬ col < 0 ∧ ¬ nI (nc + w) ≤ col) then 1 else 0) ∧ σ' = σ) := by
  refine ct_of (own := RX10) (lv := [some (.ref (ad g 176)), some (.int (nI t)), some (.int (nI w)), some (.int row), some (.int col)]) rfl (by decide) (Nat.le_of_ble_eq_true rfl) (by intro u hu; simp only [List.mem_cons, List.not_mem_nil, or_false] at hu; rcases hu with rfl | rfl | rfl | rfl | rfl <;> rfl) (lv_ok [.ref (ad g 176), .int (nI t), .int (nI w), .int row, .int col] 0) ?_
  refine aw_iload_n dX10_isSide_0 rfl ?_
  refine aw_i2l dX10_isSide_1 ?_
  refine aw_lconst dX10_isSide_2 ?_
  refine aw_aload_n dX10_isSide_3 rfl ?_
  refine aw_iload_n dX10_isSide_4 rfl ?_
  refine cqi1 dX10_isSide_5 km10_148 ok_X10_rowsOf rfl rfl (by decide) k_176 (Nat.le_of_ble_eq_true rfl) ⟨Nat.le_of_ble_eq_true rfl, Nat.le_of_ble_eq_true rfl⟩ rfl rfl (ct_rowsOf (n := nr + 1) ht hr0 (by omega)) ?_
  refine aw_eq (show _ = nI nr by rw [Nat.add_sub_cancel]) ?_
  refine aw_iload_n dX10_isSide_8 rfl ?_
  refine aw_isub dX10_isSide_9 ?_
  refine aw_i2l dX10_isSide_10 ?_
  refine csq3 dX10_isSide_11 km10_64 ok_X10_in (Nat.le_of_ble_eq_true rfl) ⟨Nat.le_of_ble_eq_true rfl, Nat.le_of_ble_eq_true rfl⟩ rfl rfl (ct_inN row (nr + 1 - w) (by decide) (i64_s (by omega) (by omega)) (by omega)) ?_
  refine aw_if_eqB dX10_isSide_14 rfl (fun h_14 => ?_) (fun h_14 => ?_)
  · skip
    refine aw_ic (nI 0) dX10_isSide_41 (by decide) ?_
    exact aw_iretz dX10_isSide_42 (by decide) (⟨(if_neg (fun z => h_14 z.1)).symm, rfl⟩)
  · skip
    refine aw_iload dX10_isSide_17 rfl ?_
    refine aw_i2l dX10_isSide_19 ?_
    refine aw_lconst dX10_isSide_20 ?_
    refine aw_aload_n dX10_isSide_21 rfl ?_
    refine aw_iload_n dX10_isSide_22 rfl ?_
    refine cqi1 dX10_isSide_23 km10_152 ok_X10_columnsOf rfl rfl (by decide) k_176 (Nat.le_of_ble_eq_true rfl) ⟨Nat.le_of_ble_eq_true rfl, Nat.le_of_ble_eq_true rfl⟩ rfl rfl (ct_columnsOf (n := nc + 1) ht hc0 (by omega)) ?_
    refine aw_eq (show _ = nI nc by rw [Nat.add_sub_cancel]) ?_
    refine aw_ic (nI 1) dX10_isSide_26 (by decide) ?_
    refine aw_isub dX10_isSide_27 ?_
    refine aw_iload_n dX10_isSide_28 rfl ?_
    refine aw_iadd dX10_isSide_29 ?_
    refine aw_i2l dX10_isSide_30 ?_
    refine csq3 dX10_isSide_31 km10_64 ok_X10_in (Nat.le_of_ble_eq_true rfl) ⟨Nat.le_of_ble_eq_true rfl, Nat.le_of_ble_eq_true rfl⟩ rfl rfl (ct_inN col (nc + w) (by decide) (i64_c (by omega) (by omega) hw) (by omega)) ?_
    refine aw_if_eqB dX10_isSide_34 rfl (fun h_34 => ?_) (fun h_34 => ?_)
    · skip
      refine aw_ic (nI 0) dX10_isSide_41 (by decide) ?_
      exact aw_iretz dX10_isSide_42 (by decide) (⟨(if_neg (fun z => h_34 z.2)).symm, rfl⟩)
    · skip
      refine aw_ic (nI 1) dX10_isSide_37 (by decide) ?_
      refine aw_goto dX10_isSide_38 ?_
      exact aw_iretz dX10_isSide_42 (by decide) (⟨(if_pos ⟨h_14, h_34⟩).symm, rfl⟩)

set_option maxHeartbeats 4000000 in
set_option maxRecDepth 100000 in
theorem ct_isRuled {g : GG} {σ : SG} {m t rc nr nc : Nat} {inT : Nat → Bool} {R : Nat → Nat → Nat} {w r c : Nat} (hm : σ.1 328 176 = nI m) (hR : ∀ r k, r < m → k < 6 → σ.2.1 181 (7 * r + k) = nI (R r k)) (hB : ∀ r k, r < m → k < 6 → R r k ≤ 99) (hm24 : m ≤ 24) (hT : ∀ r, r < m → (σ.2.1 181 (7 * r + 6) = nI t ↔ inT r = true)) (hs : σ.2.1 179 2 = nI rc) (hrc : rc ≤ 5) (ht : t < 6) (hN : (lnS inT R m).1 0 = nr + 1 ∧ (lnS inT R m).1 1 = nc + 1) (hb : nr ≤ 21 ∧ nc ≤ 21) (hP : ∀ w l, (lnS inT R m).2 w l ≤ 99) (hl : ∀ w l, w < 2 → l < (lnS inT R m).1 w → σ.2.1 183 (44 * t + 22 * w + l) = nI ((lnS inT R m).2 w l)) (hi : sdIn nr nc w r c) : Cti g yX10_isRuled cX10_isRuled 6 (some .boolean) (rmm 2 50) [.ref (ad g 176), .int (nI t), .int (nI w), .int (nI r), .int (nI c)] σ (fun x σ' => x = (if tsd inT R m rc w r c = true then 1 else 0) ∧ σ' = σ) := by
  refine ct_of (own := RX10) (lv := [some (.ref (ad g 176)), some (.int (nI t)), some (.int (nI w)), some (.int (nI r)), some (.int (nI c)), none]) rfl (by decide) (Nat.le_of_ble_eq_true rfl) (by intro u hu; simp only [List.mem_cons, List.not_mem_nil, or_false] at hu; rcases hu with rfl | rfl | rfl | rfl | rfl <;> rfl) (lv_ok [.ref (ad g 176), .int (nI t), .int (nI w), .int (nI r), .int (nI c)] 1) ?_
  obtain ⟨hN0, hN1⟩ := hN
  rcases hi with ⟨rfl, h1, h2⟩ | ⟨rfl, h1, h2⟩
  · skip
    refine aw_iload_n dX10_isRuled_0 rfl ?_
    refine aw_if_neN dX10_isRuled_1 (a := 0) rfl (by decide) (fun h_1 => absurd h_1 (by omega)) (fun h_1 => ?_)
    refine aw_iload dX10_isRuled_4 rfl ?_
    refine aw_goto dX10_isRuled_6 ?_
    refine aw_istore dX10_isRuled_10 (Nat.le_of_ble_eq_true rfl) ?_
    refine aw_aload_n dX10_isRuled_12 rfl ?_
    refine aw_iload_n dX10_isRuled_13 rfl ?_
    refine aw_iload_n dX10_isRuled_14 rfl ?_
    refine aw_aload_n dX10_isRuled_15 rfl ?_
    refine aw_iload_n dX10_isRuled_16 rfl ?_
    refine aw_iload_n dX10_isRuled_17 rfl ?_
    refine aw_iload_n dX10_isRuled_18 rfl ?_
    refine aw_if_neN dX10_isRuled_19 (a := 0) rfl (by decide) (fun h_19 => absurd h_19 (by omega)) (fun h_19 => ?_)
    refine aw_iload_n dX10_isRuled_22 rfl ?_
    refine aw_goto dX10_isRuled_23 ?_
    refine cqi3 dX10_isRuled_28 km10_155 ok_X10_lineAt rfl rfl (by decide) k_176 (Nat.le_of_ble_eq_true rfl) ⟨Nat.le_of_ble_eq_true rfl, Nat.le_of_ble_eq_true rfl⟩ rfl rfl (ct_lineAt (t := t) (w := 0) (k := r) (by omega)) ?_
    refine aw_eq (hl 0 (r) (by decide) (by omega)) ?_
    refine aw_aload_n dX10_isRuled_31 rfl ?_
    refine aw_iload_n dX10_isRuled_32 rfl ?_
    refine aw_ic (nI 1) dX10_isRuled_33 (by decide) ?_
    refine aw_iload_n dX10_isRuled_34 rfl ?_
    refine aw_isub dX10_isRuled_35 ?_
    refine aw_eq (show _ = nI 1 by decide) ?_
    refine aw_iload dX10_isRuled_36 rfl ?_
    refine cqi3 dX10_isRuled_38 km10_155 ok_X10_lineAt rfl rfl (by decide) k_176 (Nat.le_of_ble_eq_true rfl) ⟨Nat.le_of_ble_eq_true rfl, Nat.le_of_ble_eq_true rfl⟩ rfl rfl (ct_lineAt (t := t) (w := 1) (k := c) (by omega)) ?_
    refine aw_eq (hl 1 (c) (by decide) (by omega)) ?_
    refine aw_aload_n dX10_isRuled_41 rfl ?_
    refine aw_iload_n dX10_isRuled_42 rfl ?_
    refine aw_ic (nI 1) dX10_isRuled_43 (by decide) ?_
    refine aw_iload_n dX10_isRuled_44 rfl ?_
    refine aw_isub dX10_isRuled_45 ?_
    refine aw_eq (show _ = nI 1 by decide) ?_
    refine aw_iload dX10_isRuled_46 rfl ?_
    refine aw_ic (nI 1) dX10_isRuled_48 (by decide) ?_
    refine aw_iadd dX10_isRuled_49 ?_
    refine aw_eq (show _ = nI (c + 1) by rw [nI_add]) ?_
    refine cqi3 dX10_isRuled_50 km10_155 ok_X10_lineAt rfl rfl (by decide) k_176 (Nat.le_of_ble_eq_true rfl) ⟨Nat.le_of_ble_eq_true rfl, Nat.le_of_ble_eq_true rfl⟩ rfl rfl (ct_lineAt (t := t) (w := 1) (k := c + 1) (by omega)) ?_
    refine aw_eq (hl 1 (c + 1) (by decide) (by omega)) ?_
    refine cqi5 dX10_isRuled_53 km10_159 ok_X10_reaches rfl rfl (by decide) k_176 (Nat.le_of_ble_eq_true rfl) ⟨Nat.le_of_ble_eq_true rfl, Nat.le_of_ble_eq_true rfl⟩ rfl rfl (ct_reaches hm hR hB hm24 hT hs hrc (by decide) (hP _ _) (hP _ _) (hP _ _)) ?_
    exact aw_iretz dX10_isRuled_56 (ite_01) (⟨rfl, rfl⟩)
  · skip
    refine aw_iload_n dX10_isRuled_0 rfl ?_
    refine aw_if_neN dX10_isRuled_1 (a := 1) rfl (by decide) (fun h_1 => ?_) (fun h_1 => absurd h_1 (by omega))
    refine aw_iload_n dX10_isRuled_9 rfl ?_
    refine aw_istore dX10_isRuled_10 (Nat.le_of_ble_eq_true rfl) ?_
    refine aw_aload_n dX10_isRuled_12 rfl ?_
    refine aw_iload_n dX10_isRuled_13 rfl ?_
    refine aw_iload_n dX10_isRuled_14 rfl ?_
    refine aw_aload_n dX10_isRuled_15 rfl ?_
    refine aw_iload_n dX10_isRuled_16 rfl ?_
    refine aw_iload_n dX10_isRuled_17 rfl ?_
    refine aw_iload_n dX10_isRuled_18 rfl ?_
    refine aw_if_neN dX10_isRuled_19 (a := 1) rfl (by decide) (fun h_19 => ?_) (fun h_19 => absurd h_19 (by omega))
    refine aw_iload dX10_isRuled_26 rfl ?_
    refine cqi3 dX10_isRuled_28 km10_155 ok_X10_lineAt rfl rfl (by decide) k_176 (Nat.le_of_ble_eq_true rfl) ⟨Nat.le_of_ble_eq_true rfl, Nat.le_of_ble_eq_true rfl⟩ rfl rfl (ct_lineAt (t := t) (w := 1) (k := c) (by omega)) ?_
    refine aw_eq (hl 1 (c) (by decide) (by omega)) ?_
    refine aw_aload_n dX10_isRuled_31 rfl ?_
    refine aw_iload_n dX10_isRuled_32 rfl ?_
    refine aw_ic (nI 1) dX10_isRuled_33 (by decide) ?_
    refine aw_iload_n dX10_isRuled_34 rfl ?_
    refine aw_isub dX10_isRuled_35 ?_
    refine aw_eq (show _ = nI 0 by decide) ?_
    refine aw_iload dX10_isRuled_36 rfl ?_
    refine cqi3 dX10_isRuled_38 km10_155 ok_X10_lineAt rfl rfl (by decide) k_176 (Nat.le_of_ble_eq_true rfl) ⟨Nat.le_of_ble_eq_true rfl, Nat.le_of_ble_eq_true rfl⟩ rfl rfl (ct_lineAt (t := t) (w := 0) (k := r) (by omega)) ?_
    refine aw_eq (hl 0 (r) (by decide) (by omega)) ?_
    refine aw_aload_n dX10_isRuled_41 rfl ?_
    refine aw_iload_n dX10_isRuled_42 rfl ?_
    refine aw_ic (nI 1) dX10_isRuled_43 (by decide) ?_
    refine aw_iload_n dX10_isRuled_44 rfl ?_
    refine aw_isub dX10_isRuled_45 ?_
    refine aw_eq (show _ = nI 0 by decide) ?_
    refine aw_iload dX10_isRuled_46 rfl ?_
    refine aw_ic (nI 1) dX10_isRuled_48 (by decide) ?_
    refine aw_iadd dX10_isRuled_49 ?_
    refine aw_eq (show _ = nI (r + 1) by rw [nI_add]) ?_
    refine cqi3 dX10_isRuled_50 km10_155 ok_X10_lineAt rfl rfl (by decide) k_176 (Nat.le_of_ble_eq_true rfl) ⟨Nat.le_of_ble_eq_true rfl, Nat.le_of_ble_eq_true rfl⟩ rfl rfl (ct_lineAt (t := t) (w := 0) (k := r + 1) (by omega)) ?_
    refine aw_eq (hl 0 (r + 1) (by decide) (by omega)) ?_
    refine cqi5 dX10_isRuled_53 km10_159 ok_X10_reaches rfl rfl (by decide) k_176 (Nat.le_of_ble_eq_true rfl) ⟨Nat.le_of_ble_eq_true rfl, Nat.le_of_ble_eq_true rfl⟩ rfl rfl (ct_reaches hm hR hB hm24 hT hs hrc (by decide) (hP _ _) (hP _ _) (hP _ _)) ?_
    exact aw_iretz dX10_isRuled_56 (ite_01) (⟨rfl, rfl⟩)

