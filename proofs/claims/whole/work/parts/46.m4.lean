theorem bef_k {ra rb : Nat → Nat} {k : Nat} (hk : k < 4) (h : ∀ j, j < k → ra j = rb j) (hn : ra k ≠ rb k) : befN ra rb = decide (ra k < rb k) := by
  unfold befN
  rcases (by omega : k = 0 ∨ k = 1 ∨ k = 2 ∨ k = 3) with rfl | rfl | rfl | rfl
  · rw [if_neg hn]
  · rw [if_pos (h 0 (by decide)), if_neg hn]
  · rw [if_pos (h 0 (by decide)), if_pos (h 1 (by decide)), if_neg hn]
  · rw [if_pos (h 0 (by decide)), if_pos (h 1 (by decide)), if_pos (h 2 (by decide)), if_neg hn]
theorem bef_4 {ra rb : Nat → Nat} (h : ∀ j, j < 4 → ra j = rb j) : befN ra rb = decide (ra 5 < rb 5) := by
  unfold befN
  rw [if_pos (h 0 (by decide)), if_pos (h 1 (by decide)), if_pos (h 2 (by decide)), if_pos (h 3 (by decide))]
def swp (h : Nat → Int32) (a b k : Nat) : Nat → Int32 := fun x => if 7 * a ≤ x ∧ x < 7 * a + k then h (x - 7 * a + 7 * b) else if 7 * b ≤ x ∧ x < 7 * b + k then h (x - 7 * b + 7 * a) else h x
theorem swp_0 (h : Nat → Int32) (a b : Nat) : swp h a b 0 = h := by
  funext x
  unfold swp
  rw [if_neg (by omega), if_neg (by omega)]
theorem swp_a {h : Nat → Int32} {a b k : Nat} (hab : a < b) (hk : k < 7) : swp h a b k (7 * a + k) = h (7 * a + k) := by
  unfold swp
  rw [if_neg (by omega), if_neg (by omega)]
theorem swp_b {h : Nat → Int32} {a b k : Nat} (hab : a < b) (hk : k < 7) : swp h a b k (7 * b + k) = h (7 * b + k) := by
  unfold swp
  rw [if_neg (by omega), if_neg (by omega)]
theorem swp_s {h : Nat → Int32} {a b k : Nat} (hab : a < b) (hk : k < 7) : upd (upd (swp h a b k) (7 * a + k) (h (7 * b + k))) (7 * b + k) (h (7 * a + k)) = swp h a b (k + 1) := by
  funext x
  by_cases q : x = 7 * b + k
  · subst q
    rw [pk_us]
    unfold swp
    rw [if_neg (by omega), if_pos (by omega)]
    exact congrArg h (by omega)
  · rw [pk_un q]
    by_cases q2 : x = 7 * a + k
    · subst q2
      rw [pk_us]
      unfold swp
      rw [if_pos (by omega)]
      exact congrArg h (by omega)
    · rw [pk_un q2]
      unfold swp
      by_cases c1 : 7 * a ≤ x ∧ x < 7 * a + k
      · rw [if_pos c1, if_pos (by omega)]
      · by_cases c2 : 7 * b ≤ x ∧ x < 7 * b + k
        · rw [if_neg c1, if_pos c2, if_neg (by omega), if_pos (by omega)]
        · rw [if_neg c1, if_neg c2, if_neg (by omega), if_neg (by omega)]
def SrI (Q : Nat → Nat → Nat) (m : Nat) (h : Nat → Int32) (τ : Nat → Nat) : Prop := (∀ k, k < m → τ k < m) ∧ (∀ j k, j < m → k < m → τ j = τ k → j = k) ∧ (∀ r k, r < m → k < 6 → h (7 * r + k) = nI (Q (τ r) k)) ∧ ∀ r, r < m → h (7 * r + 6) = -6
def swt (τ : Nat → Nat) (a b : Nat) : Nat → Nat := fun k => if k = a then τ b else if k = b then τ a else τ k
theorem swt_a (τ : Nat → Nat) (a b : Nat) : swt τ a b a = τ b := if_pos rfl
theorem swt_b {τ : Nat → Nat} {a b : Nat} (h : a < b) : swt τ a b b = τ a := by
  unfold swt
  rw [if_neg (by omega), if_pos rfl]
theorem swt_n {τ : Nat → Nat} {a b k : Nat} (h1 : k ≠ a) (h2 : k ≠ b) : swt τ a b k = τ k := by
  unfold swt
  rw [if_neg h1, if_neg h2]
theorem SrI.sw {Q : Nat → Nat → Nat} {m : Nat} {h : Nat → Int32} {τ : Nat → Nat} (H : SrI Q m h τ) {a b : Nat} (hab : a < b) (hb : b < m) : SrI Q m (swp h a b 7) (swt τ a b) := by
  obtain ⟨h1, h2, h3, h4⟩ := H
  have hx : ∀ r k, r < m → k < 7 → swp h a b 7 (7 * r + k) = if r = a then h (7 * b + k) else if r = b then h (7 * a + k) else h (7 * r + k) := by
    intro r k hr hk
    unfold swp
    by_cases q : r = a
    · rw [if_pos q, if_pos (by omega)]
      exact congrArg h (by omega)
    · rw [if_neg q, if_neg (by omega)]
      by_cases q2 : r = b
      · rw [if_pos q2, if_pos (by omega)]
        exact congrArg h (by omega)
      · rw [if_neg q2, if_neg (by omega)]
  refine ⟨fun k hk => ?_, fun j k hj hk e => ?_, fun r k hr hk => ?_, fun r hr => ?_⟩
  · unfold swt
    split
    · exact h1 b hb
    · split
      · exact h1 a (by omega)
      · exact h1 k hk
  · unfold swt at e
    have ia := h2
    by_cases qa : j = a
    · rw [if_pos qa] at e
      by_cases ka : k = a
      · omega
      · rw [if_neg ka] at e
        by_cases kb : k = b
        · rw [if_pos kb] at e
          have := h2 b a hb (by omega) e
          omega
        · rw [if_neg kb] at e
          have := h2 b k hb hk e
          omega
    · rw [if_neg qa] at e
      by_cases qb : j = b
      · rw [if_pos qb] at e
        by_cases ka : k = a
        · rw [if_pos ka] at e
          have := h2 a b (by omega) hb e
          omega
        · rw [if_neg ka] at e
          by_cases kb : k = b
          · omega
          · rw [if_neg kb] at e
            have := h2 a k (by omega) hk e
            omega
      · rw [if_neg qb] at e
        by_cases ka : k = a
        · rw [if_pos ka] at e
          have := h2 j b hj hb e
          omega
        · rw [if_neg ka] at e
          by_cases kb : k = b
          · rw [if_pos kb] at e
            have := h2 j a hj (by omega) e
            omega
          · rw [if_neg kb] at e
            exact h2 j k hj hk e
  · rw [hx r k hr (by omega)]
    unfold swt
    by_cases q : r = a
    · rw [if_pos q, if_pos q]
      exact h3 b k hb hk
    · rw [if_neg q, if_neg q]
      by_cases q2 : r = b
      · rw [if_pos q2, if_pos q2]
        exact h3 a k (by omega) hk
      · rw [if_neg q2, if_neg q2]
        exact h3 r k hr hk
  · rw [hx r 6 hr (by omega)]
    by_cases q : r = a
    · rw [if_pos q]
      exact h4 b hb
    · rw [if_neg q]
      by_cases q2 : r = b
      · rw [if_pos q2]
        exact h4 a (by omega)
      · rw [if_neg q2]
        exact h4 r hr
/-- sorted before a, and the one at a before all up to b -/
def SrO (Q : Nat → Nat → Nat) (m : Nat) (τ : Nat → Nat) (a b : Nat) : Prop := (∀ i j, i < a → i < j → j < m → befN (Q (τ i)) (Q (τ j)) = true) ∧ ∀ j, a < j → j < b → befN (Q (τ a)) (Q (τ j)) = true
theorem SrO.sw {Q : Nat → Nat → Nat} {m : Nat} {τ : Nat → Nat} {a b : Nat} (H : SrO Q m τ a b) (hab : a < b) (hb : b < m) (hx : befN (Q (τ b)) (Q (τ a)) = true) : SrO Q m (swt τ a b) a (b + 1) := by
  refine ⟨fun i j hi hij hj => ?_, fun j h1 h2 => ?_⟩
  · rw [swt_n (k := i) (by omega) (by omega)]
    by_cases q : j = a
    · rw [q, swt_a]
      exact H.1 i b hi (by omega) hb
    · by_cases q2 : j = b
      · rw [q2, swt_b hab]
        exact H.1 i a hi hi (by omega)
      · rw [swt_n q q2]
        exact H.1 i j hi hij hj
  · rw [swt_a]
    by_cases q2 : j = b
    · rw [q2, swt_b hab]
      exact hx
    · rw [swt_n (by omega) q2]
      exact bef_trans hx (H.2 j h1 (by omega))
theorem SrO.no {Q : Nat → Nat → Nat} {m : Nat} {τ : Nat → Nat} {a b : Nat} (H : SrO Q m τ a b) (hx : befN (Q (τ a)) (Q (τ b)) = true) : SrO Q m τ a (b + 1) := ⟨H.1, fun j h1 h2 => by
  by_cases q : j = b
  · rw [q]
    exact hx
  · exact H.2 j h1 (by omega)⟩
theorem SrO.up {Q : Nat → Nat → Nat} {m : Nat} {τ : Nat → Nat} {a : Nat} (H : SrO Q m τ a m) : SrO Q m τ (a + 1) (a + 1 + 1) := ⟨fun i j hi hij hj => by
  by_cases q : i = a
  · rw [q]
    exact H.2 j (by omega) hj
  · exact H.1 i j (by omega) hij hj, fun j h1 h2 => by omega⟩
set_option maxHeartbeats 4000000 in
set_option maxRecDepth 100000 in
theorem ct_isRuleBefore {g : GG} {σ : SG} {m a b : Nat} {R : Nat → Nat → Nat} (hR : ∀ r k, r < m → k < 6 → σ.2.1 181 (7 * r + k) = nI (R r k)) (hB : ∀ r k, r < m → k < 6 → R r k ≤ 99) (hm : m ≤ 24) (ha : a < m) (hb : b < m) : Cti g yX10_isRuleBefore cX10_isRuleBefore 4 (some .boolean) (rmm 1 22) [.ref (ad g 176), .int (nI a), .int (nI b)] σ (fun r σ' => r = (if befN (R a) (R b) = true then 1 else 0) ∧ σ' = σ) := by
  refine ct_of (own := RX10) (lv := [some (.ref (ad g 176)), some (.int (nI a)), some (.int (nI b)), none]) rfl (by decide) (Nat.le_of_ble_eq_true rfl) (by intro u hu; simp only [List.mem_cons, List.not_mem_nil, or_false] at hu; rcases hu with rfl | rfl | rfl <;> rfl) (lv_ok [.ref (ad g 176), .int (nI a), .int (nI b)] 1) ?_
  refine aw_ic (nI 0) dX10_isRuleBefore_0 (by decide) ?_
  refine aw_istore_n dX10_isRuleBefore_1 (Nat.le_of_ble_eq_true rfl) ?_
  refine for_ux (fun i σ' lv' => σ' = σ ∧ (∀ j, j < i → R a j = R b j) ∧ lv' = [some (.ref (ad g 176)), some (.int (nI a)), some (.int (nI b)), some (.int (nI i))]) (4) ?_ ?_ (0) _ _ (by omega) (⟨rfl, fun j hj => absurd hj (Nat.not_lt_zero j), rfl⟩)
  · rintro i σ2 lv2 hi ⟨rfl, he, rfl⟩ ih
    have hA := hB a i ha (by omega)
    have hBb := hB b i hb (by omega)
    refine aw_iload_n dX10_isRuleBefore_2 rfl ?_
    refine aw_ic (nI 4) dX10_isRuleBefore_3 (by decide) ?_
    refine aw_icmp_geN dX10_isRuleBefore_4 rfl rfl (by omega) (by omega) (fun h_4 => absurd h_4 (by omega)) (fun h_4 => ?_)
    refine aw_aload_n dX10_isRuleBefore_7 rfl ?_
    refine aw_iload_n dX10_isRuleBefore_8 rfl ?_
    refine aw_iload_n dX10_isRuleBefore_9 rfl ?_
    refine cqi2 dX10_isRuleBefore_10 km10_108 ok_X10_ruleAt rfl rfl (by decide) k_176 (Nat.le_of_ble_eq_true rfl) ⟨Nat.le_of_ble_eq_true rfl, Nat.le_of_ble_eq_true rfl⟩ rfl rfl (ct_ruleAt (r := a) (w := i) (by omega)) ?_
    refine aw_eq (hR a i ha (by omega)) ?_
    refine aw_aload_n dX10_isRuleBefore_13 rfl ?_
    refine aw_iload_n dX10_isRuleBefore_14 rfl ?_
    refine aw_iload_n dX10_isRuleBefore_15 rfl ?_
    refine cqi2 dX10_isRuleBefore_16 km10_108 ok_X10_ruleAt rfl rfl (by decide) k_176 (Nat.le_of_ble_eq_true rfl) ⟨Nat.le_of_ble_eq_true rfl, Nat.le_of_ble_eq_true rfl⟩ rfl rfl (ct_ruleAt (r := b) (w := i) (by omega)) ?_
    refine aw_eq (hR b i hb (by omega)) ?_
    refine aw_icmp_eqN dX10_isRuleBefore_19 rfl rfl (by omega) (by omega) (fun h_19 => ?_) (fun h_19 => ?_)
    · skip
      refine aw_inc (nI (i + 1)) dX10_isRuleBefore_43 rfl (Nat.le_of_ble_eq_true rfl) (nI_1 i) ?_
      refine aw_goto dX10_isRuleBefore_46 ?_
      exact ih _ _ ⟨rfl, fun j hj => by
        by_cases q : j = i
        · rw [q]; exact h_19
        · exact he j (by omega), rfl⟩
    · skip
      refine aw_aload_n dX10_isRuleBefore_22 rfl ?_
      refine aw_iload_n dX10_isRuleBefore_23 rfl ?_
      refine aw_iload_n dX10_isRuleBefore_24 rfl ?_
      refine cqi2 dX10_isRuleBefore_25 km10_108 ok_X10_ruleAt rfl rfl (by decide) k_176 (Nat.le_of_ble_eq_true rfl) ⟨Nat.le_of_ble_eq_true rfl, Nat.le_of_ble_eq_true rfl⟩ rfl rfl (ct_ruleAt (r := a) (w := i) (by omega)) ?_
      refine aw_eq (hR a i ha (by omega)) ?_
      refine aw_aload_n dX10_isRuleBefore_28 rfl ?_
      refine aw_iload_n dX10_isRuleBefore_29 rfl ?_
      refine aw_iload_n dX10_isRuleBefore_30 rfl ?_
      refine cqi2 dX10_isRuleBefore_31 km10_108 ok_X10_ruleAt rfl rfl (by decide) k_176 (Nat.le_of_ble_eq_true rfl) ⟨Nat.le_of_ble_eq_true rfl, Nat.le_of_ble_eq_true rfl⟩ rfl rfl (ct_ruleAt (r := b) (w := i) (by omega)) ?_
      refine aw_eq (hR b i hb (by omega)) ?_
      refine aw_icmp_geN dX10_isRuleBefore_34 rfl rfl (by omega) (by omega) (fun h_34 => ?_) (fun h_34 => ?_)
      · skip
        refine aw_ic (nI 0) dX10_isRuleBefore_41 (by decide) ?_
        exact aw_iretz dX10_isRuleBefore_42 (by decide) (⟨(if_neg (by rw [bef_k hi he h_19]; simp only [decide_eq_true_eq]; omega)).symm, rfl⟩)
      · skip
        refine aw_ic (nI 1) dX10_isRuleBefore_37 (by decide) ?_
        refine aw_goto dX10_isRuleBefore_38 ?_
        exact aw_iretz dX10_isRuleBefore_42 (by decide) (⟨(if_pos (by rw [bef_k hi he h_19]; simp only [decide_eq_true_eq]; omega)).symm, rfl⟩)
  · rintro σ2 lv2 ⟨rfl, he, rfl⟩
    have hA := hB a 5 ha (by omega)
    have hBb := hB b 5 hb (by omega)
    refine aw_iload_n dX10_isRuleBefore_2 rfl ?_
    refine aw_ic (nI 4) dX10_isRuleBefore_3 (by decide) ?_
    refine aw_icmp_geN dX10_isRuleBefore_4 rfl rfl (by omega) (by omega) (fun h_4 => ?_) (fun h_4 => absurd h_4 (by omega))
    refine aw_aload_n dX10_isRuleBefore_49 rfl ?_
    refine aw_iload_n dX10_isRuleBefore_50 rfl ?_
    refine aw_ic (nI 5) dX10_isRuleBefore_51 (by decide) ?_
    refine cqi2 dX10_isRuleBefore_52 km10_108 ok_X10_ruleAt rfl rfl (by decide) k_176 (Nat.le_of_ble_eq_true rfl) ⟨Nat.le_of_ble_eq_true rfl, Nat.le_of_ble_eq_true rfl⟩ rfl rfl (ct_ruleAt (r := a) (w := 5) (by omega)) ?_
    refine aw_eq (hR a 5 ha (by decide)) ?_
    refine aw_aload_n dX10_isRuleBefore_55 rfl ?_
    refine aw_iload_n dX10_isRuleBefore_56 rfl ?_
    refine aw_ic (nI 5) dX10_isRuleBefore_57 (by decide) ?_
    refine cqi2 dX10_isRuleBefore_58 km10_108 ok_X10_ruleAt rfl rfl (by decide) k_176 (Nat.le_of_ble_eq_true rfl) ⟨Nat.le_of_ble_eq_true rfl, Nat.le_of_ble_eq_true rfl⟩ rfl rfl (ct_ruleAt (r := b) (w := 5) (by omega)) ?_
    refine aw_eq (hR b 5 hb (by decide)) ?_
    refine aw_icmp_geN dX10_isRuleBefore_61 rfl rfl (by omega) (by omega) (fun h_61 => ?_) (fun h_61 => ?_)
    · skip
      refine aw_ic (nI 0) dX10_isRuleBefore_68 (by decide) ?_
      exact aw_iretz dX10_isRuleBefore_69 (by decide) (⟨(if_neg (by rw [bef_4 he]; simp only [decide_eq_true_eq]; omega)).symm, rfl⟩)
    · skip
      refine aw_ic (nI 1) dX10_isRuleBefore_64 (by decide) ?_
      refine aw_goto dX10_isRuleBefore_65 ?_
      exact aw_iretz dX10_isRuleBefore_69 (by decide) (⟨(if_pos (by rw [bef_4 he]; simp only [decide_eq_true_eq]; omega)).symm, rfl⟩)

set_option maxHeartbeats 4000000 in
set_option maxRecDepth 100000 in
theorem ct_sortRules {g : GG} {σ : SG} {m : Nat} {Q : Nat → Nat → Nat} (hm : σ.1 328 176 = nI m) (hm24 : m ≤ 24) (hR : ∀ r k, r < m → k < 6 → σ.2.1 181 (7 * r + k) = nI (Q r k)) (h6 : ∀ r, r < m → σ.2.1 181 (7 * r + 6) = -6) (hB : ∀ r k, k < 6 → Q r k ≤ 99) (hd : ∀ a b, a < m → b < m → Q a 5 = Q b 5 → a = b) : Ctv g yX10_sortRules cX10_sortRules 6 (rmm 2 45) [.ref (ad g 176)] σ (fun σ' => ∃ h τ, σ' = (σ.1, uA σ.2.1 181 h, σ.2.2) ∧ SoP Q m τ ∧ (∀ r k, r < m → k < 6 → h (7 * r + k) = nI (Q (τ r) k)) ∧ ∀ r, r < m → h (7 * r + 6) = -6) := by
  refine ct_of (own := RX10) (lv := [some (.ref (ad g 176)), none, none, none, none, none]) rfl (by decide) (Nat.le_of_ble_eq_true rfl) (by intro u hu; simp only [List.mem_cons, List.not_mem_nil, or_false] at hu; rcases hu with rfl <;> rfl) (lv_ok [.ref (ad g 176)] 5) ?_
  have hl181 := l_181
  refine aw_ic (nI 0) dX10_sortRules_0 (by decide) ?_
  refine aw_istore_n dX10_sortRules_1 (Nat.le_of_ble_eq_true rfl) ?_
  refine for_ux (fun a σ' lv' => ∃ h τ v x y z, σ' = (σ.1, uA σ.2.1 181 h, σ.2.2) ∧ SrI Q m h τ ∧ SrO Q m τ a (a + 1) ∧ lv' = [some (.ref (ad g 176)), some (.int (nI a)), v, x, y, z]) (m) ?_ ?_ (0) _ _ (by omega) (⟨σ.2.1 181, fun k => k, _, _, _, _, by rw [uA_same], ⟨fun _ h => h, fun _ _ _ _ e => e, hR, h6⟩, ⟨fun i j hi => absurd hi (Nat.not_lt_zero i), fun j h1 h2 => by omega⟩, rfl⟩)
  · rintro a σ2 lv2 ha ⟨h, τ, v, x, y, z, rfl, H, HO, rfl⟩ ih
    refine aw_iload_n dX10_sortRules_2 rfl ?_
    refine aw_aload_n dX10_sortRules_3 rfl ?_
    refine gf10_ruleMany dX10_sortRules_4 kf10_105 k_176 ?_
    refine aw_eq hm ?_
    refine aw_icmp_geN dX10_sortRules_7 rfl rfl (by omega) (by omega) (fun h_7 => absurd h_7 (by omega)) (fun h_7 => ?_)
    refine aw_iload_n dX10_sortRules_10 rfl ?_
    refine aw_ic (nI 1) dX10_sortRules_11 (by decide) ?_
    refine aw_iadd dX10_sortRules_12 ?_
    refine aw_eq (show _ = nI (a + 1) by rw [nI_add]) ?_
    refine aw_istore_n dX10_sortRules_13 (Nat.le_of_ble_eq_true rfl) ?_
    refine for_ux (fun b σ' lv' => ∃ h τ x y z, σ' = (σ.1, uA σ.2.1 181 h, σ.2.2) ∧ SrI Q m h τ ∧ a < b ∧ SrO Q m τ a b ∧ lv' = [some (.ref (ad g 176)), some (.int (nI a)), some (.int (nI b)), x, y, z]) (max m (a + 1)) ?_ ?_ (a + 1) _ _ (by omega) (⟨h, τ, _, _, _, rfl, H, by omega, HO, rfl⟩)
    · rintro b σ3 lv2 hb ⟨h, τ, x, y, z, rfl, H, hab0, HO, rfl⟩ ih2
      have hb : b < m := by omega
      have hab : a < b := hab0
      by_cases hbf : befN (Q (τ b)) (Q (τ a)) = true
      · skip
        refine aw_iload_n dX10_sortRules_14 rfl ?_
        refine aw_aload_n dX10_sortRules_15 rfl ?_
        refine gf10_ruleMany dX10_sortRules_16 kf10_105 k_176 ?_
        refine aw_eq hm ?_
        refine aw_icmp_geN dX10_sortRules_19 rfl rfl (by omega) (by omega) (fun h_19 => absurd h_19 (by omega)) (fun h_19 => ?_)
        refine aw_aload_n dX10_sortRules_22 rfl ?_
        refine aw_iload_n dX10_sortRules_23 rfl ?_
        refine aw_iload_n dX10_sortRules_24 rfl ?_
        refine cqi2 dX10_sortRules_25 km10_111 ok_X10_isRuleBefore rfl rfl (by decide) k_176 (Nat.le_of_ble_eq_true rfl) ⟨Nat.le_of_ble_eq_true rfl, Nat.le_of_ble_eq_true rfl⟩ rfl rfl (ct_isRuleBefore (m := m) (a := b) (b := a) (R := fun r => Q (τ r)) (fun r k hr hk => tS (H.2.2.1 r k hr hk)) (fun r k hr hk => hB _ k hk) hm24 (by omega) (by omega)) ?_
        refine aw_eq (if_pos hbf) ?_
        refine aw_istore_n dX10_sortRules_28 (Nat.le_of_ble_eq_true rfl) ?_
        refine aw_ic (nI 0) dX10_sortRules_29 (by decide) ?_
        refine aw_istore dX10_sortRules_30 (Nat.le_of_ble_eq_true rfl) ?_
        refine for_ux (fun k σ' lv' => ∃ x, σ' = (σ.1, uA σ.2.1 181 (swp h a b k), σ.2.2) ∧ lv' = [some (.ref (ad g 176)), some (.int (nI a)), some (.int (nI b)), some (.int (1)), some (.int (nI k)), x]) (7) ?_ ?_ (0) _ _ (by omega) (⟨_, by rw [swp_0], rfl⟩)
        · rintro k σ4 lv2 hk ⟨x, rfl, rfl⟩ ih3
          refine aw_iload dX10_sortRules_32 rfl ?_
          refine aw_bi (nI 7) dX10_sortRules_34 (by decide) ?_
          refine aw_icmp_geN dX10_sortRules_36 rfl rfl (by omega) (by omega) (fun h_36 => absurd h_36 (by omega)) (fun h_36 => ?_)
          refine aw_iload_n dX10_sortRules_39 rfl ?_
          refine aw_if_eq dX10_sortRules_40 (fun h_40 => absurd h_40 (by decide)) (fun h_40 => ?_)
          refine aw_aload_n dX10_sortRules_43 rfl ?_
          refine gf10_rules dX10_sortRules_44 kf10_22 k_176 ?_
          refine aw_eqr (b := 181) rfl ?_
          refine aw_bi (nI 7) dX10_sortRules_47 (by decide) ?_
          refine aw_iload_n dX10_sortRules_49 rfl ?_
          refine aw_imul dX10_sortRules_50 ?_
          refine aw_eq (show _ = nI (7 * a) by rw [pk_mul]) ?_
          refine aw_iload dX10_sortRules_51 rfl ?_
          refine aw_iadd dX10_sortRules_53 ?_
          refine aw_ld (7 * a + k) dX10_sortRules_54 k_181 (by rw [nI_add]) (by omega) ?_
          refine aw_eq ((congrFun (uA_s _ _ _) _).trans (swp_a hab hk)) ?_
          refine aw_istore dX10_sortRules_55 (Nat.le_of_ble_eq_true rfl) ?_
          refine aw_aload_n dX10_sortRules_57 rfl ?_
          refine gf10_rules dX10_sortRules_58 kf10_22 k_176 ?_
          refine aw_eqr (b := 181) rfl ?_
          refine aw_bi (nI 7) dX10_sortRules_61 (by decide) ?_
          refine aw_iload_n dX10_sortRules_63 rfl ?_
          refine aw_imul dX10_sortRules_64 ?_
          refine aw_eq (show _ = nI (7 * a) by rw [pk_mul]) ?_
          refine aw_iload dX10_sortRules_65 rfl ?_
          refine aw_iadd dX10_sortRules_67 ?_
          refine aw_aload_n dX10_sortRules_68 rfl ?_
          refine gf10_rules dX10_sortRules_69 kf10_22 k_176 ?_
          refine aw_eqr (b := 181) rfl ?_
          refine aw_bi (nI 7) dX10_sortRules_72 (by decide) ?_
          refine aw_iload_n dX10_sortRules_74 rfl ?_
          refine aw_imul dX10_sortRules_75 ?_
          refine aw_eq (show _ = nI (7 * b) by rw [pk_mul]) ?_
          refine aw_iload dX10_sortRules_76 rfl ?_
          refine aw_iadd dX10_sortRules_78 ?_
          refine aw_ld (7 * b + k) dX10_sortRules_79 k_181 (by rw [nI_add]) (by omega) ?_
          refine aw_eq ((congrFun (uA_s _ _ _) _).trans (swp_b hab hk)) ?_
          refine aw_sto (7 * a + k) dX10_sortRules_80 k_181 (by rw [nI_add]) (by omega) ?_
          refine aw_aload_n dX10_sortRules_81 rfl ?_
          refine gf10_rules dX10_sortRules_82 kf10_22 k_176 ?_
          refine aw_eqr (b := 181) rfl ?_
          refine aw_bi (nI 7) dX10_sortRules_85 (by decide) ?_
          refine aw_iload_n dX10_sortRules_87 rfl ?_
          refine aw_imul dX10_sortRules_88 ?_
          refine aw_eq (show _ = nI (7 * b) by rw [pk_mul]) ?_
          refine aw_iload dX10_sortRules_89 rfl ?_
          refine aw_iadd dX10_sortRules_91 ?_
          refine aw_iload dX10_sortRules_92 rfl ?_
          refine aw_sto (7 * b + k) dX10_sortRules_94 k_181 (by rw [nI_add]) (by omega) ?_
          refine aw_inc (nI (k + 1)) dX10_sortRules_95 rfl (Nat.le_of_ble_eq_true rfl) (nI_1 k) ?_
          refine aw_goto dX10_sortRules_98 ?_
          exact ih3 _ _ ⟨_, by rw [uA_s, uA_s, uA_uA, uA_uA, swp_s hab hk], rfl⟩
        · rintro σ4 lv2 ⟨x, rfl, rfl⟩
          refine aw_iload dX10_sortRules_32 rfl ?_
          refine aw_bi (nI 7) dX10_sortRules_34 (by decide) ?_
          refine aw_icmp_geN dX10_sortRules_36 rfl rfl (by omega) (by omega) (fun h_36 => ?_) (fun h_36 => absurd h_36 (by omega))
          refine aw_inc (nI (b + 1)) dX10_sortRules_101 rfl (Nat.le_of_ble_eq_true rfl) (nI_1 b) ?_
          refine aw_goto dX10_sortRules_104 ?_
          exact ih2 _ _ ⟨_, _, _, _, _, rfl, H.sw hab hb, by omega, HO.sw hab hb hbf, rfl⟩
      · skip
        refine aw_iload_n dX10_sortRules_14 rfl ?_
        refine aw_aload_n dX10_sortRules_15 rfl ?_
        refine gf10_ruleMany dX10_sortRules_16 kf10_105 k_176 ?_
        refine aw_eq hm ?_
        refine aw_icmp_geN dX10_sortRules_19 rfl rfl (by omega) (by omega) (fun h_19 => absurd h_19 (by omega)) (fun h_19 => ?_)
        refine aw_aload_n dX10_sortRules_22 rfl ?_
        refine aw_iload_n dX10_sortRules_23 rfl ?_
        refine aw_iload_n dX10_sortRules_24 rfl ?_
        refine cqi2 dX10_sortRules_25 km10_111 ok_X10_isRuleBefore rfl rfl (by decide) k_176 (Nat.le_of_ble_eq_true rfl) ⟨Nat.le_of_ble_eq_true rfl, Nat.le_of_ble_eq_true rfl⟩ rfl rfl (ct_isRuleBefore (m := m) (a := b) (b := a) (R := fun r => Q (τ r)) (fun r k hr hk => tS (H.2.2.1 r k hr hk)) (fun r k hr hk => hB _ k hk) hm24 (by omega) (by omega)) ?_
        refine aw_eq (if_neg hbf) ?_
        refine aw_istore_n dX10_sortRules_28 (Nat.le_of_ble_eq_true rfl) ?_
        refine aw_ic (nI 0) dX10_sortRules_29 (by decide) ?_
        refine aw_istore dX10_sortRules_30 (Nat.le_of_ble_eq_true rfl) ?_
        refine aw_iload dX10_sortRules_32 rfl ?_
        refine aw_bi (nI 7) dX10_sortRules_34 (by decide) ?_
        refine aw_icmp_geN dX10_sortRules_36 (b := 7) rfl rfl (by omega) (by omega) (fun h_36 => absurd h_36 (by omega)) (fun h_36 => ?_)
        refine aw_iload_n dX10_sortRules_39 rfl ?_
        refine aw_if_eq dX10_sortRules_40 (fun h_40 => ?_) (fun h_40 => absurd h_40 (fun z => z rfl))
        refine aw_inc (nI (b + 1)) dX10_sortRules_101 rfl (Nat.le_of_ble_eq_true rfl) (nI_1 b) ?_
        refine aw_goto dX10_sortRules_104 ?_
        exact ih2 _ _ ⟨_, _, _, _, _, rfl, H, by omega, HO.no (bef_total (fun e => by have := H.2.1 _ _ hb (by omega) (hd _ _ (H.1 _ hb) (H.1 _ (by omega)) e); omega) hbf), rfl⟩
    · rintro σ3 lv2 ⟨h, τ, x, y, z, rfl, H, hab0, HO, rfl⟩
      refine aw_iload_n dX10_sortRules_14 rfl ?_
      refine aw_aload_n dX10_sortRules_15 rfl ?_
      refine gf10_ruleMany dX10_sortRules_16 kf10_105 k_176 ?_
      refine aw_eq hm ?_
      refine aw_icmp_geN dX10_sortRules_19 rfl rfl (by omega) (by omega) (fun h_19 => ?_) (fun h_19 => absurd h_19 (by omega))
      refine aw_inc (nI (a + 1)) dX10_sortRules_107 rfl (Nat.le_of_ble_eq_true rfl) (nI_1 a) ?_
      refine aw_goto dX10_sortRules_110 ?_
      exact ih _ _ ⟨h, τ, _, _, _, _, rfl, H, SrO.up (by rw [show m = max m (a + 1) by omega]; rw [show max m (a + 1) = m by omega] at HO ⊢; exact HO), rfl⟩
  · rintro σ2 lv2 ⟨h, τ, v, x, y, z, rfl, H, HO, rfl⟩
    refine aw_iload_n dX10_sortRules_2 rfl ?_
    refine aw_aload_n dX10_sortRules_3 rfl ?_
    refine gf10_ruleMany dX10_sortRules_4 kf10_105 k_176 ?_
    refine aw_eq hm ?_
    refine aw_icmp_geN dX10_sortRules_7 rfl rfl (by omega) (by omega) (fun h_7 => ?_) (fun h_7 => absurd h_7 (by omega))
    exact aw_ret dX10_sortRules_113 (⟨h, τ, rfl, ⟨H.1, H.2.1, fun j k hjk hk => HO.1 j k (by omega) hjk hk⟩, H.2.2.1, H.2.2.2⟩)

theorem labJ_y {r : Nat → Nat → Bool} {lab : Nat → Nat} {i j : Nat} (h : r i j = true) : labJ r lab i (j + 1) = joinL (labJ r lab i j) i j := if_pos h
theorem labJ_n {r : Nat → Nat → Bool} {lab : Nat → Nat} {i j : Nat} (h : ¬ r i j = true) : labJ r lab i (j + 1) = labJ r lab i j := if_neg h
theorem uA_181 (A : Nat → Nat → Int32) (L : Nat → Int32) : uA (uA A 180 L) 181 (A 181) = uA A 180 L := by
  have := uA_same (uA A 180 L) 181
  rwa [uA_n (by decide)] at this
theorem uA_182 (A : Nat → Nat → Int32) (L h : Nat → Int32) : uA (uA (uA A 180 L) 181 h) 182 (A 182) = uA (uA A 180 L) 181 h := by
  have := uA_same (uA (uA A 180 L) 181 h) 182
  rwa [uA_n (by decide), uA_n (by decide)] at this
set_option maxHeartbeats 4000000 in
set_option maxRecDepth 100000 in
theorem ct_findRules {g : GG} {σ : SG} {c sl gp : Nat} {pc : Nat → Nat → Nat} (hc : σ.1 321 176 = nI c) (hc24 : c ≤ 24) (hp : ∀ p w, p < c → w < 4 → σ.2.1 177 (4 * p + w) = nI (pc p w)) (hb : ∀ p w, pc p w ≤ 99) (hlt : ∀ p, p < c → pc p 2 < pc p 3) (hs : σ.2.1 179 0 = nI sl ∧ σ.2.1 179 1 = nI gp) (hs1 : sl ≤ 3) (hs2 : gp ≤ 9) : Ctv g yX10_findRules cX10_findRules 3 (rmm 3 70) [.ref (ad g 176)] σ (fun σ' => ∃ L h ro, σ' = (uI σ.1 328 176 (nI (cnt (labI (nearN pc sl gp) c) c)), uA (uA (uA σ.2.1 180 L) 181 h) 182 ro, σ.2.2) ∧ (∀ k, k < c → L k = nI (labI (nearN pc sl gp) c k)) ∧ (∀ r k, r < cnt (labI (nearN pc sl gp) c) c → k < 6 → h (7 * r + k) = nI (Rsp pc (labI (nearN pc sl gp) c) c r k)) ∧ (∀ r, r < cnt (labI (nearN pc sl gp) c) c → h (7 * r + 6) = -6) ∧ ∀ p, p < c → ro p = nI (posR (Rsp pc (labI (nearN pc sl gp) c) c) (cnt (labI (nearN pc sl gp) c) c) (labI (nearN pc sl gp) c p))) := by
  refine ct_of (own := RX10) (lv := [some (.ref (ad g 176)), none, none]) rfl (by decide) (Nat.le_of_ble_eq_true rfl) (by intro u hu; simp only [List.mem_cons, List.not_mem_nil, or_false] at hu; rcases hu with rfl <;> rfl) (lv_ok [.ref (ad g 176)] 2) ?_
  have hl180 := l_180
  have hl181 := l_181
  have hl182 := l_182
  refine aw_aload_n dX10_findRules_0 rfl ?_
  refine aw_aload_n dX10_findRules_1 rfl ?_
  refine gf10_drawnMany dX10_findRules_2 kf10_80 k_176 ?_
  refine aw_eq hc ?_
  refine cvv1 dX10_findRules_5 km10_115 ok_X10_begin rfl rfl (by decide) k_176 (Nat.le_of_ble_eq_true rfl) ⟨Nat.le_of_ble_eq_true rfl, Nat.le_of_ble_eq_true rfl⟩ rfl rfl (ct_begin (n := c) (by omega)) ?_
  intro σ1 hp_5
  obtain ⟨L, rfl, hL⟩ := hp_5
  refine aw_ic (nI 0) dX10_findRules_8 (by decide) ?_
  refine aw_istore_n dX10_findRules_9 (Nat.le_of_ble_eq_true rfl) ?_
  refine for_ux (fun i σ' lv' => ∃ L x, σ' = (σ.1, uA σ.2.1 180 L, σ.2.2) ∧ (∀ k, k < c → L k = nI (labI (nearN pc sl gp) i k)) ∧ lv' = [some (.ref (ad g 176)), some (.int (nI i)), x]) (c) ?_ ?_ (0) _ _ (by omega) (⟨L, _, rfl, hL, rfl⟩)
  · rintro i σ2 lv2 hi ⟨L, x, rfl, hL, rfl⟩ ih
    refine aw_iload_n dX10_findRules_10 rfl ?_
    refine aw_aload_n dX10_findRules_11 rfl ?_
    refine gf10_drawnMany dX10_findRules_12 kf10_80 k_176 ?_
    refine aw_eq hc ?_
    refine aw_icmp_geN dX10_findRules_15 rfl rfl (by omega) (by omega) (fun h_15 => absurd h_15 (by omega)) (fun h_15 => ?_)
    refine aw_ic (nI 0) dX10_findRules_18 (by decide) ?_
    refine aw_istore_n dX10_findRules_19 (Nat.le_of_ble_eq_true rfl) ?_
    refine for_ux (fun j σ' lv' => ∃ L, σ' = (σ.1, uA σ.2.1 180 L, σ.2.2) ∧ (∀ k, k < c → L k = nI (labJ (nearN pc sl gp) (labI (nearN pc sl gp) i) i j k)) ∧ lv' = [some (.ref (ad g 176)), some (.int (nI i)), some (.int (nI j))]) (i) ?_ ?_ (0) _ _ (by omega) (⟨L, rfl, hL, rfl⟩)
    · rintro j σ3 lv2 hj ⟨L, rfl, hL, rfl⟩ ih2
      by_cases hn : nearN pc sl gp i j = true
      · skip
        have hi : i < c := hi
        refine aw_iload_n dX10_findRules_20 rfl ?_
        refine aw_iload_n dX10_findRules_21 rfl ?_
        refine aw_icmp_geN dX10_findRules_22 rfl rfl (by omega) (by omega) (fun h_22 => absurd h_22 (by omega)) (fun h_22 => ?_)
        refine aw_aload_n dX10_findRules_25 rfl ?_
        refine aw_iload_n dX10_findRules_26 rfl ?_
        refine aw_iload_n dX10_findRules_27 rfl ?_
        refine cqi2 dX10_findRules_28 km10_119 ok_X10_isNear rfl rfl (by decide) k_176 (Nat.le_of_ble_eq_true rfl) ⟨Nat.le_of_ble_eq_true rfl, Nat.le_of_ble_eq_true rfl⟩ rfl rfl (ct_isNear (c := c) (sl := sl) (gp := gp) (fun p w h1 h2 => tA (by decide) (hp p w h1 h2)) hb hc24 ⟨tA (by decide) hs.1, tA (by decide) hs.2⟩ hs1 hs2 hi (by omega)) ?_
        refine aw_if_eqB dX10_findRules_31 rfl (fun h_31 => absurd h_31 (not_not_intro hn)) (fun h_31 => ?_)
        refine aw_aload_n dX10_findRules_34 rfl ?_
        refine aw_iload_n dX10_findRules_35 rfl ?_
        refine aw_iload_n dX10_findRules_36 rfl ?_
        refine aw_aload_n dX10_findRules_37 rfl ?_
        refine gf10_drawnMany dX10_findRules_38 kf10_80 k_176 ?_
        refine aw_eq hc ?_
        refine cvv3 dX10_findRules_41 km10_122 ok_X10_join rfl rfl (by decide) k_176 (Nat.le_of_ble_eq_true rfl) ⟨Nat.le_of_ble_eq_true rfl, Nat.le_of_ble_eq_true rfl⟩ rfl rfl (ct_join (n := c) (fun k hk => tS (hL k hk)) ((Lb.labJ (Lb.labI i) i j).1) hi (by omega) (by omega)) ?_
        intro σ1 hp_41
        obtain ⟨L2, rfl, hL2⟩ := hp_41
        refine aw_inc (nI (j + 1)) dX10_findRules_44 rfl (Nat.le_of_ble_eq_true rfl) (nI_1 j) ?_
        refine aw_goto dX10_findRules_47 ?_
        exact ih2 _ _ ⟨L2, by rw [uA_uA], fun k hk => by rw [hL2 k hk, labJ_y hn], rfl⟩
      · skip
        have hi : i < c := hi
        refine aw_iload_n dX10_findRules_20 rfl ?_
        refine aw_iload_n dX10_findRules_21 rfl ?_
        refine aw_icmp_geN dX10_findRules_22 rfl rfl (by omega) (by omega) (fun h_22 => absurd h_22 (by omega)) (fun h_22 => ?_)
        refine aw_aload_n dX10_findRules_25 rfl ?_
        refine aw_iload_n dX10_findRules_26 rfl ?_
        refine aw_iload_n dX10_findRules_27 rfl ?_
        refine cqi2 dX10_findRules_28 km10_119 ok_X10_isNear rfl rfl (by decide) k_176 (Nat.le_of_ble_eq_true rfl) ⟨Nat.le_of_ble_eq_true rfl, Nat.le_of_ble_eq_true rfl⟩ rfl rfl (ct_isNear (c := c) (sl := sl) (gp := gp) (fun p w h1 h2 => tA (by decide) (hp p w h1 h2)) hb hc24 ⟨tA (by decide) hs.1, tA (by decide) hs.2⟩ hs1 hs2 hi (by omega)) ?_
        refine aw_if_eqB dX10_findRules_31 rfl (fun h_31 => ?_) (fun h_31 => absurd h_31 (hn))
        refine aw_inc (nI (j + 1)) dX10_findRules_44 rfl (Nat.le_of_ble_eq_true rfl) (nI_1 j) ?_
        refine aw_goto dX10_findRules_47 ?_
        exact ih2 _ _ ⟨L, rfl, fun k hk => by rw [hL k hk, labJ_n hn], rfl⟩
    · rintro σ3 lv2 ⟨L, rfl, hL, rfl⟩
      refine aw_iload_n dX10_findRules_20 rfl ?_
      refine aw_iload_n dX10_findRules_21 rfl ?_
      refine aw_icmp_geN dX10_findRules_22 rfl rfl (by omega) (by omega) (fun h_22 => ?_) (fun h_22 => absurd h_22 (by omega))
      refine aw_inc (nI (i + 1)) dX10_findRules_50 rfl (Nat.le_of_ble_eq_true rfl) (nI_1 i) ?_
      refine aw_goto dX10_findRules_53 ?_
      exact ih _ _ ⟨L, _, rfl, hL, rfl⟩
  · rintro σ2 lv2 ⟨L, x, rfl, hL, rfl⟩
    have hLb : Lb (labI (nearN pc sl gp) c) := Lb.labI c
    generalize labI (nearN pc sl gp) c = lab at hL hLb ⊢
    have hcl := cnt_le lab c
    have hQB : ∀ r k, k < 6 → Qsp pc lab c r k ≤ 99 := fun r k hk => by
      obtain ⟨q0, q1, q2, q3, q4, q5, q6⟩ := rFold_B (pc := pc) (lab := lab) (r := rsq lab c r) (p := c) hc24 (fun p w _ _ => hb p w) (Nat.le_refl _)
      unfold Qsp
      rcases (by omega : k = 0 ∨ k = 1 ∨ k = 2 ∨ k = 3 ∨ k = 4 ∨ k = 5) with rfl | rfl | rfl | rfl | rfl | rfl <;> omega
    refine aw_iload_n dX10_findRules_10 rfl ?_
    refine aw_aload_n dX10_findRules_11 rfl ?_
    refine gf10_drawnMany dX10_findRules_12 kf10_80 k_176 ?_
    refine aw_eq hc ?_
    refine aw_icmp_geN dX10_findRules_15 rfl rfl (by omega) (by omega) (fun h_15 => ?_) (fun h_15 => absurd h_15 (by omega))
    refine aw_aload_n dX10_findRules_56 rfl ?_
    refine aw_ic (nI 0) dX10_findRules_57 (by decide) ?_
    refine pf10_ruleMany dX10_findRules_58 kf10_105 k_176 ?_
    refine aw_ic (nI 0) dX10_findRules_61 (by decide) ?_
    refine aw_istore_n dX10_findRules_62 (Nat.le_of_ble_eq_true rfl) ?_
    refine for_ux (fun i σ' lv' => ∃ h x, σ' = (uI σ.1 328 176 (nI (cnt lab i)), uA (uA σ.2.1 180 L) 181 h, σ.2.2) ∧ (∀ k j, k < cnt lab i → j < 6 → h (7 * k + j) = nI (Qsp pc lab c k j)) ∧ (∀ k, k < cnt lab i → h (7 * k + 6) = -6) ∧ lv' = [some (.ref (ad g 176)), some (.int (nI i)), x]) (c) ?_ ?_ (0) _ _ (by omega) (⟨σ.2.1 181, _, by rw [uA_181]; rfl, fun k j hk => absurd hk (Nat.not_lt_zero k), fun k hk => absurd hk (Nat.not_lt_zero k), rfl⟩)
    · rintro i σ2 lv2 hi ⟨h, x, rfl, hQ, h6, rfl⟩ ih
      have hll := hLb.1 i
      have hcs : cnt lab (i + 1) = cnt lab i + (if lab i = i then 1 else 0) := rfl
      by_cases hr : lab i = i
      · skip
        rw [if_pos hr] at hcs
        refine aw_iload_n dX10_findRules_63 rfl ?_
        refine aw_aload_n dX10_findRules_64 rfl ?_
        refine gf10_drawnMany dX10_findRules_65 kf10_80 k_176 ?_
        refine aw_eq ((uI_f (by decide)).trans hc) ?_
        refine aw_icmp_geN dX10_findRules_68 rfl rfl (by omega) (by omega) (fun h_68 => absurd h_68 (by omega)) (fun h_68 => ?_)
        refine aw_aload_n dX10_findRules_71 rfl ?_
        refine gf10_label dX10_findRules_72 kf10_19 k_176 ?_
        refine aw_eqr (b := 180) rfl ?_
        refine aw_iload_n dX10_findRules_75 rfl ?_
        refine aw_ld (i) dX10_findRules_76 k_180 (rfl) (by omega) ?_
        refine aw_eq ((congrFun (uA_n (by decide)) _).trans ((congrFun (uA_s _ _ _) _).trans (hL i hi))) ?_
        refine aw_iload_n dX10_findRules_77 rfl ?_
        refine aw_icmp_neN dX10_findRules_78 rfl rfl (by omega) (by omega) (fun h_78 => absurd h_78 (by omega)) (fun h_78 => ?_)
        refine aw_aload_n dX10_findRules_81 rfl ?_
        refine aw_iload_n dX10_findRules_82 rfl ?_
        refine cvv1 dX10_findRules_83 km10_126 ok_X10_addRule rfl rfl (by decide) k_176 (Nat.le_of_ble_eq_true rfl) ⟨Nat.le_of_ble_eq_true rfl, Nat.le_of_ble_eq_true rfl⟩ rfl rfl (ct_addRule (c := c) (m := cnt lab i) (pc := pc) (lab := lab) (tF (by decide) hc) hc24 (fun p w h1 h2 => tA (by decide) (nB (by decide) (hp p w h1 h2))) hb hlt (fun k hk => tA (by decide) (sB (hL k hk))) hLb.1 tG (by have := cnt_le lab i; omega) hi hr) ?_
        intro σ1 hp_83
        obtain ⟨h2, rfl, g1, g2, g3⟩ := hp_83
        refine aw_inc (nI (i + 1)) dX10_findRules_86 rfl (Nat.le_of_ble_eq_true rfl) (nI_1 i) ?_
        refine aw_goto dX10_findRules_89 ?_
        exact ih _ _ ⟨h2, _, by rw [uI_uI, uA_uA, hcs], fun k j hk hj => by
          by_cases q : k = cnt lab i
          · rw [q, g2 j hj]; unfold Qsp; rw [rsq_eq hi hr]
          · rw [g1 _ (by omega)]; exact tS (hQ k j (by omega) hj), fun k hk => by
          by_cases q : k = cnt lab i
          · rw [q, g3]
          · rw [g1 _ (by omega)]; exact tS (h6 k (by omega)), rfl⟩
      · skip
        rw [if_neg hr] at hcs
        refine aw_iload_n dX10_findRules_63 rfl ?_
        refine aw_aload_n dX10_findRules_64 rfl ?_
        refine gf10_drawnMany dX10_findRules_65 kf10_80 k_176 ?_
        refine aw_eq ((uI_f (by decide)).trans hc) ?_
        refine aw_icmp_geN dX10_findRules_68 rfl rfl (by omega) (by omega) (fun h_68 => absurd h_68 (by omega)) (fun h_68 => ?_)
        refine aw_aload_n dX10_findRules_71 rfl ?_
        refine gf10_label dX10_findRules_72 kf10_19 k_176 ?_
        refine aw_eqr (b := 180) rfl ?_
        refine aw_iload_n dX10_findRules_75 rfl ?_
        refine aw_ld (i) dX10_findRules_76 k_180 (rfl) (by omega) ?_
        refine aw_eq ((congrFun (uA_n (by decide)) _).trans ((congrFun (uA_s _ _ _) _).trans (hL i hi))) ?_
        refine aw_iload_n dX10_findRules_77 rfl ?_
        refine aw_icmp_neN dX10_findRules_78 rfl rfl (by omega) (by omega) (fun h_78 => ?_) (fun h_78 => absurd h_78 (by omega))
        refine aw_inc (nI (i + 1)) dX10_findRules_86 rfl (Nat.le_of_ble_eq_true rfl) (nI_1 i) ?_
        refine aw_goto dX10_findRules_89 ?_
        exact ih _ _ ⟨h, _, by rw [hcs]; rfl, fun k j hk hj => hQ k j (by omega) hj, fun k hk => h6 k (by omega), rfl⟩
    · rintro σ2 lv2 ⟨h, x, rfl, hQ, h6, rfl⟩
      refine aw_iload_n dX10_findRules_63 rfl ?_
      refine aw_aload_n dX10_findRules_64 rfl ?_
      refine gf10_drawnMany dX10_findRules_65 kf10_80 k_176 ?_
      refine aw_eq ((uI_f (by decide)).trans hc) ?_
      refine aw_icmp_geN dX10_findRules_68 rfl rfl (by omega) (by omega) (fun h_68 => ?_) (fun h_68 => absurd h_68 (by omega))
      refine aw_aload_n dX10_findRules_92 rfl ?_
      refine cvv0 dX10_findRules_93 km10_129 ok_X10_sortRules rfl rfl (by decide) k_176 (Nat.le_of_ble_eq_true rfl) ⟨Nat.le_of_ble_eq_true rfl, Nat.le_of_ble_eq_true rfl⟩ rfl rfl (ct_sortRules (m := cnt lab c) (Q := Qsp pc lab c) tG (by have := cnt_le lab c; omega) (fun r k hr hk => tS (hQ r k hr hk)) (fun r hr => tS (h6 r hr)) hQB Qsp_dis) ?_
      intro σ1 hp_93
      obtain ⟨h, τ, rfl, hS, hRR0, hR6⟩ := hp_93
      refine aw_sg (show _ = (uI σ.1 328 176 (nI (cnt lab c)), uA (uA σ.2.1 180 L) 181 h, σ.2.2) by rw [uA_uA]) ?_
      have hRR : ∀ r k, r < cnt lab c → k < 6 → h (7 * r + k) = nI (Rsp pc lab c r k) := fun r k hr hk => by rw [hRR0 r k hr hk]; unfold Rsp; rw [srt_eq hS hr]
      obtain ⟨hdis, -, hons, -⟩ := Rsp_ok hS
      have hRB : ∀ r k, k < 6 → Rsp pc lab c r k ≤ 99 := fun r k hk => hQB _ k hk
      refine aw_ic (nI 0) dX10_findRules_96 (by decide) ?_
      refine aw_istore_n dX10_findRules_97 (Nat.le_of_ble_eq_true rfl) ?_
      refine for_ux (fun i σ' lv' => ∃ ro x, σ' = (uI σ.1 328 176 (nI (cnt lab c)), uA (uA (uA σ.2.1 180 L) 181 h) 182 ro, σ.2.2) ∧ (∀ q, q < i → ro q = nI (posR (Rsp pc lab c) (cnt lab c) (lab q))) ∧ lv' = [some (.ref (ad g 176)), some (.int (nI i)), x]) (c) ?_ ?_ (0) _ _ (by omega) (⟨σ.2.1 182, _, by rw [uA_182], fun q hq => absurd hq (Nat.not_lt_zero q), rfl⟩)
      · rintro i σ2 lv2 hi ⟨ro, x, rfl, h1, rfl⟩ ih
        refine aw_iload_n dX10_findRules_98 rfl ?_
        refine aw_aload_n dX10_findRules_99 rfl ?_
        refine gf10_drawnMany dX10_findRules_100 kf10_80 k_176 ?_
        refine aw_eq ((uI_f (by decide)).trans hc) ?_
        refine aw_icmp_geN dX10_findRules_103 rfl rfl (by omega) (by omega) (fun h_103 => absurd h_103 (by omega)) (fun h_103 => ?_)
        refine aw_ic (nI 0) dX10_findRules_106 (by decide) ?_
        refine aw_istore_n dX10_findRules_107 (Nat.le_of_ble_eq_true rfl) ?_
        refine for_ux (fun r σ' lv' => ∃ ro, σ' = (uI σ.1 328 176 (nI (cnt lab c)), uA (uA (uA σ.2.1 180 L) 181 h) 182 ro, σ.2.2) ∧ (∀ q, q < i → ro q = nI (posR (Rsp pc lab c) (cnt lab c) (lab q))) ∧ (∀ k, k < r → Rsp pc lab c k 5 = lab i → ro i = nI k) ∧ lv' = [some (.ref (ad g 176)), some (.int (nI i)), some (.int (nI r))]) (cnt lab c) ?_ ?_ (0) _ _ (by omega) (⟨ro, rfl, h1, fun k hk => absurd hk (Nat.not_lt_zero k), rfl⟩)
        · rintro r σ3 lv2 hr ⟨ro, rfl, h1, h2, rfl⟩ ih2
          have hr : r < cnt lab c := hr
          have hi : i < c := hi
          have hll := hLb.1 i
          have h55 := hRB r 5 (by decide)
          by_cases hq : Rsp pc lab c r 5 = lab i
          · skip
            refine aw_iload_n dX10_findRules_108 rfl ?_
            refine aw_aload_n dX10_findRules_109 rfl ?_
            refine gf10_ruleMany dX10_findRules_110 kf10_105 k_176 ?_
            refine aw_eq (uI_s _ _ _ _) ?_
            refine aw_icmp_geN dX10_findRules_113 rfl rfl (by omega) (by omega) (fun h_113 => absurd h_113 (by omega)) (fun h_113 => ?_)
            refine aw_aload_n dX10_findRules_116 rfl ?_
            refine gf10_ruleOf dX10_findRules_117 kf10_25 k_176 ?_
            refine aw_eqr (b := 182) rfl ?_
            refine aw_iload_n dX10_findRules_120 rfl ?_
            refine aw_aload_n dX10_findRules_121 rfl ?_
            refine aw_iload_n dX10_findRules_122 rfl ?_
            refine aw_ic (nI 5) dX10_findRules_123 (by decide) ?_
            refine cqi2 dX10_findRules_124 km10_108 ok_X10_ruleAt rfl rfl (by decide) k_176 (Nat.le_of_ble_eq_true rfl) ⟨Nat.le_of_ble_eq_true rfl, Nat.le_of_ble_eq_true rfl⟩ rfl rfl (ct_ruleAt (r := r) (w := 5) (by omega)) ?_
            refine aw_eq (tA (by decide) (sB (hRR r 5 hr (by decide)))) ?_
            refine aw_aload_n dX10_findRules_127 rfl ?_
            refine gf10_label dX10_findRules_128 kf10_19 k_176 ?_
            refine aw_eqr (b := 180) rfl ?_
            refine aw_iload_n dX10_findRules_131 rfl ?_
            refine aw_ld (i) dX10_findRules_132 k_180 (rfl) (by omega) ?_
            refine aw_eq ((congrFun (uA_n (by decide)) _).trans ((congrFun (uA_n (by decide)) _).trans ((congrFun (uA_s _ _ _) _).trans (hL i hi)))) ?_
            refine aw_icmp_neN dX10_findRules_133 rfl rfl (by omega) (by omega) (fun h_133 => absurd h_133 (by omega)) (fun h_133 => ?_)
            refine aw_iload_n dX10_findRules_136 rfl ?_
            refine aw_goto dX10_findRules_137 ?_
            refine aw_sto (i) dX10_findRules_146 k_182 (rfl) (by omega) ?_
            refine aw_inc (nI (r + 1)) dX10_findRules_147 rfl (Nat.le_of_ble_eq_true rfl) (nI_1 r) ?_
            refine aw_goto dX10_findRules_150 ?_
            exact ih2 _ _ ⟨upd ro i (nI r), by rw [uA_s, uA_uA], fun q hq => by rw [pk_un (by omega)]; exact h1 q hq, fun k hk e => by rw [pk_us]; exact congrArg nI (hdis r k hr (by omega) (hq.trans e.symm)), rfl⟩
          · skip
            refine aw_iload_n dX10_findRules_108 rfl ?_
            refine aw_aload_n dX10_findRules_109 rfl ?_
            refine gf10_ruleMany dX10_findRules_110 kf10_105 k_176 ?_
            refine aw_eq (uI_s _ _ _ _) ?_
            refine aw_icmp_geN dX10_findRules_113 rfl rfl (by omega) (by omega) (fun h_113 => absurd h_113 (by omega)) (fun h_113 => ?_)
            refine aw_aload_n dX10_findRules_116 rfl ?_
            refine gf10_ruleOf dX10_findRules_117 kf10_25 k_176 ?_
            refine aw_eqr (b := 182) rfl ?_
            refine aw_iload_n dX10_findRules_120 rfl ?_
            refine aw_aload_n dX10_findRules_121 rfl ?_
            refine aw_iload_n dX10_findRules_122 rfl ?_
            refine aw_ic (nI 5) dX10_findRules_123 (by decide) ?_
            refine cqi2 dX10_findRules_124 km10_108 ok_X10_ruleAt rfl rfl (by decide) k_176 (Nat.le_of_ble_eq_true rfl) ⟨Nat.le_of_ble_eq_true rfl, Nat.le_of_ble_eq_true rfl⟩ rfl rfl (ct_ruleAt (r := r) (w := 5) (by omega)) ?_
            refine aw_eq (tA (by decide) (sB (hRR r 5 hr (by decide)))) ?_
            refine aw_aload_n dX10_findRules_127 rfl ?_
            refine gf10_label dX10_findRules_128 kf10_19 k_176 ?_
            refine aw_eqr (b := 180) rfl ?_
            refine aw_iload_n dX10_findRules_131 rfl ?_
            refine aw_ld (i) dX10_findRules_132 k_180 (rfl) (by omega) ?_
            refine aw_eq ((congrFun (uA_n (by decide)) _).trans ((congrFun (uA_n (by decide)) _).trans ((congrFun (uA_s _ _ _) _).trans (hL i hi)))) ?_
            refine aw_icmp_neN dX10_findRules_133 rfl rfl (by omega) (by omega) (fun h_133 => ?_) (fun h_133 => absurd h_133 (by omega))
            refine aw_aload_n dX10_findRules_140 rfl ?_
            refine gf10_ruleOf dX10_findRules_141 kf10_25 k_176 ?_
            refine aw_eqr (b := 182) rfl ?_
            refine aw_iload_n dX10_findRules_144 rfl ?_
            refine aw_ld (i) dX10_findRules_145 k_182 (rfl) (by omega) ?_
            refine aw_eq (congrFun (uA_s _ _ _) _) ?_
            refine aw_sto (i) dX10_findRules_146 k_182 (rfl) (by omega) ?_
            refine aw_inc (nI (r + 1)) dX10_findRules_147 rfl (Nat.le_of_ble_eq_true rfl) (nI_1 r) ?_
            refine aw_goto dX10_findRules_150 ?_
            exact ih2 _ _ ⟨upd ro i (ro i), by rw [uA_s, uA_uA], fun q hq => by rw [pk_un (by omega)]; exact h1 q hq, fun k hk e => by rw [pk_us]; exact h2 k (by by_cases z : k = r; (rw [z] at e; exact absurd e hq); omega) e, rfl⟩
        · rintro σ3 lv2 ⟨ro, rfl, h1, h2, rfl⟩
          refine aw_iload_n dX10_findRules_108 rfl ?_
          refine aw_aload_n dX10_findRules_109 rfl ?_
          refine gf10_ruleMany dX10_findRules_110 kf10_105 k_176 ?_
          refine aw_eq (uI_s _ _ _ _) ?_
          refine aw_icmp_geN dX10_findRules_113 rfl rfl (by omega) (by omega) (fun h_113 => ?_) (fun h_113 => absurd h_113 (by omega))
          refine aw_inc (nI (i + 1)) dX10_findRules_153 rfl (Nat.le_of_ble_eq_true rfl) (nI_1 i) ?_
          refine aw_goto dX10_findRules_156 ?_
          exact ih _ _ ⟨ro, _, rfl, fun q hq => by
            by_cases z : q = i
            · obtain ⟨k, hk, ek⟩ := hons (lab i) (by have := hLb.1 i; omega) (hLb.2 i)
              rw [z, h2 k hk ek, ← ek, posR_eq hk hdis]
            · exact h1 q (by omega), rfl⟩
      · rintro σ2 lv2 ⟨ro, x, rfl, h1, rfl⟩
        refine aw_iload_n dX10_findRules_98 rfl ?_
        refine aw_aload_n dX10_findRules_99 rfl ?_
        refine gf10_drawnMany dX10_findRules_100 kf10_80 k_176 ?_
        refine aw_eq ((uI_f (by decide)).trans hc) ?_
        refine aw_icmp_geN dX10_findRules_103 rfl rfl (by omega) (by omega) (fun h_103 => ?_) (fun h_103 => absurd h_103 (by omega))
        exact aw_ret dX10_findRules_159 (⟨L, h, ro, rfl, hL, hRR, hR6, h1⟩)

