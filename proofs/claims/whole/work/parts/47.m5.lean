set_option maxHeartbeats 4000000 in
set_option maxRecDepth 100000 in
theorem ct_lies {g : GG} {σ : SG} {m a b rc : Nat} {R : Nat → Nat → Nat} (hR : ∀ r k, r < m → k < 6 → σ.2.1 181 (7 * r + k) = nI (R r k)) (hB : ∀ r k, r < m → k < 6 → R r k ≤ 99) (hm24 : m ≤ 24) (hs : σ.2.1 179 2 = nI rc) (hrc : rc ≤ 5) (ha : a < m) (hb : b < m) : Cti g yX10_lies cX10_lies 3 (some .boolean) (rmm 1 22) [.ref (ad g 176), .int (nI a), .int (nI b)] σ (fun r σ' => r = (if covN (R b) (R a 1) (R a 1) rc = true then 1 else 0) ∧ σ' = σ) := by
  refine ct_of (own := RX10) (lv := [some (.ref (ad g 176)), some (.int (nI a)), some (.int (nI b))]) rfl (by decide) (Nat.le_of_ble_eq_true rfl) (by intro u hu; simp only [List.mem_cons, List.not_mem_nil, or_false] at hu; rcases hu with rfl | rfl | rfl <;> rfl) (lv_ok [.ref (ad g 176), .int (nI a), .int (nI b)] 0) ?_
  have hl179 := l_179
  have a1 := hB a 1 ha (by decide)
  have b2 := hB b 2 hb (by decide)
  have b3 := hB b 3 hb (by decide)
  refine aw_aload_n dX10_lies_0 rfl ?_
  refine aw_iload_n dX10_lies_1 rfl ?_
  refine aw_ic (nI 1) dX10_lies_2 (by decide) ?_
  refine cqi2 dX10_lies_3 km10_108 ok_X10_ruleAt rfl rfl (by decide) k_176 (Nat.le_of_ble_eq_true rfl) ⟨Nat.le_of_ble_eq_true rfl, Nat.le_of_ble_eq_true rfl⟩ rfl rfl (ct_ruleAt (r := a) (w := 1) (by omega)) ?_
  refine aw_eq (hR a 1 ha (by decide)) ?_
  refine aw_aload_n dX10_lies_6 rfl ?_
  refine aw_iload_n dX10_lies_7 rfl ?_
  refine aw_ic (nI 2) dX10_lies_8 (by decide) ?_
  refine cqi2 dX10_lies_9 km10_108 ok_X10_ruleAt rfl rfl (by decide) k_176 (Nat.le_of_ble_eq_true rfl) ⟨Nat.le_of_ble_eq_true rfl, Nat.le_of_ble_eq_true rfl⟩ rfl rfl (ct_ruleAt (r := b) (w := 2) (by omega)) ?_
  refine aw_eq (hR b 2 hb (by decide)) ?_
  refine aw_aload_n dX10_lies_12 rfl ?_
  refine gf10_how dX10_lies_13 kf10_16 k_176 ?_
  refine aw_eqr (b := 179) rfl ?_
  refine aw_ic (nI 2) dX10_lies_16 (by decide) ?_
  refine aw_ld (2) dX10_lies_17 k_179 (rfl) (by omega) ?_
  refine aw_eq hs ?_
  refine aw_isub dX10_lies_18 ?_
  refine aw_icmp_lt dX10_lies_19 (fun h_19 => ?_) (fun h_19 => ?_)
  · skip
    refine aw_ic (nI 0) dX10_lies_48 (by decide) ?_
    exact aw_iretz dX10_lies_49 (by decide) (⟨(if_neg (by rw [sub_gtN (by omega) (by omega) (by omega)] at h_19; unfold covN; simp only [Bool.and_eq_true, decide_eq_true_eq]; omega)).symm, rfl⟩)
  · skip
    refine aw_aload_n dX10_lies_22 rfl ?_
    refine aw_iload_n dX10_lies_23 rfl ?_
    refine aw_ic (nI 1) dX10_lies_24 (by decide) ?_
    refine cqi2 dX10_lies_25 km10_108 ok_X10_ruleAt rfl rfl (by decide) k_176 (Nat.le_of_ble_eq_true rfl) ⟨Nat.le_of_ble_eq_true rfl, Nat.le_of_ble_eq_true rfl⟩ rfl rfl (ct_ruleAt (r := a) (w := 1) (by omega)) ?_
    refine aw_eq (hR a 1 ha (by decide)) ?_
    refine aw_aload_n dX10_lies_28 rfl ?_
    refine aw_iload_n dX10_lies_29 rfl ?_
    refine aw_ic (nI 3) dX10_lies_30 (by decide) ?_
    refine cqi2 dX10_lies_31 km10_108 ok_X10_ruleAt rfl rfl (by decide) k_176 (Nat.le_of_ble_eq_true rfl) ⟨Nat.le_of_ble_eq_true rfl, Nat.le_of_ble_eq_true rfl⟩ rfl rfl (ct_ruleAt (r := b) (w := 3) (by omega)) ?_
    refine aw_eq (hR b 3 hb (by decide)) ?_
    refine aw_aload_n dX10_lies_34 rfl ?_
    refine gf10_how dX10_lies_35 kf10_16 k_176 ?_
    refine aw_eqr (b := 179) rfl ?_
    refine aw_ic (nI 2) dX10_lies_38 (by decide) ?_
    refine aw_ld (2) dX10_lies_39 k_179 (rfl) (by omega) ?_
    refine aw_eq hs ?_
    refine aw_iadd dX10_lies_40 ?_
    refine aw_eq (show _ = nI (R b 3 + rc) by rw [nI_add]) ?_
    refine aw_icmp_gtN dX10_lies_41 rfl rfl (by omega) (by omega) (fun h_41 => ?_) (fun h_41 => ?_)
    · skip
      refine aw_ic (nI 0) dX10_lies_48 (by decide) ?_
      exact aw_iretz dX10_lies_49 (by decide) (⟨(if_neg (by rw [sub_gtN (by omega) (by omega) (by omega)] at h_19; unfold covN; simp only [Bool.and_eq_true, decide_eq_true_eq]; omega)).symm, rfl⟩)
    · skip
      refine aw_ic (nI 1) dX10_lies_44 (by decide) ?_
      refine aw_goto dX10_lies_45 ?_
      exact aw_iretz dX10_lies_49 (by decide) (⟨(if_pos (by rw [sub_gtN (by omega) (by omega) (by omega)] at h_19; unfold covN; simp only [Bool.and_eq_true, decide_eq_true_eq]; omega)).symm, rfl⟩)

set_option maxHeartbeats 4000000 in
set_option maxRecDepth 100000 in
theorem ct_isCross {g : GG} {σ : SG} {m a b rc : Nat} {R : Nat → Nat → Nat} (hR : ∀ r k, r < m → k < 6 → σ.2.1 181 (7 * r + k) = nI (R r k)) (hB : ∀ r k, r < m → k < 6 → R r k ≤ 99) (hm24 : m ≤ 24) (hs : σ.2.1 179 2 = nI rc) (hrc : rc ≤ 5) (ha : a < m) (hb : b < m) : Cti g yX10_isCross cX10_isCross 3 (some .boolean) (rmm 2 44) [.ref (ad g 176), .int (nI a), .int (nI b)] σ (fun r σ' => r = (if crossN (R a) (R b) rc = true then 1 else 0) ∧ σ' = σ) := by
  refine ct_of (own := RX10) (lv := [some (.ref (ad g 176)), some (.int (nI a)), some (.int (nI b))]) rfl (by decide) (Nat.le_of_ble_eq_true rfl) (by intro u hu; simp only [List.mem_cons, List.not_mem_nil, or_false] at hu; rcases hu with rfl | rfl | rfl <;> rfl) (lv_ok [.ref (ad g 176), .int (nI a), .int (nI b)] 0) ?_
  have a0 := hB a 0 ha (by decide)
  have b0 := hB b 0 hb (by decide)
  refine aw_aload_n dX10_isCross_0 rfl ?_
  refine aw_iload_n dX10_isCross_1 rfl ?_
  refine aw_ic (nI 0) dX10_isCross_2 (by decide) ?_
  refine cqi2 dX10_isCross_3 km10_108 ok_X10_ruleAt rfl rfl (by decide) k_176 (Nat.le_of_ble_eq_true rfl) ⟨Nat.le_of_ble_eq_true rfl, Nat.le_of_ble_eq_true rfl⟩ rfl rfl (ct_ruleAt (r := a) (w := 0) (by omega)) ?_
  refine aw_eq (hR a 0 ha (by decide)) ?_
  refine aw_aload_n dX10_isCross_6 rfl ?_
  refine aw_iload_n dX10_isCross_7 rfl ?_
  refine aw_ic (nI 0) dX10_isCross_8 (by decide) ?_
  refine cqi2 dX10_isCross_9 km10_108 ok_X10_ruleAt rfl rfl (by decide) k_176 (Nat.le_of_ble_eq_true rfl) ⟨Nat.le_of_ble_eq_true rfl, Nat.le_of_ble_eq_true rfl⟩ rfl rfl (ct_ruleAt (r := b) (w := 0) (by omega)) ?_
  refine aw_eq (hR b 0 hb (by decide)) ?_
  refine aw_icmp_eqN dX10_isCross_12 rfl rfl (by omega) (by omega) (fun h_12 => ?_) (fun h_12 => ?_)
  · skip
    refine aw_ic (nI 0) dX10_isCross_37 (by decide) ?_
    exact aw_iretz dX10_isCross_38 (by decide) (⟨(if_neg (by unfold crossN; simp only [Bool.and_eq_true, decide_eq_true_eq]; exact fun z => z.1 h_12)).symm, rfl⟩)
  · skip
    refine aw_aload_n dX10_isCross_15 rfl ?_
    refine aw_iload_n dX10_isCross_16 rfl ?_
    refine aw_iload_n dX10_isCross_17 rfl ?_
    refine cqi2 dX10_isCross_18 km10_132 ok_X10_lies rfl rfl (by decide) k_176 (Nat.le_of_ble_eq_true rfl) ⟨Nat.le_of_ble_eq_true rfl, Nat.le_of_ble_eq_true rfl⟩ rfl rfl (ct_lies hR hB hm24 hs hrc ha hb) ?_
    refine aw_if_eqB dX10_isCross_21 rfl (fun h_21 => ?_) (fun h_21 => ?_)
    · skip
      refine aw_ic (nI 0) dX10_isCross_37 (by decide) ?_
      exact aw_iretz dX10_isCross_38 (by decide) (⟨(if_neg (by unfold crossN; simp only [Bool.and_eq_true, decide_eq_true_eq]; exact fun z => h_21 z.2.2)).symm, rfl⟩)
    · skip
      refine aw_aload_n dX10_isCross_24 rfl ?_
      refine aw_iload_n dX10_isCross_25 rfl ?_
      refine aw_iload_n dX10_isCross_26 rfl ?_
      refine cqi2 dX10_isCross_27 km10_132 ok_X10_lies rfl rfl (by decide) k_176 (Nat.le_of_ble_eq_true rfl) ⟨Nat.le_of_ble_eq_true rfl, Nat.le_of_ble_eq_true rfl⟩ rfl rfl (ct_lies hR hB hm24 hs hrc hb ha) ?_
      refine aw_if_eqB dX10_isCross_30 rfl (fun h_30 => ?_) (fun h_30 => ?_)
      · skip
        refine aw_ic (nI 0) dX10_isCross_37 (by decide) ?_
        exact aw_iretz dX10_isCross_38 (by decide) (⟨(if_neg (by unfold crossN; simp only [Bool.and_eq_true, decide_eq_true_eq]; exact fun z => h_30 z.2.1)).symm, rfl⟩)
      · skip
        refine aw_ic (nI 1) dX10_isCross_33 (by decide) ?_
        refine aw_goto dX10_isCross_34 ?_
        exact aw_iretz dX10_isCross_38 (by decide) (⟨(if_pos (by unfold crossN; rw [h_21, h_30]; simp only [Bool.and_true, decide_eq_true_eq]; exact h_12)).symm, rfl⟩)

set_option maxHeartbeats 4000000 in
set_option maxRecDepth 100000 in
theorem ct_lineAt {g : GG} {σ : SG} {t w k : Nat} (h : 44 * t + 22 * w + k < 264) : Cti g yX10_lineAt cX10_lineAt 4 (some .int) (rmm 0 0) [.ref (ad g 176), .int (nI t), .int (nI w), .int (nI k)] σ (fun x σ' => x = σ.2.1 183 (44 * t + 22 * w + k) ∧ σ' = σ) := by
  refine ct_of (own := RX10) (lv := [some (.ref (ad g 176)), some (.int (nI t)), some (.int (nI w)), some (.int (nI k))]) rfl (by decide) (Nat.le_of_ble_eq_true rfl) (by intro u hu; simp only [List.mem_cons, List.not_mem_nil, or_false] at hu; rcases hu with rfl | rfl | rfl | rfl <;> rfl) (lv_ok [.ref (ad g 176), .int (nI t), .int (nI w), .int (nI k)] 0) ?_
  have hl := l_183
  refine aw_aload_n dX10_lineAt_0 rfl ?_
  refine gf10_lines dX10_lineAt_1 kf10_28 k_176 ?_
  refine aw_eqr (b := 183) rfl ?_
  refine aw_bi (nI 44) dX10_lineAt_4 (by decide) ?_
  refine aw_iload_n dX10_lineAt_6 rfl ?_
  refine aw_imul dX10_lineAt_7 ?_
  refine aw_bi (nI 22) dX10_lineAt_8 (by decide) ?_
  refine aw_iload_n dX10_lineAt_10 rfl ?_
  refine aw_imul dX10_lineAt_11 ?_
  refine aw_iadd dX10_lineAt_12 ?_
  refine aw_iload_n dX10_lineAt_13 rfl ?_
  refine aw_iadd dX10_lineAt_14 ?_
  refine aw_ld (44 * t + 22 * w + k) dX10_lineAt_15 k_183 (by rw [pk_mul, pk_mul, nI_add, nI_add]) (by omega) ?_
  exact aw_ireti dX10_lineAt_16 (⟨rfl, rfl⟩)

set_option maxHeartbeats 4000000 in
set_option maxRecDepth 100000 in
theorem ct_rowsOf {g : GG} {σ : SG} {t n : Nat} (ht : t < 6) (h : σ.2.1 184 (2 * t + 0) = nI n) (hn : 1 ≤ n) : Cti g yX10_rowsOf cX10_rowsOf 2 (some .int) (rmm 0 0) [.ref (ad g 176), .int (nI t)] σ (fun x σ' => x = nI (n - 1) ∧ σ' = σ) := by
  refine ct_of (own := RX10) (lv := [some (.ref (ad g 176)), some (.int (nI t))]) rfl (by decide) (Nat.le_of_ble_eq_true rfl) (by intro u hu; simp only [List.mem_cons, List.not_mem_nil, or_false] at hu; rcases hu with rfl | rfl <;> rfl) (lv_ok [.ref (ad g 176), .int (nI t)] 0) ?_
  have hl := l_184
  refine aw_aload_n dX10_rowsOf_0 rfl ?_
  refine gf10_lineMany dX10_rowsOf_1 kf10_31 k_176 ?_
  refine aw_eqr (b := 184) rfl ?_
  refine aw_ic (nI 2) dX10_rowsOf_4 (by decide) ?_
  refine aw_iload_n dX10_rowsOf_5 rfl ?_
  refine aw_imul dX10_rowsOf_6 ?_
  refine aw_ld (2 * t + 0) dX10_rowsOf_7 k_184 (by rw [pk_mul, Nat.add_zero]) (by omega) ?_
  refine aw_eq h ?_
  refine aw_ic (nI 1) dX10_rowsOf_8 (by decide) ?_
  refine aw_isub dX10_rowsOf_9 ?_
  refine aw_eq (pk_sub hn) ?_
  exact aw_ireti dX10_rowsOf_10 (⟨rfl, rfl⟩)

set_option maxHeartbeats 4000000 in
set_option maxRecDepth 100000 in
theorem ct_columnsOf {g : GG} {σ : SG} {t n : Nat} (ht : t < 6) (h : σ.2.1 184 (2 * t + 1) = nI n) (hn : 1 ≤ n) : Cti g yX10_columnsOf cX10_columnsOf 2 (some .int) (rmm 0 0) [.ref (ad g 176), .int (nI t)] σ (fun x σ' => x = nI (n - 1) ∧ σ' = σ) := by
  refine ct_of (own := RX10) (lv := [some (.ref (ad g 176)), some (.int (nI t))]) rfl (by decide) (Nat.le_of_ble_eq_true rfl) (by intro u hu; simp only [List.mem_cons, List.not_mem_nil, or_false] at hu; rcases hu with rfl | rfl <;> rfl) (lv_ok [.ref (ad g 176), .int (nI t)] 0) ?_
  have hl := l_184
  refine aw_aload_n dX10_columnsOf_0 rfl ?_
  refine gf10_lineMany dX10_columnsOf_1 kf10_31 k_176 ?_
  refine aw_eqr (b := 184) rfl ?_
  refine aw_ic (nI 2) dX10_columnsOf_4 (by decide) ?_
  refine aw_iload_n dX10_columnsOf_5 rfl ?_
  refine aw_imul dX10_columnsOf_6 ?_
  refine aw_ic (nI 1) dX10_columnsOf_7 (by decide) ?_
  refine aw_iadd dX10_columnsOf_8 ?_
  refine aw_ld (2 * t + 1) dX10_columnsOf_9 k_184 (by rw [pk_mul, nI_add]) (by omega) ?_
  refine aw_eq h ?_
  refine aw_ic (nI 1) dX10_columnsOf_10 (by decide) ?_
  refine aw_isub dX10_columnsOf_11 ?_
  refine aw_eq (pk_sub hn) ?_
  exact aw_ireti dX10_columnsOf_12 (⟨rfl, rfl⟩)

/-- whether a rule of a set lies at a place -/
def atL (inT : Nat → Bool) (R : Nat → Nat → Nat) (w p : Nat) : Nat → Bool := fun r => inT r && decide (R r 0 = w ∧ R r 1 = p)
def isL (inT : Nat → Bool) (R : Nat → Nat → Nat) (m w : Nat) : Nat → Bool := fun p => anyB (atL inT R w p) m
theorem any_s {q : Nat → Bool} {j : Nat} : anyB q (j + 1) = true ↔ anyB q j = true ∨ q j = true := Bool.or_eq_true_iff
theorem atL_y {inT : Nat → Bool} {R : Nat → Nat → Nat} {w p r : Nat} (h : inT r = true) (h0 : R r 0 = w) (h1 : R r 1 = p) : atL inT R w p r = true := by
  unfold atL
  rw [h, Bool.true_and]
  exact decide_eq_true ⟨h0, h1⟩
theorem atL_i {inT : Nat → Bool} {R : Nat → Nat → Nat} {w p r : Nat} (h : atL inT R w p r = true) : inT r = true ∧ R r 0 = w ∧ R r 1 = p := by
  unfold atL at h
  rw [Bool.and_eq_true] at h
  exact ⟨h.1, of_decide_eq_true h.2⟩
theorem ctB_no {p : Nat → Bool} {i : Nat} (h : ¬ p i = true) : ctB p (i + 1) = ctB p i + 0 := by
  show ctB p i + _ = _
  rw [if_neg h]
theorem two_ct {m : Nat} {lab : Nat → Nat} {R : Nat → Nat → Nat} {f w : Nat} (hB : ∀ r k, r < m → k < 6 → R r k ≤ 99) : 1 < ctB (isL (fun r => decide (lab r = f)) R m w) 100 ↔ twoB m lab R f w = true := by
  rw [two_iff]
  constructor
  · intro h
    obtain ⟨p, -, hp, cp⟩ := ctB_onto (k := 0) (by omega : 0 < ctB (isL (fun r => decide (lab r = f)) R m w) 100)
    obtain ⟨q, -, hq, cq⟩ := ctB_onto (k := 1) h
    obtain ⟨i, hi, ai⟩ := anyB_iff.mp hp
    obtain ⟨j, hj, aj⟩ := anyB_iff.mp hq
    obtain ⟨i1, i2, i3⟩ := atL_i ai
    obtain ⟨j1, j2, j3⟩ := atL_i aj
    refine ⟨i, j, hi, hj, of_decide_eq_true i1, of_decide_eq_true j1, i2, j2, ?_⟩
    rw [i3, j3]
    intro e
    rw [e] at cp
    omega
  · rintro ⟨i, j, hi, hj, h1, h2, h3, h4, h5⟩
    have b1 := hB i 1 hi (by decide)
    have b2 := hB j 1 hj (by decide)
    exact ctB_2 h5 (by omega) (by omega) (anyB_iff.mpr ⟨i, hi, atL_y (decide_eq_true h1) h3 rfl⟩) (anyB_iff.mpr ⟨j, hj, atL_y (decide_eq_true h2) h4 rfl⟩)
/-- what rises strictly is known by its members -/
theorem en {q : Nat → Bool} {s : Nat → Nat} {n N : Nat} (hs : ∀ i j, i < j → j < n → s i < s j) (hq : ∀ p, p < N → (q p = true ↔ ∃ k, k < n ∧ s k = p)) : ∀ p, p ≤ N → (ctB q p ≤ n ∧ (∀ k, k < n → (s k < p ↔ k < ctB q p)) ∧ (p < N → q p = true → ctB q p < n ∧ s (ctB q p) = p)) := by
  have key : ∀ p, p < N → (∀ k, k < n → (s k < p ↔ k < ctB q p)) → q p = true → ctB q p < n ∧ s (ctB q p) = p := by
    intro p hp h hy
    obtain ⟨k, hk, e⟩ := (hq p hp).mp hy
    have h1 : ¬ k < ctB q p := fun z => by have := (h k hk).mpr z; omega
    rcases Nat.lt_or_ge (ctB q p) k with z | z
    · have := hs (ctB q p) k z hk
      have h2 := (h (ctB q p) (by omega)).mp (by omega)
      omega
    · have : k = ctB q p := by omega
      rw [← this]
      exact ⟨hk, e⟩
  intro p
  induction p with
  | zero => exact fun _ => ⟨Nat.zero_le _, fun k hk => ⟨fun z => absurd z (Nat.not_lt_zero _), fun z => absurd z (Nat.not_lt_zero _)⟩, fun hp => key 0 hp (fun k hk => ⟨fun z => absurd z (Nat.not_lt_zero _), fun z => absurd z (Nat.not_lt_zero _)⟩)⟩
  | succ p ih =>
    intro hp
    obtain ⟨i1, i2, i3⟩ := ih (by omega)
    have h2 : ctB q (p + 1) ≤ n ∧ ∀ k, k < n → (s k < p + 1 ↔ k < ctB q (p + 1)) := by
      by_cases hy : q p = true
      · obtain ⟨a, b⟩ := i3 (by omega) hy
        rw [ctB_s hy]
        refine ⟨by omega, fun k hk => ?_⟩
        have := i2 k hk
        rcases Nat.lt_trichotomy k (ctB q p) with z | z | z
        · omega
        · rw [z, b]
          omega
        · have := hs _ _ z hk
          omega
      · rw [ctB_no hy]
        refine ⟨i1, fun k hk => ?_⟩
        have := i2 k hk
        have h3 : s k ≠ p := fun e => hy ((hq p (by omega)).mpr ⟨k, hk, e⟩)
        omega
    exact ⟨h2.1, h2.2, fun hN hy => key (p + 1) hN h2.2 hy⟩
theorem en_n {q : Nat → Bool} {s : Nat → Nat} {n N : Nat} (hs : ∀ i j, i < j → j < n → s i < s j) (hq : ∀ p, p < N → (q p = true ↔ ∃ k, k < n ∧ s k = p)) (hN : ∀ k, k < n → s k < N) : ctB q N = n := by
  obtain ⟨a, b, -⟩ := en hs hq N (Nat.le_refl _)
  rcases Nat.lt_or_ge (ctB q N) n with z | z
  · have := (b _ z).mp (hN _ z)
    omega
  · omega
theorem lnS_in {inT : Nat → Bool} {R : Nat → Nat → Nat} {w : Nat} : ∀ k l, l < (lnS inT R k).1 w → ∃ i, i < k ∧ inT i = true ∧ R i 0 = w ∧ R i 1 = (lnS inT R k).2 w l
  | 0, l, h => absurd h (Nat.not_lt_zero _)
  | k + 1, l, h => by
    by_cases c : inT k = true ∧ ¬ (0 < (lnS inT R k).1 (R k 0) ∧ (lnS inT R k).2 (R k 0) ((lnS inT R k).1 (R k 0) - 1) = R k 1)
    · have e : lnS inT R (k + 1) = (fun w => if w = R k 0 then (lnS inT R k).1 (R k 0) + 1 else (lnS inT R k).1 w, fun w j => if w = R k 0 ∧ j = (lnS inT R k).1 (R k 0) then R k 1 else (lnS inT R k).2 w j) := if_pos c
      rw [e] at h ⊢
      dsimp only at h ⊢
      by_cases z : w = R k 0 ∧ l = (lnS inT R k).1 (R k 0)
      · rw [if_pos z]
        exact ⟨k, by omega, c.1, z.1.symm, rfl⟩
      · rw [if_neg z]
        have h' : l < (lnS inT R k).1 w := by
          by_cases y : w = R k 0
          · rw [if_pos y] at h
            have : l ≠ (lnS inT R k).1 (R k 0) := fun e => z ⟨y, e⟩
            rw [y]
            omega
          · rw [if_neg y] at h
            exact h
        obtain ⟨i, hi, r⟩ := lnS_in k l h'
        exact ⟨i, by omega, r⟩
    · have e : lnS inT R (k + 1) = lnS inT R k := if_neg c
      rw [e] at h ⊢
      obtain ⟨i, hi, r⟩ := lnS_in k l h
      exact ⟨i, by omega, r⟩
set_option maxHeartbeats 4000000 in
set_option maxRecDepth 100000 in
theorem ct_countLines {g : GG} {σ : SG} {m f w : Nat} {lab : Nat → Nat} {R : Nat → Nat → Nat} (hm : σ.1 328 176 = nI m) (hR : ∀ r k, r < m → k < 6 → σ.2.1 181 (7 * r + k) = nI (R r k)) (hB : ∀ r k, r < m → k < 6 → R r k ≤ 99) (hm24 : m ≤ 24) (hL : ∀ k, k < m → σ.2.1 180 k = nI (lab k)) (hle : ∀ k, lab k ≤ k) (hf : f < m) (hw : w < 2) : Cti g yX10_countLines cX10_countLines 7 (some .int) (rmm 1 22) [.ref (ad g 176), .int (nI f), .int (nI w)] σ (fun r σ' => r = nI (ctB (isL (fun r => decide (lab r = f)) R m w) 100) ∧ σ' = σ) := by
  refine ct_of (own := RX10) (lv := [some (.ref (ad g 176)), some (.int (nI f)), some (.int (nI w)), none, none, none, none]) rfl (by decide) (Nat.le_of_ble_eq_true rfl) (by intro u hu; simp only [List.mem_cons, List.not_mem_nil, or_false] at hu; rcases hu with rfl | rfl | rfl <;> rfl) (lv_ok [.ref (ad g 176), .int (nI f), .int (nI w)] 4) ?_
  have hl180 := l_180
  refine aw_ic (nI 0) dX10_countLines_0 (by decide) ?_
  refine aw_istore_n dX10_countLines_1 (Nat.le_of_ble_eq_true rfl) ?_
  refine aw_ic (nI 0) dX10_countLines_2 (by decide) ?_
  refine aw_istore dX10_countLines_3 (Nat.le_of_ble_eq_true rfl) ?_
  refine for_ux (fun i σ' lv' => σ = σ' ∧ ∃ x y, lv' = [some (.ref (ad g 176)), some (.int (nI f)), some (.int (nI w)), some (.int (nI (ctB (isL (fun r => decide (lab r = f)) R m w) i))), some (.int (nI i)), x, y]) (100) ?_ ?_ (0) _ _ (by omega) (⟨rfl, _, _, rfl⟩)
  · rintro i σ2 lv2 hi ⟨rfl, x, y, rfl⟩ ih
    refine aw_iload dX10_countLines_5 rfl ?_
    refine aw_bi (nI 99) dX10_countLines_7 (by decide) ?_
    refine aw_icmp_gtN dX10_countLines_9 rfl (b := 99) rfl (by omega) (by omega) (fun h_9 => absurd h_9 (by omega)) (fun h_9 => ?_)
    refine aw_ic (nI 0) dX10_countLines_12 (by decide) ?_
    refine aw_istore dX10_countLines_13 (Nat.le_of_ble_eq_true rfl) ?_
    refine aw_ic (nI 0) dX10_countLines_15 (by decide) ?_
    refine aw_istore dX10_countLines_16 (Nat.le_of_ble_eq_true rfl) ?_
    refine for_ux (fun j σ' lv' => σ = σ' ∧ ∃ v, v = (if anyB (atL (fun r => decide (lab r = f)) R w i) j = true then 1 else 0) ∧ lv' = [some (.ref (ad g 176)), some (.int (nI f)), some (.int (nI w)), some (.int (nI (ctB (isL (fun r => decide (lab r = f)) R m w) i))), some (.int (nI i)), some (.int v), some (.int (nI j))]) (m) ?_ ?_ (0) _ _ (by omega) (⟨rfl, _, rfl, rfl⟩)
    · rintro j σ3 lv2 hj ⟨rfl, v, hv, rfl⟩ ih2
      have hll := hle j
      have j0 := hB j 0 hj (by decide)
      have j1 := hB j 1 hj (by decide)
      refine aw_iload dX10_countLines_18 rfl ?_
      refine aw_aload_n dX10_countLines_20 rfl ?_
      refine gf10_ruleMany dX10_countLines_21 kf10_105 k_176 ?_
      refine aw_eq hm ?_
      refine aw_icmp_geN dX10_countLines_24 rfl rfl (by omega) (by omega) (fun h_24 => absurd h_24 (by omega)) (fun h_24 => ?_)
      refine aw_iload dX10_countLines_27 rfl ?_
      refine aw_if_neB dX10_countLines_29 hv (fun h_29 => ?_) (fun h_29 => ?_)
      · skip
        refine aw_ic (nI 1) dX10_countLines_66 (by decide) ?_
        refine aw_goto dX10_countLines_67 ?_
        refine aw_istore dX10_countLines_71 (Nat.le_of_ble_eq_true rfl) ?_
        refine aw_inc (nI (j + 1)) dX10_countLines_73 rfl (Nat.le_of_ble_eq_true rfl) (nI_1 j) ?_
        refine aw_goto dX10_countLines_76 ?_
        exact ih2 _ _ ⟨rfl, _, (if_pos (any_s.mpr (Or.inl h_29))).symm, rfl⟩
      · skip
        refine aw_aload_n dX10_countLines_32 rfl ?_
        refine gf10_label dX10_countLines_33 kf10_19 k_176 ?_
        refine aw_eqr (b := 180) rfl ?_
        refine aw_iload dX10_countLines_36 rfl ?_
        refine aw_ld (j) dX10_countLines_38 k_180 (rfl) (by omega) ?_
        refine aw_eq (hL j hj) ?_
        refine aw_iload_n dX10_countLines_39 rfl ?_
        refine aw_icmp_neN dX10_countLines_40 rfl rfl (by omega) (by omega) (fun h_40 => ?_) (fun h_40 => ?_)
        · skip
          refine aw_ic (nI 0) dX10_countLines_70 (by decide) ?_
          refine aw_istore dX10_countLines_71 (Nat.le_of_ble_eq_true rfl) ?_
          refine aw_inc (nI (j + 1)) dX10_countLines_73 rfl (Nat.le_of_ble_eq_true rfl) (nI_1 j) ?_
          refine aw_goto dX10_countLines_76 ?_
          exact ih2 _ _ ⟨rfl, _, (if_neg (fun z => (any_s.mp z).elim h_29 (fun y => h_40 (of_decide_eq_true (atL_i y).1)))).symm, rfl⟩
        · skip
          refine aw_aload_n dX10_countLines_43 rfl ?_
          refine aw_iload dX10_countLines_44 rfl ?_
          refine aw_ic (nI 0) dX10_countLines_46 (by decide) ?_
          refine cqi2 dX10_countLines_47 km10_108 ok_X10_ruleAt rfl rfl (by decide) k_176 (Nat.le_of_ble_eq_true rfl) ⟨Nat.le_of_ble_eq_true rfl, Nat.le_of_ble_eq_true rfl⟩ rfl rfl (ct_ruleAt (r := j) (w := 0) (by omega)) ?_
          refine aw_eq (hR j 0 hj (by decide)) ?_
          refine aw_iload_n dX10_countLines_50 rfl ?_
          refine aw_icmp_neN dX10_countLines_51 rfl rfl (by omega) (by omega) (fun h_51 => ?_) (fun h_51 => ?_)
          · skip
            refine aw_ic (nI 0) dX10_countLines_70 (by decide) ?_
            refine aw_istore dX10_countLines_71 (Nat.le_of_ble_eq_true rfl) ?_
            refine aw_inc (nI (j + 1)) dX10_countLines_73 rfl (Nat.le_of_ble_eq_true rfl) (nI_1 j) ?_
            refine aw_goto dX10_countLines_76 ?_
            exact ih2 _ _ ⟨rfl, _, (if_neg (fun z => (any_s.mp z).elim h_29 (fun y => h_51 (atL_i y).2.1))).symm, rfl⟩
          · skip
            refine aw_aload_n dX10_countLines_54 rfl ?_
            refine aw_iload dX10_countLines_55 rfl ?_
            refine aw_ic (nI 1) dX10_countLines_57 (by decide) ?_
            refine cqi2 dX10_countLines_58 km10_108 ok_X10_ruleAt rfl rfl (by decide) k_176 (Nat.le_of_ble_eq_true rfl) ⟨Nat.le_of_ble_eq_true rfl, Nat.le_of_ble_eq_true rfl⟩ rfl rfl (ct_ruleAt (r := j) (w := 1) (by omega)) ?_
            refine aw_eq (hR j 1 hj (by decide)) ?_
            refine aw_iload dX10_countLines_61 rfl ?_
            refine aw_icmp_neN dX10_countLines_63 rfl rfl (by omega) (by omega) (fun h_63 => ?_) (fun h_63 => ?_)
            · skip
              refine aw_ic (nI 0) dX10_countLines_70 (by decide) ?_
              refine aw_istore dX10_countLines_71 (Nat.le_of_ble_eq_true rfl) ?_
              refine aw_inc (nI (j + 1)) dX10_countLines_73 rfl (Nat.le_of_ble_eq_true rfl) (nI_1 j) ?_
              refine aw_goto dX10_countLines_76 ?_
              exact ih2 _ _ ⟨rfl, _, (if_neg (fun z => (any_s.mp z).elim h_29 (fun y => h_63 (atL_i y).2.2))).symm, rfl⟩
            · skip
              refine aw_ic (nI 1) dX10_countLines_66 (by decide) ?_
              refine aw_goto dX10_countLines_67 ?_
              refine aw_istore dX10_countLines_71 (Nat.le_of_ble_eq_true rfl) ?_
              refine aw_inc (nI (j + 1)) dX10_countLines_73 rfl (Nat.le_of_ble_eq_true rfl) (nI_1 j) ?_
              refine aw_goto dX10_countLines_76 ?_
              exact ih2 _ _ ⟨rfl, _, (if_pos (any_s.mpr (Or.inr (atL_y (decide_eq_true h_40) h_51 h_63)))).symm, rfl⟩
    · rintro σ3 lv2 ⟨rfl, v, hv, rfl⟩
      have hv : v = (if isL (fun r => decide (lab r = f)) R m w i = true then 1 else 0) := hv
      refine aw_iload dX10_countLines_18 rfl ?_
      refine aw_aload_n dX10_countLines_20 rfl ?_
      refine gf10_ruleMany dX10_countLines_21 kf10_105 k_176 ?_
      refine aw_eq hm ?_
      refine aw_icmp_geN dX10_countLines_24 rfl rfl (by omega) (by omega) (fun h_24 => ?_) (fun h_24 => absurd h_24 (by omega))
      refine aw_iload_n dX10_countLines_79 rfl ?_
      refine aw_iload dX10_countLines_80 rfl ?_
      refine aw_if_eqB dX10_countLines_82 hv (fun h_82 => ?_) (fun h_82 => ?_)
      · skip
        refine aw_ic (nI 0) dX10_countLines_89 (by decide) ?_
        refine aw_iadd dX10_countLines_90 ?_
        refine aw_eq (nI_add _ _) ?_
        refine aw_istore_n dX10_countLines_91 (Nat.le_of_ble_eq_true rfl) ?_
        refine aw_inc (nI (i + 1)) dX10_countLines_92 rfl (Nat.le_of_ble_eq_true rfl) (nI_1 i) ?_
        refine aw_goto dX10_countLines_95 ?_
        exact ih _ _ ⟨rfl, _, _, by rw [ctB_no h_82]; rfl⟩
      · skip
        refine aw_ic (nI 1) dX10_countLines_85 (by decide) ?_
        refine aw_goto dX10_countLines_86 ?_
        refine aw_iadd dX10_countLines_90 ?_
        refine aw_eq (nI_add _ _) ?_
        refine aw_istore_n dX10_countLines_91 (Nat.le_of_ble_eq_true rfl) ?_
        refine aw_inc (nI (i + 1)) dX10_countLines_92 rfl (Nat.le_of_ble_eq_true rfl) (nI_1 i) ?_
        refine aw_goto dX10_countLines_95 ?_
        exact ih _ _ ⟨rfl, _, _, by rw [ctB_s h_82]; rfl⟩
  · rintro σ2 lv2 ⟨rfl, x, y, rfl⟩
    refine aw_iload dX10_countLines_5 rfl ?_
    refine aw_bi (nI 99) dX10_countLines_7 (by decide) ?_
    refine aw_icmp_gtN dX10_countLines_9 rfl (b := 99) rfl (by omega) (by omega) (fun h_9 => ?_) (fun h_9 => absurd h_9 (by omega))
    refine aw_iload_n dX10_countLines_98 rfl ?_
    exact aw_ireti dX10_countLines_99 (⟨rfl, rfl⟩)

theorem lay_sg {J B : Nat → Nat → Int32} {π : Nat → Nat} {h3 h4 : Nat → Int32} {a b : Nat} {x y : Int32} : ((J, uA (uA (uA (uA B 183 h3) 184 h4) 183 (upd ((uA (uA B 183 h3) 184 h4) 183) a x)) 184 (upd ((uA (uA (uA B 183 h3) 184 h4) 183 (upd ((uA (uA B 183 h3) 184 h4) 183) a x)) 184) b y), π) : SG) = (J, uA (uA B 183 (upd h3 a x)) 184 (upd h4 b y), π) := by
  have e1 : (uA (uA B 183 h3) 184 h4) 183 = h3 := by rw [uA_n (by decide), uA_s]
  have e2 : (uA (uA (uA B 183 h3) 184 h4) 183 (upd h3 a x)) 184 = h4 := by rw [uA_n (by decide), uA_s]
  rw [e1, e2]
  refine congrArg (fun z => (J, z, π)) ?_
  funext o
  by_cases h : o = 184
  · subst h
    rw [uA_s, uA_s]
  · rw [uA_n h, uA_n h]
    by_cases h2 : o = 183
    · subst h2
      rw [uA_s, uA_s]
    · rw [uA_n h2, uA_n h, uA_n h2, uA_n h2]
theorem lay_2 {J B : Nat → Nat → Int32} {π : Nat → Nat} {h3 h4 a b : Nat → Int32} : ((J, uA (uA (uA (uA B 183 h3) 184 h4) 183 a) 184 b, π) : SG) = (J, uA (uA B 183 a) 184 b, π) := by
  refine congrArg (fun z => (J, z, π)) ?_
  funext o
  by_cases h : o = 184
  · subst h
    rw [uA_s, uA_s]
  · rw [uA_n h, uA_n h]
    by_cases h2 : o = 183
    · subst h2
      rw [uA_s, uA_s]
    · rw [uA_n h2, uA_n h, uA_n h2, uA_n h2]
theorem lay_0 {J B : Nat → Nat → Int32} {π : Nat → Nat} {h : Nat → Int32} : ((J, uA B 184 h, π) : SG) = (J, uA (uA B 183 (B 183)) 184 h, π) := by rw [uA_same]
theorem lay_00 {J B : Nat → Nat → Int32} {π : Nat → Nat} : ((J, B, π) : SG) = (J, uA (uA B 183 (B 183)) 184 (B 184), π) := by rw [uA_same, uA_same]
set_option maxHeartbeats 4000000 in
set_option maxRecDepth 100000 in
theorem ct_layLines {g : GG} {σ : SG} {m t w n : Nat} {inT : Nat → Bool} {s : Nat → Nat} {R : Nat → Nat → Nat} (hm : σ.1 328 176 = nI m) (hR : ∀ r k, r < m → k < 6 → σ.2.1 181 (7 * r + k) = nI (R r k)) (hB : ∀ r k, r < m → k < 6 → R r k ≤ 99) (hm24 : m ≤ 24) (hT : ∀ r, r < m → (σ.2.1 181 (7 * r + 6) = nI t ↔ inT r = true)) (ht : t < 6) (hw : w < 2) (hn : n ≤ 22) (hs : ∀ i j, i < j → j < n → s i < s j) (hin : ∀ k, k < n → ∃ r, r < m ∧ inT r = true ∧ R r 0 = w ∧ R r 1 = s k) (hon : ∀ r, r < m → inT r = true → R r 0 = w → ∃ k, k < n ∧ s k = R r 1) : Ctv g yX10_layLines cX10_layLines 6 (rmm 1 22) [.ref (ad g 176), .int (nI t), .int (nI w)] σ (fun σ' => ∃ h3 h4, σ' = (σ.1, uA (uA σ.2.1 183 h3) 184 h4, σ.2.2) ∧ h4 (2 * t + w) = nI n ∧ (∀ x, x ≠ 2 * t + w → h4 x = σ.2.1 184 x) ∧ (∀ k, k < n → h3 (44 * t + 22 * w + k) = nI (s k)) ∧ (∀ x, (x < 44 * t + 22 * w ∨ 44 * t + 22 * w + 22 ≤ x) → h3 x = σ.2.1 183 x)) := by
  refine ct_of (own := RX10) (lv := [some (.ref (ad g 176)), some (.int (nI t)), some (.int (nI w)), none, none, none]) rfl (by decide) (Nat.le_of_ble_eq_true rfl) (by intro u hu; simp only [List.mem_cons, List.not_mem_nil, or_false] at hu; rcases hu with rfl | rfl | rfl <;> rfl) (lv_ok [.ref (ad g 176), .int (nI t), .int (nI w)] 3) ?_
  have hl184 := l_184
  have hl183 := l_183
  have hq : ∀ p, p < 100 → (isL inT R m w p = true ↔ ∃ k, k < n ∧ s k = p) := fun p _ => by
    constructor
    · intro h
      obtain ⟨r, hr, h2⟩ := anyB_iff.mp h
      obtain ⟨a, b, c⟩ := atL_i h2
      obtain ⟨k, hk, e⟩ := hon r hr a b
      exact ⟨k, hk, e.trans c⟩
    · rintro ⟨k, hk, e⟩
      obtain ⟨r, hr, a, b, c⟩ := hin k hk
      exact anyB_iff.mpr ⟨r, hr, atL_y a b (c.trans e)⟩
  have hN : ctB (isL inT R m w) 100 = n := en_n hs hq (fun k hk => by
    obtain ⟨r, hr, a, b, c⟩ := hin k hk
    have := hB r 1 hr (by decide)
    omega)
  refine aw_aload_n dX10_layLines_0 rfl ?_
  refine gf10_lineMany dX10_layLines_1 kf10_31 k_176 ?_
  refine aw_eqr (b := 184) rfl ?_
  refine aw_ic (nI 2) dX10_layLines_4 (by decide) ?_
  refine aw_iload_n dX10_layLines_5 rfl ?_
  refine aw_imul dX10_layLines_6 ?_
  refine aw_eq (show _ = nI (2 * t) by rw [pk_mul]) ?_
  refine aw_iload_n dX10_layLines_7 rfl ?_
  refine aw_iadd dX10_layLines_8 ?_
  refine aw_eq (show _ = nI (2 * t + w) by rw [nI_add]) ?_
  refine aw_ic (nI 0) dX10_layLines_9 (by decide) ?_
  refine aw_sto (2 * t + w) dX10_layLines_10 k_184 (rfl) (by omega) ?_
  refine aw_ic (nI 0) dX10_layLines_11 (by decide) ?_
  refine aw_istore_n dX10_layLines_12 (Nat.le_of_ble_eq_true rfl) ?_
  refine for_ux (fun i σ' lv' => ∃ h3 h4 x y, σ' = (σ.1, uA (uA σ.2.1 183 h3) 184 h4, σ.2.2) ∧ (h4 (2 * t + w) = nI (ctB (isL inT R m w) i) ∧ (∀ x, x ≠ 2 * t + w → h4 x = σ.2.1 184 x) ∧ (∀ k, k < ctB (isL inT R m w) i → h3 (44 * t + 22 * w + k) = nI (s k)) ∧ (∀ x, (x < 44 * t + 22 * w ∨ 44 * t + 22 * w + 22 ≤ x) → h3 x = σ.2.1 183 x)) ∧ lv' = [some (.ref (ad g 176)), some (.int (nI t)), some (.int (nI w)), some (.int (nI i)), x, y]) (100) ?_ ?_ (0) _ _ (by omega) (⟨σ.2.1 183, upd (σ.2.1 184) (2 * t + w) (nI 0), _, _, lay_0, ⟨pk_us, fun x hx => pk_un hx, fun k hk => absurd hk (Nat.not_lt_zero k), fun x _ => rfl⟩, rfl⟩)
  · rintro i σ2 lv2 hi ⟨h3, h4, x, y, rfl, ⟨g1, g2, g3, g4⟩, rfl⟩ ih
    have hen : isL inT R m w i = true → ctB (isL inT R m w) i < n ∧ s (ctB (isL inT R m w) i) = i := (en hs hq i (by omega)).2.2 hi
    refine aw_iload_n dX10_layLines_13 rfl ?_
    refine aw_bi (nI 99) dX10_layLines_14 (by decide) ?_
    refine aw_icmp_gtN dX10_layLines_16 rfl (b := 99) rfl (by omega) (by omega) (fun h_16 => absurd h_16 (by omega)) (fun h_16 => ?_)
    refine aw_ic (nI 0) dX10_layLines_19 (by decide) ?_
    refine aw_istore dX10_layLines_20 (Nat.le_of_ble_eq_true rfl) ?_
    refine aw_ic (nI 0) dX10_layLines_22 (by decide) ?_
    refine aw_istore dX10_layLines_23 (Nat.le_of_ble_eq_true rfl) ?_
    refine for_ux (fun j σ' lv' => σ' = (σ.1, uA (uA σ.2.1 183 h3) 184 h4, σ.2.2) ∧ ∃ v, v = (if anyB (atL inT R w i) j = true then 1 else 0) ∧ lv' = [some (.ref (ad g 176)), some (.int (nI t)), some (.int (nI w)), some (.int (nI i)), some (.int v), some (.int (nI j))]) (m) ?_ ?_ (0) _ _ (by omega) (⟨rfl, _, rfl, rfl⟩)
    · rintro j σ3 lv2 hj ⟨rfl, v, hv, rfl⟩ ih2
      have j0 := hB j 0 hj (by decide)
      have j1 := hB j 1 hj (by decide)
      refine aw_iload dX10_layLines_25 rfl ?_
      refine aw_aload_n dX10_layLines_27 rfl ?_
      refine gf10_ruleMany dX10_layLines_28 kf10_105 k_176 ?_
      refine aw_eq hm ?_
      refine aw_icmp_geN dX10_layLines_31 rfl rfl (by omega) (by omega) (fun h_31 => absurd h_31 (by omega)) (fun h_31 => ?_)
      refine aw_iload dX10_layLines_34 rfl ?_
      refine aw_if_neB dX10_layLines_36 hv (fun h_36 => ?_) (fun h_36 => ?_)
      · skip
        refine aw_ic (nI 1) dX10_layLines_73 (by decide) ?_
        refine aw_goto dX10_layLines_74 ?_
        refine aw_istore dX10_layLines_78 (Nat.le_of_ble_eq_true rfl) ?_
        refine aw_inc (nI (j + 1)) dX10_layLines_80 rfl (Nat.le_of_ble_eq_true rfl) (nI_1 j) ?_
        refine aw_goto dX10_layLines_83 ?_
        exact ih2 _ _ ⟨rfl, _, (if_pos (any_s.mpr (Or.inl h_36))).symm, rfl⟩
      · skip
        refine aw_aload_n dX10_layLines_39 rfl ?_
        refine aw_iload dX10_layLines_40 rfl ?_
        refine aw_bi (nI 6) dX10_layLines_42 (by decide) ?_
        refine cqi2 dX10_layLines_44 km10_108 ok_X10_ruleAt rfl rfl (by decide) k_176 (Nat.le_of_ble_eq_true rfl) ⟨Nat.le_of_ble_eq_true rfl, Nat.le_of_ble_eq_true rfl⟩ rfl rfl (ct_ruleAt (r := j) (w := 6) (by omega)) ?_
        refine aw_eq (tA (by decide) (nB (by decide) rfl)) ?_
        refine aw_iload_n dX10_layLines_47 rfl ?_
        refine aw_icmp_ne dX10_layLines_48 (fun h_48 => ?_) (fun h_48 => ?_)
        · skip
          refine aw_ic (nI 0) dX10_layLines_77 (by decide) ?_
          refine aw_istore dX10_layLines_78 (Nat.le_of_ble_eq_true rfl) ?_
          refine aw_inc (nI (j + 1)) dX10_layLines_80 rfl (Nat.le_of_ble_eq_true rfl) (nI_1 j) ?_
          refine aw_goto dX10_layLines_83 ?_
          exact ih2 _ _ ⟨rfl, _, (if_neg (fun z => (any_s.mp z).elim h_36 (fun y => h_48 ((hT j hj).mpr (atL_i y).1)))).symm, rfl⟩
        · skip
          refine aw_aload_n dX10_layLines_51 rfl ?_
          refine aw_iload dX10_layLines_52 rfl ?_
          refine aw_ic (nI 0) dX10_layLines_54 (by decide) ?_
          refine cqi2 dX10_layLines_55 km10_108 ok_X10_ruleAt rfl rfl (by decide) k_176 (Nat.le_of_ble_eq_true rfl) ⟨Nat.le_of_ble_eq_true rfl, Nat.le_of_ble_eq_true rfl⟩ rfl rfl (ct_ruleAt (r := j) (w := 0) (by omega)) ?_
          refine aw_eq (tA (by decide) (nB (by decide) (hR j 0 hj (by decide)))) ?_
          refine aw_iload_n dX10_layLines_58 rfl ?_
          refine aw_icmp_neN dX10_layLines_59 rfl rfl (by omega) (by omega) (fun h_59 => ?_) (fun h_59 => ?_)
          · skip
            refine aw_ic (nI 0) dX10_layLines_77 (by decide) ?_
            refine aw_istore dX10_layLines_78 (Nat.le_of_ble_eq_true rfl) ?_
            refine aw_inc (nI (j + 1)) dX10_layLines_80 rfl (Nat.le_of_ble_eq_true rfl) (nI_1 j) ?_
            refine aw_goto dX10_layLines_83 ?_
            exact ih2 _ _ ⟨rfl, _, (if_neg (fun z => (any_s.mp z).elim h_36 (fun y => h_59 (atL_i y).2.1))).symm, rfl⟩
          · skip
            refine aw_aload_n dX10_layLines_62 rfl ?_
            refine aw_iload dX10_layLines_63 rfl ?_
            refine aw_ic (nI 1) dX10_layLines_65 (by decide) ?_
            refine cqi2 dX10_layLines_66 km10_108 ok_X10_ruleAt rfl rfl (by decide) k_176 (Nat.le_of_ble_eq_true rfl) ⟨Nat.le_of_ble_eq_true rfl, Nat.le_of_ble_eq_true rfl⟩ rfl rfl (ct_ruleAt (r := j) (w := 1) (by omega)) ?_
            refine aw_eq (tA (by decide) (nB (by decide) (hR j 1 hj (by decide)))) ?_
            refine aw_iload_n dX10_layLines_69 rfl ?_
            refine aw_icmp_neN dX10_layLines_70 rfl rfl (by omega) (by omega) (fun h_70 => ?_) (fun h_70 => ?_)
            · skip
              refine aw_ic (nI 0) dX10_layLines_77 (by decide) ?_
              refine aw_istore dX10_layLines_78 (Nat.le_of_ble_eq_true rfl) ?_
              refine aw_inc (nI (j + 1)) dX10_layLines_80 rfl (Nat.le_of_ble_eq_true rfl) (nI_1 j) ?_
              refine aw_goto dX10_layLines_83 ?_
              exact ih2 _ _ ⟨rfl, _, (if_neg (fun z => (any_s.mp z).elim h_36 (fun y => h_70 (atL_i y).2.2))).symm, rfl⟩
            · skip
              refine aw_ic (nI 1) dX10_layLines_73 (by decide) ?_
              refine aw_goto dX10_layLines_74 ?_
              refine aw_istore dX10_layLines_78 (Nat.le_of_ble_eq_true rfl) ?_
              refine aw_inc (nI (j + 1)) dX10_layLines_80 rfl (Nat.le_of_ble_eq_true rfl) (nI_1 j) ?_
              refine aw_goto dX10_layLines_83 ?_
              exact ih2 _ _ ⟨rfl, _, (if_pos (any_s.mpr (Or.inr (atL_y ((hT j hj).mp h_48) h_59 h_70)))).symm, rfl⟩
    · rintro σ3 lv2 ⟨rfl, v, hv, rfl⟩
      have hv : v = (if isL inT R m w i = true then 1 else 0) := hv
      refine aw_iload dX10_layLines_25 rfl ?_
      refine aw_aload_n dX10_layLines_27 rfl ?_
      refine gf10_ruleMany dX10_layLines_28 kf10_105 k_176 ?_
      refine aw_eq hm ?_
      refine aw_icmp_geN dX10_layLines_31 rfl rfl (by omega) (by omega) (fun h_31 => ?_) (fun h_31 => absurd h_31 (by omega))
      refine aw_iload dX10_layLines_86 rfl ?_
      refine aw_if_eqB dX10_layLines_88 hv (fun h_88 => ?_) (fun h_88 => ?_)
      · skip
        refine aw_inc (nI (i + 1)) dX10_layLines_131 rfl (Nat.le_of_ble_eq_true rfl) (nI_1 i) ?_
        refine aw_goto dX10_layLines_134 ?_
        exact ih _ _ ⟨h3, h4, _, _, rfl, by rw [ctB_no h_88]; exact ⟨g1, g2, g3, g4⟩, rfl⟩
      · skip
        refine aw_aload_n dX10_layLines_91 rfl ?_
        refine gf10_lines dX10_layLines_92 kf10_28 k_176 ?_
        refine aw_eqr (b := 183) rfl ?_
        refine aw_bi (nI 44) dX10_layLines_95 (by decide) ?_
        refine aw_iload_n dX10_layLines_97 rfl ?_
        refine aw_imul dX10_layLines_98 ?_
        refine aw_eq (show _ = nI (44 * t) by rw [pk_mul]) ?_
        refine aw_bi (nI 22) dX10_layLines_99 (by decide) ?_
        refine aw_iload_n dX10_layLines_101 rfl ?_
        refine aw_imul dX10_layLines_102 ?_
        refine aw_eq (show _ = nI (22 * w) by rw [pk_mul]) ?_
        refine aw_iadd dX10_layLines_103 ?_
        refine aw_eq (show _ = nI (44 * t + 22 * w) by rw [nI_add]) ?_
        refine aw_aload_n dX10_layLines_104 rfl ?_
        refine gf10_lineMany dX10_layLines_105 kf10_31 k_176 ?_
        refine aw_eqr (b := 184) rfl ?_
        refine aw_ic (nI 2) dX10_layLines_108 (by decide) ?_
        refine aw_iload_n dX10_layLines_109 rfl ?_
        refine aw_imul dX10_layLines_110 ?_
        refine aw_eq (show _ = nI (2 * t) by rw [pk_mul]) ?_
        refine aw_iload_n dX10_layLines_111 rfl ?_
        refine aw_iadd dX10_layLines_112 ?_
        refine aw_eq (show _ = nI (2 * t + w) by rw [nI_add]) ?_
        refine aw_ld (2 * t + w) dX10_layLines_113 k_184 (rfl) (by omega) ?_
        refine aw_eq (sB g1) ?_
        refine aw_iadd dX10_layLines_114 ?_
        refine aw_iload_n dX10_layLines_115 rfl ?_
        refine aw_sto (44 * t + 22 * w + ctB (isL inT R m w) i) dX10_layLines_116 k_183 (by rw [nI_add]) (by have := hen h_88; omega) ?_
        refine aw_aload_n dX10_layLines_117 rfl ?_
        refine gf10_lineMany dX10_layLines_118 kf10_31 k_176 ?_
        refine aw_eqr (b := 184) rfl ?_
        refine aw_ic (nI 2) dX10_layLines_121 (by decide) ?_
        refine aw_iload_n dX10_layLines_122 rfl ?_
        refine aw_imul dX10_layLines_123 ?_
        refine aw_eq (show _ = nI (2 * t) by rw [pk_mul]) ?_
        refine aw_iload_n dX10_layLines_124 rfl ?_
        refine aw_iadd dX10_layLines_125 ?_
        refine aw_eq (show _ = nI (2 * t + w) by rw [nI_add]) ?_
        refine aw_dup2 dX10_layLines_126 rfl rfl ?_
        refine aw_ld (2 * t + w) dX10_layLines_127 k_184 (rfl) (by omega) ?_
        refine aw_eq (nB (by decide) (sB g1)) ?_
        refine aw_ic (nI 1) dX10_layLines_128 (by decide) ?_
        refine aw_iadd dX10_layLines_129 ?_
        refine aw_eq (show _ = nI (ctB (isL inT R m w) i + 1) by rw [nI_add]) ?_
        refine aw_sto (2 * t + w) dX10_layLines_130 k_184 (rfl) (by omega) ?_
        refine aw_inc (nI (i + 1)) dX10_layLines_131 rfl (Nat.le_of_ble_eq_true rfl) (nI_1 i) ?_
        refine aw_goto dX10_layLines_134 ?_
        exact ih _ _ ⟨upd h3 (44 * t + 22 * w + ctB (isL inT R m w) i) (nI i), upd h4 (2 * t + w) (nI (ctB (isL inT R m w) i + 1)), _, _, lay_sg, by
          rw [ctB_s h_88]
          obtain ⟨z1, z2⟩ := hen h_88
          refine ⟨pk_us, fun x hx => by rw [pk_un hx]; exact g2 x hx, fun k hk => ?_, fun x hx => by rw [pk_un (by omega)]; exact g4 x hx⟩
          by_cases q : k = ctB (isL inT R m w) i
          · rw [q, pk_us, z2]
          · rw [pk_un (by omega)]; exact g3 k (by omega), rfl⟩
  · rintro σ2 lv2 ⟨h3, h4, x, y, rfl, ⟨g1, g2, g3, g4⟩, rfl⟩
    refine aw_iload_n dX10_layLines_13 rfl ?_
    refine aw_bi (nI 99) dX10_layLines_14 (by decide) ?_
    refine aw_icmp_gtN dX10_layLines_16 rfl (b := 99) rfl (by omega) (by omega) (fun h_16 => ?_) (fun h_16 => absurd h_16 (by omega))
    exact aw_ret dX10_layLines_137 (⟨h3, h4, rfl, by rw [← hN]; exact g1, g2, fun k hk => g3 k (by omega), g4⟩)

