theorem fb_holes : ∀ (m n : Nat) (f : Nat → Nat), (∀ i, i < n → f i < m) → (∀ i j, i < j → j < n → f i ≠ f j) → n ≤ m := by
  intro m
  induction m with
  | zero =>
    intro n f h1 _
    rcases Nat.eq_zero_or_pos n with h | h
    · omega
    · exact absurd (h1 0 h) (Nat.not_lt_zero _)
  | succ m ih =>
    intro n f h1 h2
    by_cases hx : ∃ i, i < n ∧ f i = m
    · obtain ⟨a, ha, hfa⟩ := hx
      have hg := ih (n - 1) (fun i => if i < a then f i else f (i + 1)) (by
        intro i hi
        by_cases q : i < a
        · simp only [if_pos q]
          have b1 := h1 i (by omega)
          have b2 := h2 i a q ha
          omega
        · simp only [if_neg q]
          have b1 := h1 (i + 1) (by omega)
          have b2 := h2 a (i + 1) (by omega) (by omega)
          omega) (by
        intro i j hij hj
        by_cases q : i < a
        · by_cases r : j < a
          · simp only [if_pos q, if_pos r]
            exact h2 i j hij (by omega)
          · simp only [if_pos q, if_neg r]
            exact h2 i (j + 1) (by omega) (by omega)
        · have r : ¬ j < a := by omega
          simp only [if_neg q, if_neg r]
          exact h2 (i + 1) (j + 1) (by omega) (by omega))
      omega
    · have hg := ih n f (fun i hi => by
        have b1 := h1 i hi
        have b2 : f i ≠ m := fun e => hx ⟨i, hi, e⟩
        omega) h2
      omega
/-- two of them in one place -/
theorem fb_twice {m n : Nat} {f : Nat → Nat} (h : ∀ i, i < n → f i < m) (hm : m < n) : ∃ i j, i < j ∧ j < n ∧ f i = f j := by
  refine Classical.byContradiction fun hx => ?_
  have := fb_holes m n f h (fun i j hij hj e => hx ⟨i, j, hij, hj, e⟩)
  omega
/-- as many as places, none twice: each place is taken -/
theorem fb_onto {n : Nat} {f : Nat → Nat} (h : ∀ i, i < n → f i < n) (h2 : ∀ i j, i < j → j < n → f i ≠ f j) {y : Nat} (hy : y < n) : ∃ i, i < n ∧ f i = y := by
  refine Classical.byContradiction fun hx => ?_
  have hne : ∀ i, i < n → f i ≠ y := fun i hi e => hx ⟨i, hi, e⟩
  have := fb_holes (n - 1) n (fun i => if f i < y then f i else f i - 1) (by
    intro i hi
    have b1 := h i hi
    have b2 := hne i hi
    by_cases q : f i < y
    · simp only [if_pos q]; omega
    · simp only [if_neg q]; omega) (by
    intro i j hij hj
    have b1 := hne i (by omega)
    have b2 := hne j hj
    have b3 := h2 i j hij hj
    by_cases q : f i < y
    · by_cases r : f j < y
      · simp only [if_pos q, if_pos r]; exact b3
      · simp only [if_pos q, if_neg r]; omega
    · by_cases r : f j < y
      · simp only [if_neg q, if_pos r]; omega
      · simp only [if_neg q, if_neg r]; omega)
  omega
/-! ===== how many places have a property ===== -/
theorem bef_iff {ra rb : Nat → Nat} : befN ra rb = true ↔ (ra 0 < rb 0 ∨ (ra 0 = rb 0 ∧ (ra 1 < rb 1 ∨ (ra 1 = rb 1 ∧ (ra 2 < rb 2 ∨ (ra 2 = rb 2 ∧ (ra 3 < rb 3 ∨ (ra 3 = rb 3 ∧ ra 5 < rb 5)))))))) := by
  unfold befN
  by_cases h0 : ra 0 = rb 0
  · by_cases h1 : ra 1 = rb 1
    · by_cases h2 : ra 2 = rb 2
      · by_cases h3 : ra 3 = rb 3
        · simp [h0, h1, h2, h3]
        · simp [h0, h1, h2, h3]
      · simp [h0, h1, h2]
    · simp [h0, h1]
  · simp [h0]
theorem bef_trans {a b c : Nat → Nat} (h : befN a b = true) (h2 : befN b c = true) : befN a c = true := by
  rw [bef_iff] at h h2 ⊢
  omega
theorem bef_asym {a b : Nat → Nat} (h : befN a b = true) (h2 : befN b a = true) : False := by
  rw [bef_iff] at h h2
  omega
theorem bef_total {a b : Nat → Nat} (h : a 5 ≠ b 5) (h2 : ¬ befN a b = true) : befN b a = true := by
  rw [bef_iff] at h2 ⊢
  omega
/-- an order of the first m by befN -/
def SoP (Q : Nat → Nat → Nat) (m : Nat) (τ : Nat → Nat) : Prop := (∀ k, k < m → τ k < m) ∧ (∀ j k, j < m → k < m → τ j = τ k → j = k) ∧ ∀ j k, j < k → k < m → befN (Q (τ j)) (Q (τ k)) = true
theorem SoP.onto {Q : Nat → Nat → Nat} {m : Nat} {τ : Nat → Nat} (h : SoP Q m τ) {y : Nat} (hy : y < m) : ∃ i, i < m ∧ τ i = y := fb_onto h.1 (fun i j hij hj e => absurd (h.2.1 i j (by omega) hj e) (by omega)) hy
theorem SoP.one {Q : Nat → Nat → Nat} {m : Nat} {τ τ' : Nat → Nat} (h : SoP Q m τ) (h' : SoP Q m τ') : ∀ k, k < m → τ k = τ' k := by
  intro k
  induction k using Nat.strongRecOn with
  | ind k ih =>
    intro hk
    obtain ⟨j, hj, ej⟩ := h.onto (h'.1 k hk)
    obtain ⟨i, hi, ei⟩ := h'.onto (h.1 k hk)
    rcases Nat.lt_trichotomy j k with q | q | q
    · have := ih j q hj
      have := h'.2.1 j k hj hk (by omega)
      omega
    · rw [← ej, q]
    · rcases Nat.lt_trichotomy i k with q2 | q2 | q2
      · have := ih i q2 hi
        have := h.2.1 i k hi hk (by omega)
        omega
      · rw [← ei, q2]
      · have b1 := h.2.2 k j q hj
        have b2 := h'.2.2 k i q2 hi
        rw [ej] at b1
        rw [ei] at b2
        exact (bef_asym b1 b2).elim
/-- the order itself -/
noncomputable def srt (Q : Nat → Nat → Nat) (m : Nat) : Nat → Nat := Classical.epsilon (fun τ => SoP Q m τ)
theorem srt_ok {Q : Nat → Nat → Nat} {m : Nat} {τ : Nat → Nat} (h : SoP Q m τ) : SoP Q m (srt Q m) := Classical.epsilon_spec (p := fun τ => SoP Q m τ) ⟨τ, h⟩
theorem srt_eq {Q : Nat → Nat → Nat} {m : Nat} {τ : Nat → Nat} (h : SoP Q m τ) {k : Nat} (hk : k < m) : τ k = srt Q m k := h.one (srt_ok h) k hk
/-- one more is put in at t -/
def shf (τ : Nat → Nat) (i t k : Nat) : Nat := if k < t then τ k else if k = t then i else if k ≤ i then τ (k - 1) else k
theorem SoP.ins {Q : Nat → Nat → Nat} {i t : Nat} {τ : Nat → Nat} (h : SoP Q i τ) (ht : t ≤ i) (hlo : ∀ j, j < t → befN (Q (τ j)) (Q i) = true) (hhi : ∀ j, t ≤ j → j < i → befN (Q i) (Q (τ j)) = true) : SoP Q (i + 1) (shf τ i t) := by
  refine ⟨?_, ?_, ?_⟩
  · intro k hk
    unfold shf
    split
    · have := h.1 k (by omega)
      omega
    · split
      · omega
      · rw [if_pos (by omega)]
        have := h.1 (k - 1) (by omega)
        omega
  · intro j k hj hk e
    unfold shf at e
    by_cases j1 : j < t
    · rw [if_pos j1] at e
      by_cases k1 : k < t
      · rw [if_pos k1] at e
        exact h.2.1 j k (by omega) (by omega) e
      · rw [if_neg k1] at e
        by_cases k2 : k = t
        · rw [if_pos k2] at e
          have := h.1 j (by omega)
          omega
        · rw [if_neg k2, if_pos (by omega)] at e
          have := h.2.1 j (k - 1) (by omega) (by omega) e
          omega
    · rw [if_neg j1] at e
      by_cases j2 : j = t
      · rw [if_pos j2] at e
        by_cases k1 : k < t
        · rw [if_pos k1] at e
          have := h.1 k (by omega)
          omega
        · rw [if_neg k1] at e
          by_cases k2 : k = t
          · omega
          · rw [if_neg k2, if_pos (by omega)] at e
            have := h.1 (k - 1) (by omega)
            omega
      · rw [if_neg j2, if_pos (by omega)] at e
        by_cases k1 : k < t
        · rw [if_pos k1] at e
          have := h.2.1 (j - 1) k (by omega) (by omega) e
          omega
        · rw [if_neg k1] at e
          by_cases k2 : k = t
          · rw [if_pos k2] at e
            have := h.1 (j - 1) (by omega)
            omega
          · rw [if_neg k2, if_pos (by omega)] at e
            have := h.2.1 (j - 1) (k - 1) (by omega) (by omega) e
            omega
  · intro j k hjk hk
    unfold shf
    by_cases j1 : j < t
    · rw [if_pos j1]
      by_cases k1 : k < t
      · rw [if_pos k1]
        exact h.2.2 j k hjk (by omega)
      · rw [if_neg k1]
        by_cases k2 : k = t
        · rw [if_pos k2]
          exact hlo j j1
        · rw [if_neg k2, if_pos (by omega)]
          exact h.2.2 j (k - 1) (by omega) (by omega)
    · rw [if_neg j1]
      by_cases j2 : j = t
      · rw [if_pos j2, if_neg (by omega), if_neg (by omega), if_pos (by omega)]
        exact hhi (k - 1) (by omega) (by omega)
      · rw [if_neg j2, if_pos (by omega), if_neg (by omega), if_neg (by omega), if_pos (by omega)]
        exact h.2.2 (j - 1) (k - 1) (by omega) (by omega)
set_option maxHeartbeats 4000000 in
set_option maxRecDepth 100000 in
theorem ct_sort {g : GG} {σ : SG} {m : Nat} {Q : Nat → Nat → Nat} (hm : σ.1 226 24 = nI m) (hm24 : m ≤ 24) (hπ : Perm σ.2.2) (hQ : ∀ c, c < m → RuF σ.1 (25 + 1 + σ.2.2 c) (Q c) ∧ RuB (Q c)) (hdis : ∀ a b, a < m → b < m → Q a 5 = Q b 5 → a = b) : Ctv g yX7_sort cX7_sort 4 (rmm 1 21) [.ref (ad g 24)] σ (fun σ' => ∃ τ, SoP Q m τ ∧ (∀ k, m ≤ k → τ k = k) ∧ σ' = (σ.1, σ.2.1, fun k => σ.2.2 (τ k))) := by
  refine ct_of (own := RX7) (lv := [some (.ref (ad g 24)), none, none, none]) rfl (by decide) (Nat.le_of_ble_eq_true rfl) (by intro u hu; simp only [List.mem_cons, List.not_mem_nil, or_false] at hu; rcases hu with rfl <;> rfl) (lv_ok [.ref (ad g 24)] 3) ?_
  have hl25 := l_25
  refine aw_ic (nI 1) dX7_sort_0 (by decide) ?_
  refine aw_istore_n dX7_sort_1 (Nat.le_of_ble_eq_true rfl) ?_
  refine for_wf (fun n σ' lv => ∃ i τ x y, n = m - i ∧ 1 ≤ i ∧ (i ≤ m ∨ i = 1) ∧ SoP Q i τ ∧ (∀ k, i ≤ k → τ k = k) ∧ σ' = (σ.1, σ.2.1, fun k => σ.2.2 (τ k)) ∧ lv = [some (.ref (ad g 24)), some (.int (nI i)), x, y]) ?_ (m - 1) _ _ ⟨1, fun k => k, _, _, rfl, by omega, Or.inr rfl, ⟨fun k h => h, fun j k _ _ e => e, fun j k h1 h2 => by omega⟩, fun k _ => rfl, rfl, rfl⟩
  rintro n σ2 lv2 ⟨i, τ, x, y, hn, hi1, him, hSo, hτ, rfl, rfl⟩ ih
  refine aw_iload_n dX7_sort_2 rfl ?_
  refine aw_aload_n dX7_sort_3 rfl ?_
  refine gf7_count dX7_sort_4 kf7_22 k_24 ?_
  refine aw_eq hm ?_
  refine aw_icmp_geN dX7_sort_7 rfl rfl (by omega) (by omega) (fun h_7 => ?_) (fun h_7 => ?_)
  · skip
    exact aw_ret dX7_sort_71 (by
        refine ⟨τ, ⟨fun k hk => ?_, fun j k h1 h2 e => hSo.2.1 j k (by omega) (by omega) e, fun j k h1 h2 => hSo.2.2 j k h1 (by omega)⟩, fun k hk => ?_, rfl⟩
        · have := hSo.1 k (by omega)
          omega
        · by_cases e : i ≤ k
          · exact hτ k e
          · have := hSo.1 k (by omega)
            omega)
  · skip
    refine aw_aload_n dX7_sort_10 rfl ?_
    refine gf7_all dX7_sort_11 kf7_11 k_24 ?_
    refine aw_eqr (b := 25) rfl ?_
    have hri : σ.2.2 i < 24 := hπ.1 i (by omega)
    refine aw_iload_n dX7_sort_14 rfl ?_
    refine aw_ald14 (i) dX7_sort_15 k_25 (rfl) (by omega) ?_
    refine aw_eqr (b := 25 + 1 + σ.2.2 i) (by rw [hτ i (Nat.le_refl i)]) ?_
    refine aw_astore_n dX7_sort_16 (Nat.le_of_ble_eq_true rfl) ?_
    refine aw_iload_n dX7_sort_17 rfl ?_
    refine aw_istore_n dX7_sort_18 (Nat.le_of_ble_eq_true rfl) ?_
    refine for_wf (fun t σ' lv => t ≤ i ∧ ∃ π', σ' = (σ.1, σ.2.1, π') ∧ (∀ k, k ≠ t → π' k = σ.2.2 (shf τ i t k)) ∧ (∀ j, t ≤ j → j < i → befN (Q i) (Q (τ j)) = true) ∧ lv = [some (.ref (ad g 24)), some (.int (nI i)), some (.ref (ad g (25 + 1 + σ.2.2 i))), some (.int (nI t))]) ?_ i _ _ ⟨Nat.le_refl i, _, rfl, fun k hk => ?_, fun j h1 h2 => by omega, rfl⟩
    rotate_left
    · show σ.2.2 (τ k) = _
      unfold shf
      by_cases q : k < i
      · rw [if_pos q]
      · rw [if_neg q, if_neg hk, if_neg (by omega), hτ k (by omega)]
    rintro t σ3 lv3 ⟨ht, π', rfl, hπ', hhi, rfl⟩ ih2
    refine aw_iload_n dX7_sort_19 rfl ?_
    refine aw_if_leN dX7_sort_20 rfl (by omega) (fun h_20 => ?_) (fun h_20 => ?_)
    · skip
      refine aw_aload_n dX7_sort_58 rfl ?_
      refine gf7_all dX7_sort_59 kf7_11 k_24 ?_
      refine aw_eqr (b := 25) rfl ?_
      refine aw_iload_n dX7_sort_62 rfl ?_
      refine aw_aload_n dX7_sort_63 rfl ?_
      refine aw_ast14 t dX7_sort_64 rfl (by omega) hri ?_
      refine aw_inc (nI (i + 1)) dX7_sort_65 rfl (Nat.le_of_ble_eq_true rfl) (nI_1 i) ?_
      refine aw_goto dX7_sort_68 ?_
      have hlo : ∀ j, j < t → befN (Q (τ j)) (Q i) = true := by
        intro j hj
        have hb : befN (Q (τ (t - 1))) (Q i) = true := by
          first
            | exact absurd h_20 (by omega)
            | exact bef_total (fun e => by
                have h8 := hSo.1 (t - 1) (by omega)
                have h9 := hdis i (τ (t - 1)) (by omega) (by omega) e
                omega) h_35
        by_cases e : j = t - 1
        · rw [e]
          exact hb
        · exact bef_trans (hSo.2.2 j (t - 1) (by omega) (by omega)) hb
      refine ih (m - (i + 1)) _ _ (by omega) ⟨i + 1, shf τ i t, _, _, rfl, by omega, Or.inl (by omega), hSo.ins ht hlo hhi, fun k hk => ?_, ?_, rfl⟩
      · unfold shf
        rw [if_neg (by omega), if_neg (by omega), if_neg (by omega)]
      · congr 2
        funext k
        by_cases e : k = t
        · rw [e, uP_s]
          unfold shf
          rw [if_neg (by omega), if_pos rfl]
        · rw [uP_n e]
          exact hπ' k e
    · skip
      refine aw_aload_n dX7_sort_23 rfl ?_
      refine aw_aload_n dX7_sort_24 rfl ?_
      refine gf7_all dX7_sort_25 kf7_11 k_24 ?_
      refine aw_eqr (b := 25) rfl ?_
      refine aw_iload_n dX7_sort_28 rfl ?_
      refine aw_ic (nI 1) dX7_sort_29 (by decide) ?_
      refine aw_isub dX7_sort_30 ?_
      refine aw_eq (show _ = nI (t - 1) from pk_sub (by omega)) ?_
      have ht1 : π' (t - 1) = σ.2.2 (τ (t - 1)) := by rw [hπ' (t - 1) (by omega), shf, if_pos (by omega)]
      have hτt : τ (t - 1) < i := hSo.1 _ (by omega)
      have hrt : π' (t - 1) < 24 := by rw [ht1]; exact hπ.1 _ (by omega)
      refine aw_ald14 (t - 1) dX7_sort_31 k_25 (rfl) (by omega) ?_
      refine cqi1 dX7_sort_32 km7_93 ok_X6_comesBefore rfl rfl (by decide) (k_rule hri) (Nat.le_of_ble_eq_true rfl) ⟨Nat.le_of_ble_eq_true rfl, Nat.le_of_ble_eq_true rfl⟩ rfl rfl (ct_Rule_comesBefore (k_rule hri) (k_rule hrt) (hQ i (by omega)).1 (hQ i (by omega)).2 (by rw [ht1]; exact (hQ (τ (t - 1)) (by omega)).1) (hQ (τ (t - 1)) (by omega)).2) ?_
      refine aw_if_eqB dX7_sort_35 rfl (fun h_35 => ?_) (fun h_35 => ?_)
      · skip
        refine aw_aload_n dX7_sort_58 rfl ?_
        refine gf7_all dX7_sort_59 kf7_11 k_24 ?_
        refine aw_eqr (b := 25) rfl ?_
        refine aw_iload_n dX7_sort_62 rfl ?_
        refine aw_aload_n dX7_sort_63 rfl ?_
        refine aw_ast14 t dX7_sort_64 rfl (by omega) hri ?_
        refine aw_inc (nI (i + 1)) dX7_sort_65 rfl (Nat.le_of_ble_eq_true rfl) (nI_1 i) ?_
        refine aw_goto dX7_sort_68 ?_
        have hlo : ∀ j, j < t → befN (Q (τ j)) (Q i) = true := by
          intro j hj
          have hb : befN (Q (τ (t - 1))) (Q i) = true := by
            first
              | exact absurd h_20 (by omega)
              | exact bef_total (fun e => by
                  have h8 := hSo.1 (t - 1) (by omega)
                  have h9 := hdis i (τ (t - 1)) (by omega) (by omega) e
                  omega) h_35
          by_cases e : j = t - 1
          · rw [e]
            exact hb
          · exact bef_trans (hSo.2.2 j (t - 1) (by omega) (by omega)) hb
        refine ih (m - (i + 1)) _ _ (by omega) ⟨i + 1, shf τ i t, _, _, rfl, by omega, Or.inl (by omega), hSo.ins ht hlo hhi, fun k hk => ?_, ?_, rfl⟩
        · unfold shf
          rw [if_neg (by omega), if_neg (by omega), if_neg (by omega)]
        · congr 2
          funext k
          by_cases e : k = t
          · rw [e, uP_s]
            unfold shf
            rw [if_neg (by omega), if_pos rfl]
          · rw [uP_n e]
            exact hπ' k e
      · skip
        refine aw_aload_n dX7_sort_38 rfl ?_
        refine gf7_all dX7_sort_39 kf7_11 k_24 ?_
        refine aw_eqr (b := 25) rfl ?_
        refine aw_iload_n dX7_sort_42 rfl ?_
        refine aw_aload_n dX7_sort_43 rfl ?_
        refine gf7_all dX7_sort_44 kf7_11 k_24 ?_
        refine aw_eqr (b := 25) rfl ?_
        refine aw_iload_n dX7_sort_47 rfl ?_
        refine aw_ic (nI 1) dX7_sort_48 (by decide) ?_
        refine aw_isub dX7_sort_49 ?_
        refine aw_eq (show _ = nI (t - 1) from pk_sub (by omega)) ?_
        refine aw_ald14 (t - 1) dX7_sort_50 k_25 (rfl) (by omega) ?_
        refine aw_ast14 t dX7_sort_51 rfl (by omega) hrt ?_
        refine aw_inc (nI (t - 1)) dX7_sort_52 rfl (Nat.le_of_ble_eq_true rfl) (sb_m1 h_20) ?_
        refine aw_goto dX7_sort_55 ?_
        refine ih2 (t - 1) _ _ (by omega) ⟨by omega, _, rfl, fun k hk => ?_, fun j h1 h2 => ?_, rfl⟩
        · by_cases e : k = t
          · rw [e, uP_s, ht1]
            unfold shf
            rw [if_neg (by omega), if_neg (by omega), if_pos (by omega)]
          · rw [uP_n e, hπ' k e]
            unfold shf
            by_cases q : k < t
            · rw [if_pos q, if_pos (by omega)]
            · simp only [if_neg q, if_neg e, if_neg (show ¬ k < t - 1 by omega), if_neg hk]
        · by_cases e : j = t - 1
          · rw [e]
            exact h_35
          · exact hhi j (by omega) h2

