set_option maxHeartbeats 4000000 in
set_option maxRecDepth 100000 in
theorem ct_isWay {g : GG} {σ : SG} (x : Int32) : Cti g yX9_isWay cX9_isWay 1 (some .boolean) (rmm 0 0) [.int x] σ (fun r σ' => r = (if x = 0 ∨ x = nI 1 then 1 else 0) ∧ σ' = σ) := by
  refine ct_of (own := RX9) (lv := [some (.int x)]) rfl (by decide) (Nat.le_of_ble_eq_true rfl) (by intro u hu; simp only [List.mem_cons, List.not_mem_nil, or_false] at hu; rcases hu with rfl <;> rfl) (lv_ok [.int x] 0) ?_
  refine aw_iload_n dX9_isWay_0 rfl ?_
  refine aw_if_eq dX9_isWay_1 (fun h_1 => ?_) (fun h_1 => ?_)
  · skip
    refine aw_ic (nI 1) dX9_isWay_9 (by decide) ?_
    refine aw_goto dX9_isWay_10 ?_
    exact aw_iretz dX9_isWay_14 (by decide) (by first | exact ⟨rfl, rfl⟩ | exact ⟨(if_pos (by simp_all)).symm, rfl⟩ | exact ⟨(if_neg (by simp_all)).symm, rfl⟩)
  · skip
    refine aw_iload_n dX9_isWay_4 rfl ?_
    refine aw_ic (nI 1) dX9_isWay_5 (by decide) ?_
    refine aw_icmp_ne dX9_isWay_6 (fun h_6 => ?_) (fun h_6 => ?_)
    · skip
      refine aw_ic (nI 0) dX9_isWay_13 (by decide) ?_
      exact aw_iretz dX9_isWay_14 (by decide) (by first | exact ⟨rfl, rfl⟩ | exact ⟨(if_pos (by simp_all)).symm, rfl⟩ | exact ⟨(if_neg (by simp_all)).symm, rfl⟩)
    · skip
      refine aw_ic (nI 1) dX9_isWay_9 (by decide) ?_
      refine aw_goto dX9_isWay_10 ?_
      exact aw_iretz dX9_isWay_14 (by decide) (by first | exact ⟨rfl, rfl⟩ | exact ⟨(if_pos (by simp_all)).symm, rfl⟩ | exact ⟨(if_neg (by simp_all)).symm, rfl⟩)

set_option maxHeartbeats 4000000 in
set_option maxRecDepth 100000 in
theorem ct_isPlace {g : GG} {σ : SG} (x : Int32) : Cti g yX9_isPlace cX9_isPlace 1 (some .boolean) (rmm 0 0) [.int x] σ (fun r σ' => r = (if ¬ x < 0 ∧ ¬ nI 100 ≤ x then 1 else 0) ∧ σ' = σ) := by
  refine ct_of (own := RX9) (lv := [some (.int x)]) rfl (by decide) (Nat.le_of_ble_eq_true rfl) (by intro u hu; simp only [List.mem_cons, List.not_mem_nil, or_false] at hu; rcases hu with rfl <;> rfl) (lv_ok [.int x] 0) ?_
  refine aw_iload_n dX9_isPlace_0 rfl ?_
  refine aw_if_lt dX9_isPlace_1 (fun h_1 => ?_) (fun h_1 => ?_)
  · skip
    refine aw_ic (nI 0) dX9_isPlace_14 (by decide) ?_
    exact aw_iretz dX9_isPlace_15 (by decide) (by first | exact ⟨rfl, rfl⟩ | exact ⟨(if_pos (by simp_all)).symm, rfl⟩ | exact ⟨(if_neg (by simp_all)).symm, rfl⟩)
  · skip
    refine aw_iload_n dX9_isPlace_4 rfl ?_
    refine aw_bi (nI 100) dX9_isPlace_5 (by decide) ?_
    refine aw_icmp_ge dX9_isPlace_7 (fun h_7 => ?_) (fun h_7 => ?_)
    · skip
      refine aw_ic (nI 0) dX9_isPlace_14 (by decide) ?_
      exact aw_iretz dX9_isPlace_15 (by decide) (by first | exact ⟨rfl, rfl⟩ | exact ⟨(if_pos (by simp_all)).symm, rfl⟩ | exact ⟨(if_neg (by simp_all)).symm, rfl⟩)
    · skip
      refine aw_ic (nI 1) dX9_isPlace_10 (by decide) ?_
      refine aw_goto dX9_isPlace_11 ?_
      exact aw_iretz dX9_isPlace_15 (by decide) (by first | exact ⟨rfl, rfl⟩ | exact ⟨(if_pos (by simp_all)).symm, rfl⟩ | exact ⟨(if_neg (by simp_all)).symm, rfl⟩)

set_option maxHeartbeats 4000000 in
set_option maxRecDepth 100000 in
theorem ct_isStretch {g : GG} {σ : SG} (x y : Int32) : Cti g yX9_isStretch cX9_isStretch 2 (some .boolean) (rmm 1 20) [.int x, .int y] σ (fun r σ' => r = (if (¬ x < 0 ∧ ¬ nI 100 ≤ x) ∧ (¬ y < 0 ∧ ¬ nI 100 ≤ y) ∧ ¬ y ≤ x then 1 else 0) ∧ σ' = σ) := by
  refine ct_of (own := RX9) (lv := [some (.int x), some (.int y)]) rfl (by decide) (Nat.le_of_ble_eq_true rfl) (by intro u hu; simp only [List.mem_cons, List.not_mem_nil, or_false] at hu; rcases hu with rfl | rfl <;> rfl) (lv_ok [.int x, .int y] 0) ?_
  refine aw_iload_n dX9_isStretch_0 rfl ?_
  refine csq1 dX9_isStretch_1 km9_46 ok_X9_isPlace (Nat.le_of_ble_eq_true rfl) ⟨Nat.le_of_ble_eq_true rfl, Nat.le_of_ble_eq_true rfl⟩ rfl rfl (ct_isPlace x) ?_
  refine aw_if_eqB dX9_isStretch_4 rfl (fun h_4 => ?_) (fun h_4 => ?_)
  · skip
    refine aw_ic (nI 0) dX9_isStretch_23 (by decide) ?_
    exact aw_iretz dX9_isStretch_24 (by decide) (⟨(if_neg (fun z => h_4 z.1)).symm, rfl⟩)
  · skip
    refine aw_iload_n dX9_isStretch_7 rfl ?_
    refine csq1 dX9_isStretch_8 km9_46 ok_X9_isPlace (Nat.le_of_ble_eq_true rfl) ⟨Nat.le_of_ble_eq_true rfl, Nat.le_of_ble_eq_true rfl⟩ rfl rfl (ct_isPlace y) ?_
    refine aw_if_eqB dX9_isStretch_11 rfl (fun h_11 => ?_) (fun h_11 => ?_)
    · skip
      refine aw_ic (nI 0) dX9_isStretch_23 (by decide) ?_
      exact aw_iretz dX9_isStretch_24 (by decide) (⟨(if_neg (fun z => h_11 z.2.1)).symm, rfl⟩)
    · skip
      refine aw_iload_n dX9_isStretch_14 rfl ?_
      refine aw_iload_n dX9_isStretch_15 rfl ?_
      refine aw_icmp_ge dX9_isStretch_16 (fun h_16 => ?_) (fun h_16 => ?_)
      · skip
        refine aw_ic (nI 0) dX9_isStretch_23 (by decide) ?_
        exact aw_iretz dX9_isStretch_24 (by decide) (⟨(if_neg (fun z => z.2.2 h_16)).symm, rfl⟩)
      · skip
        refine aw_ic (nI 1) dX9_isStretch_19 (by decide) ?_
        refine aw_goto dX9_isStretch_20 ?_
        exact aw_iretz dX9_isStretch_24 (by decide) (⟨(if_pos ⟨h_4, h_11, h_16⟩).symm, rfl⟩)

def FOKs : Prop := ∀ P, PgV P → FOK (pR P) (pM P) (rcP P)
theorem way_cases (x : Int32) : (¬ (x = 0 ∨ x = nI 1) ∧ ix x 2 = none) ∨ ∃ w, w < 2 ∧ x = nI w ∧ (nI w = 0 ∨ nI w = nI 1) ∧ ix x 2 = some w := by
  rcases ix_cases x (n := 2) (by decide) with ⟨h, e⟩ | ⟨k, hk, rfl, e⟩
  · refine Or.inl ⟨?_, e⟩
    rintro (rfl | rfl)
    · exact absurd h (by decide)
    · exact absurd h (by decide)
  · refine Or.inr ⟨k, hk, rfl, ?_, e⟩
    rcases (by omega : k = 0 ∨ k = 1) with rfl | rfl
    · exact Or.inl rfl
    · exact Or.inr rfl
theorem str_cases (x y : Int32) : (¬ ((¬ x < 0 ∧ ¬ nI 100 ≤ x) ∧ (¬ y < 0 ∧ ¬ nI 100 ≤ y) ∧ ¬ y ≤ x) ∧ ∀ a b, ix x 100 = some a → ix y 100 = some b → ¬ a < b) ∨ ∃ a b, x = nI a ∧ y = nI b ∧ a < b ∧ b < 100 ∧ ix x 100 = some a ∧ ix y 100 = some b ∧ ((¬ nI a < 0 ∧ ¬ nI 100 ≤ nI a) ∧ (¬ nI b < 0 ∧ ¬ nI 100 ≤ nI b) ∧ ¬ nI b ≤ nI a) := by
  rcases ix_cases x (n := 100) (by decide) with ⟨h, e⟩ | ⟨a, ha, rfl, e⟩
  · exact Or.inl ⟨fun z => ix_no rfl h z.1, fun a b ea _ => by rw [e] at ea; cases ea⟩
  · rcases ix_cases y (n := 100) (by decide) with ⟨h, e2⟩ | ⟨b, hb, rfl, e2⟩
    · exact Or.inl ⟨fun z => ix_no rfl h z.2.1, fun a b _ eb => by rw [e2] at eb; cases eb⟩
    · by_cases h : a < b
      · exact Or.inr ⟨a, b, rfl, rfl, h, hb, e, e2, ix_yes rfl ha (by decide), ix_yes rfl hb (by decide), nI_ge h (by omega)⟩
      · refine Or.inl ⟨fun z => z.2.2 ((nI_leI (by omega) (by omega)).mpr (by omega)), fun a' b' ea eb => ?_⟩
        rw [e] at ea
        rw [e2] at eb
        cases ea
        cases eb
        exact h
theorem RowN.kp {σ : SG} {J B : Nat → Nat → Int32} {π : Nat → Nat} {o c : Nat} {v : Nat → Nat → Nat} (h : RowN σ o c v) (h1 : J 162 o = σ.1 162 o) (h2 : B (o + 1) = σ.2.1 (o + 1)) : RowN (J, B, π) o c v := h.keep h1 h2
theorem InvC.pgJ {σ : SG} {J B : Nat → Nat → Int32} {S : Sp} {P : Pg} (h : InvC σ S) (hP : PgR (J, B, σ.2.2) 1 P) (hV : PgV P) (hst : J 292 0 = 1) (hI : ∀ f q, (f ≠ 162 ∨ (q ≠ 2 ∧ q ≠ 4)) → (f ≠ 292 ∨ q ≠ 0) → J f q = σ.1 f q) (hA : ∀ q, 6 < q → B q = σ.2.1 q) {x : Int32 × Sp} {r : Int32} (e : x = (r, (P, S.2))) : PoC σ x r (J, B, σ.2.2) := PoC.mk e (h.pg (σ' := (J, B, σ.2.2)) hP hV rfl hst hI hA).1 (h.pg (σ' := (J, B, σ.2.2)) hP hV rfl hst hI hA).2
set_option maxHeartbeats 4000000 in
set_option maxRecDepth 100000 in
theorem ct_found {g : GG} {σ : SG} {S : Sp} (hK : FOKs) (hI : InvC σ S) : Ctr g yX9_found cX9_found 1 (some (.object RX0)) (rmm 5 128) [.ref (ad g 0)] σ 21 (fun σ' => InvC σ' S ∧ FnP σ' S.1 ∧ FrC σ σ') := by
  refine ct_of (own := RX9) (lv := [some (.ref (ad g 0))]) rfl (by decide) (Nat.le_of_ble_eq_true rfl) (by intro u hu; simp only [List.mem_cons, List.not_mem_nil, or_false] at hu; rcases hu with rfl <;> rfl) (lv_ok [.ref (ad g 0)] 0) ?_
  obtain ⟨hP, hV, ⟨m1, m2, m3⟩, h4, h5, h6⟩ := id hI
  rcases h6 with h | ⟨h, hF⟩
  · skip
    refine aw_aload_n dX9_found_0 rfl ?_
    refine gf9_stale dX9_found_1 kf9_31 k_0 ?_
    refine aw_eq h ?_
    refine aw_if_eq dX9_found_4 (fun h_4 => absurd h_4 (by decide)) (fun h_4 => ?_)
    refine aw_aload_n dX9_found_7 rfl ?_
    refine gf9_finding dX9_found_8 kf9_27 k_0 ?_
    refine aw_eqr (b := 21) rfl ?_
    refine aw_aload_n dX9_found_11 rfl ?_
    refine gf9_page dX9_found_12 kf9_12 k_0 ?_
    refine aw_eqr (b := 1) rfl ?_
    refine cvv1 dX9_found_15 km9_188 ok_X0_find rfl rfl (by decide) k_21 (Nat.le_of_ble_eq_true rfl) ⟨Nat.le_of_ble_eq_true rfl, Nat.le_of_ble_eq_true rfl⟩ rfl rfl (ct_Finding_find hP.1 (fun p hp => (hV.2.1 p hp).2) (sl := S.1.2.2.2.2.1) (gp := S.1.2.2.2.2.2.1) (rc := rcP S.1) ⟨hP.2.2.1, hP.2.2.2.1, hP.2.2.2.2, hV.2.2.2.1, hV.2.2.2.2.1, hV.2.2.2.2.2.1⟩ h4 hP.2.1 hV.2.2.1 (hK S.1 hV)) ?_
    intro σ1 hp_15
    obtain ⟨J, B, π, rfl, hp, hJ, hB, hF⟩ := hp_15
    refine aw_aload_n dX9_found_18 rfl ?_
    refine aw_ic (nI 0) dX9_found_19 (by decide) ?_
    refine pf9_stale dX9_found_20 kf9_31 k_0 (by decide) ?_
    refine aw_aload_n dX9_found_23 rfl ?_
    refine gf9_finding dX9_found_24 kf9_27 k_0 ?_
    refine aw_eqr (b := 21) rfl ?_
    exact aw_aret dX9_found_27 (by
        have fI : ∀ f q, q < 21 → (f ≠ 292 ∨ q ≠ 0) → uI J 292 0 (nI 0) f q = σ.1 f q := fun f q h1 h2 => by
          unfold uI
          rw [if_neg (by omega)]
          exact hJ f q (fun e => by have := k6 e; omega) (fun e => by obtain ⟨t, -, e⟩ := kd8 e; omega) (by omega) (Or.inr (by omega)) (Or.inr (by omega))
        have fA : ∀ q, q < 21 → B q = σ.2.1 q := fun q h => hB q (by omega) (by omega) (by omega)
        have hF' : FnP (uI J 292 0 (nI 0), B, π) S.1 := FndC.fr hF (fun f q h _ => uI_o (by omega)) (fun _ _ _ => rfl)
        have fm : ∀ o, 0 < o → o < 15 → PgM σ o → PgM (uI J 292 0 (nI 0), B, π) o := fun o h0 h1 hm => ⟨(fI 161 (o + 1) (by omega) (Or.inl (by decide))).trans hm.1, (fI 161 (o + 3) (by omega) (Or.inl (by decide))).trans hm.2⟩
        refine ⟨⟨hP.keep (fI 162 2 (by decide) (by decide)) (fI 162 4 (by decide) (by decide)) (fA 3 (by decide)) (fA 5 (by decide)) (fA 6 (by decide)), hV, ⟨fm _ (by decide) (by decide) m1, fm _ (by decide) (by decide) m2, fm _ (by decide) (by decide) m3⟩, hp, fun k hk => (h5 k hk).keep hk (congrFun (fA 20 (by decide)) k) (fun q _ _ => fI 162 q (by omega) (Or.inl (by decide))) (fun q _ _ => fA q (by omega)), Or.inr ⟨show uI J 292 0 (nI 0) 292 0 = _ from uI_s _ _ _ _, hF'⟩⟩, hF', fun f q h => ?_, fun q h => hB q (by omega) (by omega) (by omega)⟩
        show uI J 292 0 (nI 0) f q = _
        unfold uI
        rw [if_neg (by omega)]
        exact hJ f q (fun e => by have := k6 e; omega) (fun e => by obtain ⟨t, ht, e⟩ := kd8 e; omega) (by omega) (Or.inr (by omega)) (Or.inr (by omega)))
  · skip
    refine aw_aload_n dX9_found_0 rfl ?_
    refine gf9_stale dX9_found_1 kf9_31 k_0 ?_
    refine aw_eq h ?_
    refine aw_if_eq dX9_found_4 (fun h_4 => ?_) (fun h_4 => absurd h_4 (fun z => z rfl))
    refine aw_aload_n dX9_found_23 rfl ?_
    refine gf9_finding dX9_found_24 kf9_27 k_0 ?_
    refine aw_eqr (b := 21) rfl ?_
    exact aw_aret dX9_found_27 (⟨hI, hF, FrC.refl σ⟩)

theorem fM_k {k : Nat} (h : k < 3) : fM (nI k).toNatClampNeg = nI (limS k) := by
  rw [tnN (by omega)]
  unfold fM limS
  split
  · rfl
  · split <;> rfl
theorem limS_lt (k : Nat) : limS k ≤ 9 := by
  unfold limS
  split
  · omega
  · split <;> omega
theorem lim_no {x : Int32} {l : Nat} (h : nI (l + 1) ≤ x) (h2 : x ≤ nI l) (hl : l < 2 ^ 30) : False := by
  rw [Int32.le_iff_toInt_le, nI_toInt (by omega)] at h
  rw [Int32.le_iff_toInt_le, nI_toInt (by omega)] at h2
  omega
set_option maxHeartbeats 4000000 in
set_option maxRecDepth 100000 in
theorem ct_set {g : GG} {σ : SG} {S : Sp} (hI : InvC σ S) (what n : Int32) : Cti g yX9_set cX9_set 4 (some .int) (rmm 0 0) [.ref (ad g 0), .int what, .int n] σ (PoC σ (sSet S what n)) := by
  refine ct_of (own := RX9) (lv := [some (.ref (ad g 0)), some (.int what), some (.int n), none]) rfl (by decide) (Nat.le_of_ble_eq_true rfl) (by intro u hu; simp only [List.mem_cons, List.not_mem_nil, or_false] at hu; rcases hu with rfl | rfl | rfl <;> rfl) (lv_ok [.ref (ad g 0), .int what, .int n] 1) ?_
  obtain ⟨hP, hV, ⟨m1, m2, m3⟩, h4, h5, h6⟩ := id hI
  have hl6 := l_6
  have hl3 := l_3
  have hl5 := l_5
  rcases ix_cases what (n := 3) (by decide) with ⟨h, e⟩ | ⟨k, hk, rfl, e⟩
  · skip
    refine aw_iload_n dX9_set_0 rfl ?_
    refine aw_if_lt dX9_set_1 (fun h_1 => ?_) (fun h_1 => ?_)
    · skip
      refine aw_bi (-2) dX9_set_25 (by decide) ?_
      exact aw_ireti dX9_set_27 (PoC.mk (by unfold sSet; rw [e]) hI (FrC.refl σ))
    · skip
      refine aw_iload_n dX9_set_4 rfl ?_
      refine aw_mostS dX9_set_5 kf9_35 ?_
      refine aw_mostL dX9_set_8 ?_
      refine aw_icmp_ge dX9_set_9 (fun h_9 => ?_) (fun h_9 => absurd h_9 (fun z => h.elim h_1 z))
      refine aw_bi (-2) dX9_set_25 (by decide) ?_
      exact aw_ireti dX9_set_27 (PoC.mk (by unfold sSet; rw [e]) hI (FrC.refl σ))
  · skip
    have hlim := limS_lt k
    rcases ix_cases n (n := limS k + 1) (by omega) with ⟨h, e2⟩ | ⟨v, hv, rfl, e2⟩
    · skip
      refine aw_iload_n dX9_set_0 rfl ?_
      refine aw_if_lt dX9_set_1 (fun h_1 => absurd h_1 (nI_pos (by omega))) (fun h_1 => ?_)
      refine aw_iload_n dX9_set_4 rfl ?_
      refine aw_mostS dX9_set_5 kf9_35 ?_
      refine aw_mostL dX9_set_8 ?_
      refine aw_icmp_geN dX9_set_9 rfl (b := 3) rfl (by omega) (by omega) (fun h_9 => absurd h_9 (by omega)) (fun h_9 => ?_)
      refine aw_iload_n dX9_set_12 rfl ?_
      refine aw_if_lt dX9_set_13 (fun h_13 => ?_) (fun h_13 => ?_)
      · skip
        refine aw_bi (-2) dX9_set_25 (by decide) ?_
        exact aw_ireti dX9_set_27 (PoC.mk (by unfold sSet; rw [e]; dsimp only; rw [e2]) hI (FrC.refl σ))
      · skip
        refine aw_iload_n dX9_set_16 rfl ?_
        refine aw_mostS dX9_set_17 kf9_35 ?_
        refine aw_iload_n dX9_set_20 rfl ?_
        refine aw_mostI dX9_set_21 (vp_in_nI hk (by decide)) ?_
        refine aw_eq (fM_k hk) ?_
        refine aw_icmp_le dX9_set_22 (fun h_22 => absurd h_22 (fun z => h.elim h_13 (fun y => lim_no y z (by omega)))) (fun h_22 => ?_)
        refine aw_bi (-2) dX9_set_25 (by decide) ?_
        exact aw_ireti dX9_set_27 (PoC.mk (by unfold sSet; rw [e]; dsimp only; rw [e2]) hI (FrC.refl σ))
    · skip
      refine aw_iload_n dX9_set_0 rfl ?_
      refine aw_if_lt dX9_set_1 (fun h_1 => absurd h_1 (nI_pos (by omega))) (fun h_1 => ?_)
      refine aw_iload_n dX9_set_4 rfl ?_
      refine aw_mostS dX9_set_5 kf9_35 ?_
      refine aw_mostL dX9_set_8 ?_
      refine aw_icmp_geN dX9_set_9 rfl (b := 3) rfl (by omega) (by omega) (fun h_9 => absurd h_9 (by omega)) (fun h_9 => ?_)
      refine aw_iload_n dX9_set_12 rfl ?_
      refine aw_if_lt dX9_set_13 (fun h_13 => absurd h_13 (nI_pos (by omega))) (fun h_13 => ?_)
      refine aw_iload_n dX9_set_16 rfl ?_
      refine aw_mostS dX9_set_17 kf9_35 ?_
      refine aw_iload_n dX9_set_20 rfl ?_
      refine aw_mostI dX9_set_21 (vp_in_nI hk (by decide)) ?_
      refine aw_eq (fM_k hk) ?_
      refine aw_icmp_leN dX9_set_22 rfl rfl (by omega) (by omega) (fun h_22 => ?_) (fun h_22 => absurd h_22 (by omega))
      refine aw_aload_n dX9_set_28 rfl ?_
      refine gf9_page dX9_set_29 kf9_12 k_0 ?_
      refine aw_eqr (b := 1) rfl ?_
      refine gf3_settings dX9_set_32 kf9_39 k_1 ?_
      refine aw_eqr (b := 6) rfl ?_
      refine aw_iload_n dX9_set_35 rfl ?_
      refine aw_ld (k) dX9_set_36 k_6 (rfl) (by omega) ?_
      refine aw_eq (show _ = nI (stg S.1 k) by
        unfold stg
        rcases (by omega : k = 0 ∨ k = 1 ∨ k = 2) with rfl | rfl | rfl
        · exact hP.2.2.1
        · exact hP.2.2.2.1
        · exact hP.2.2.2.2) ?_
      refine aw_istore_n dX9_set_37 (Nat.le_of_ble_eq_true rfl) ?_
      refine aw_aload_n dX9_set_38 rfl ?_
      refine gf9_page dX9_set_39 kf9_12 k_0 ?_
      refine aw_eqr (b := 1) rfl ?_
      refine gf3_settings dX9_set_42 kf9_39 k_1 ?_
      refine aw_eqr (b := 6) rfl ?_
      refine aw_iload_n dX9_set_45 rfl ?_
      refine aw_iload_n dX9_set_46 rfl ?_
      refine aw_sto (k) dX9_set_47 k_6 (rfl) (by omega) ?_
      refine aw_aload_n dX9_set_48 rfl ?_
      refine aw_ic (nI 1) dX9_set_49 (by decide) ?_
      refine pf9_stale dX9_set_50 kf9_31 k_0 (by decide) ?_
      refine aw_iload_n dX9_set_53 rfl ?_
      exact aw_ireti dX9_set_54 (by
          refine InvC.pgJ hI (P := setP S.1 k v) ⟨hP.1.kp (uI_f (by decide)) (uA_n (by decide)), hP.2.1.kp (uI_f (by decide)) (uA_n (by decide)), ?_, ?_, ?_⟩ (hV.set (by omega)) (uI_s _ _ _ _) (fun f q _ h => by unfold uI; rw [if_neg (by omega)]) (fun q h => uA_n (by omega)) (by unfold sSet; rw [e]; dsimp only; rw [e2])
          · refine (congrFun (uA_s σ.2.1 6 _) 0).trans ?_
            show (if 0 = k then nI v else σ.2.1 6 0) = nI (if k = 0 then v else S.1.2.2.2.2.1)
            by_cases z : k = 0
            · rw [if_pos (by omega), if_pos z]
            · rw [if_neg (by omega), if_neg z]
              exact hP.2.2.1
          · refine (congrFun (uA_s σ.2.1 6 _) 1).trans ?_
            show (if 1 = k then nI v else σ.2.1 6 1) = nI (if k = 1 then v else S.1.2.2.2.2.2.1)
            by_cases z : k = 1
            · rw [if_pos (by omega), if_pos z]
            · rw [if_neg (by omega), if_neg z]
              exact hP.2.2.2.1
          · refine (congrFun (uA_s σ.2.1 6 _) 2).trans ?_
            show (if 2 = k then nI v else σ.2.1 6 2) = nI (if k = 2 then v else S.1.2.2.2.2.2.2)
            by_cases z : k = 2
            · rw [if_pos (by omega), if_pos z]
            · rw [if_neg (by omega), if_neg z]
              exact hP.2.2.2.2)

