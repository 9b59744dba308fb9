theorem fst_yes {p : Nat → Bool} : ∀ {n : Nat}, fst p n < n → p (fst p n) = true
  | 0, h => absurd h (Nat.not_lt_zero _)
  | n + 1, h => by
    unfold fst at h ⊢
    by_cases q : fst p n < n
    · rw [if_pos q]
      exact fst_yes q
    · rw [if_neg q] at h ⊢
      by_cases e : p n = true
      · rw [if_pos e]
        exact e
      · rw [if_neg e] at h
        omega
theorem TbsP.keep {I A J B : Nat → Nat → Int32} {π π' : Nat → Nat} {tn : Nat} {n : Nat → Nat → Nat} {pl : Nat → Nat → Nat → Nat} {nr nc cc wn : Nat → Nat} {fc : Nat → Nat → Nat} {cv : Nat → Nat → Nat → Nat} (h : TbsP (I, A, π) tn n pl nr nc cc fc cv wn) (hJ : ∀ f t, t < tn → J f (51 + 1 + 20 * t) = I f (51 + 1 + 20 * t)) (hB : ∀ p, 52 ≤ p → p < 172 → B p = A p) : TbsP (J, B, π') tn n pl nr nc cc fc cv wn := by
  refine ⟨h.1, fun t ht => ?_⟩
  have h6 := h.1
  obtain ⟨h1, h2, h3, h4, h5, h7⟩ := h.2 t ht
  exact ⟨h1.keep (hB _ (by omega) (by omega)) (fun w hw => hB _ (by omega) (by omega)), h2.fr (hJ _ t ht) (hJ _ t ht) (hJ _ t ht) (hB _ (by omega) (by omega)) (fun j hj => hB _ (by omega) (by omega)), h3, h4, (hJ 266 t ht).trans h5, h7⟩
theorem TbsP.put {I A J B : Nat → Nat → Int32} {π π' : Nat → Nat} {tn T q : Nat} {n : Nat → Nat → Nat} {pl : Nat → Nat → Nat → Nat} {nr nc cc wn : Nat → Nat} {fc : Nat → Nat → Nat} {cv : Nat → Nat → Nat → Nat} (h : TbsP (I, A, π) tn n pl nr nc cc fc cv wn) (hT : T < tn) (hq : q < cc T) (hc : cv T q 6 + 1 ≤ 99) (hw : wn T + 1 ≤ 99) (hJ : J = uI I 266 (51 + 1 + 20 * T) (nI (wn T + 1))) (h6 : B (51 + 1 + 20 * T + 8 + 1 + 6) = upd (A (51 + 1 + 20 * T + 8 + 1 + 6)) q (nI (cv T q 6 + 1))) (hB : ∀ p, 52 ≤ p → p < 172 → p ≠ 51 + 1 + 20 * T + 8 + 1 + 6 → B p = A p) : TbsP (J, B, π') tn n pl nr nc cc fc (fun t q' j => if t = T ∧ q' = q ∧ j = 6 then cv T q 6 + 1 else cv t q' j) (fun t => if t = T then wn T + 1 else wn t) := by
  refine ⟨h.1, fun t ht => ?_⟩
  have h6' := h.1
  obtain ⟨h1, h2, h3, h4, h5, h7, h8⟩ := h.2 t ht
  refine ⟨h1.keep (hB _ (by omega) (by omega) (by omega)) (fun w hw9 => hB _ (by omega) (by omega) (by omega)), ?_, h3, h4, ?_, ?_, ?_⟩
  · refine ⟨⟨h2.1.1, ?_, ?_, h2.1.2.2.2⟩, ?_, h2.2.2.1, fun f hf => ?_, fun q' j hq' hj => ?_⟩
    · show J 258 _ = _
      rw [hJ, uI_f (by decide)]
      exact h2.1.2.1
    · show J 259 _ = _
      rw [hJ, uI_f (by decide)]
      exact h2.1.2.2.1
    · show J 263 _ = _
      rw [hJ, uI_f (by decide)]
      exact h2.2.1
    · show B _ f = _ ∧ _
      rw [hB _ (by omega) (by omega) (by omega)]
      exact h2.2.2.2.1 f hf
    · obtain ⟨a, b⟩ := h2.2.2.2.2 q' j hq' hj
      show B _ q' = _ ∧ _
      dsimp only at a ⊢
      by_cases e : t = T ∧ j = 6
      · obtain ⟨rfl, rfl⟩ := e
        rw [h6]
        by_cases e2 : q' = q
        · rw [e2, pk_us, if_pos ⟨rfl, rfl, rfl⟩]
          exact ⟨rfl, by omega⟩
        · rw [pk_un e2, if_neg (fun z => e2 z.2.1)]
          exact ⟨a, b⟩
      · rw [hB _ (by omega) (by omega) (by omega), if_neg (fun z => e ⟨z.1, z.2.2⟩)]
        exact ⟨a, b⟩
  · show J 266 _ = _
    rw [hJ]
    dsimp only
    by_cases e : t = T
    · rw [e, uI_s, if_pos rfl]
    · rw [uI_o (by omega), if_neg e]
      exact h5
  · dsimp only
    split <;> omega
  · intro q' hq'
    have := h8 q' hq'
    dsimp only
    split <;> omega
theorem TbsP.cong {σ : SG} {tn : Nat} {n : Nat → Nat → Nat} {pl : Nat → Nat → Nat → Nat} {nr nc cc wn wn' : Nat → Nat} {fc : Nat → Nat → Nat} {cv cv' : Nat → Nat → Nat → Nat} (h : TbsP σ tn n pl nr nc cc fc cv wn) (e : ∀ t q j, t < tn → q < cc t → j < 7 → cv t q j = cv' t q j) (e2 : ∀ t, t < tn → wn t = wn' t) : TbsP σ tn n pl nr nc cc fc cv' wn' := by
  refine ⟨h.1, fun t ht => ?_⟩
  obtain ⟨h1, h2, h3, h4, h5, h7, h8⟩ := h.2 t ht
  exact ⟨h1, h2.cong (fun q j hq hj => e t q j ht hq hj), h3, h4, by rw [← e2 t ht]; exact h5, by rw [← e2 t ht]; exact h7, fun q hq => by rw [← e t q 6 ht hq (by decide)]; exact h8 q hq⟩
/-- words in a cell, in a table, in none, of the first i -/
def wnC (wT wC : Nat → Nat) (i t q : Nat) : Nat := ctB (fun x => decide (wT x = t) && decide (wC x = q)) i
def wnT (wT : Nat → Nat) (i t : Nat) : Nat := ctB (fun x => decide (wT x = t)) i
def wnL (wT : Nat → Nat) (tn i : Nat) : Nat := ctB (fun x => !decide (wT x < tn)) i
/-- the words below i are placed -/
def PlI (σ : SG) (c tn : Nat) (n : Nat → Nat → Nat) (pl : Nat → Nat → Nat → Nat) (nr nc cc : Nat → Nat) (fc : Nat → Nat → Nat) (cv : Nat → Nat → Nat → Nat) (wd : Nat → Nat → Nat) (wT wC : Nat → Nat) (i : Nat) (σ' : SG) : Prop :=
  ∃ J B, σ' = (J, B, σ.2.2) ∧ TbsP (J, B, σ.2.2) tn n pl nr nc cc fc (fun t q j => if j = 6 then wnC wT wC i t q else cv t q j) (wnT wT i) ∧ J 132 172 = nI (wnL wT tn i) ∧ J 131 172 = nI c ∧ (∀ x, x < i → B 173 x = (if wT x < tn then nI (wT x) else -6) ∧ B 174 x = (if wT x < tn then nI (wC x) else -6)) ∧ (∃ τ, (∀ k, k < i → B 175 k = nI (τ k)) ∧ SoP (Qw wd) i τ) ∧ (∀ f p, (f ≠ 266 ∨ kd p ≠ 8) → p ≠ 172 → J f p = σ.1 f p) ∧ ∀ p, p ≠ 173 → p ≠ 174 → p ≠ 175 → (∀ t, t < tn → p ≠ 51 + 1 + 20 * t + 8 + 1 + 6) → B p = σ.2.1 p
set_option maxHeartbeats 4000000 in
set_option maxRecDepth 100000 in
theorem ct_Placing_find {g : GG} {σ : SG} {c tn : Nat} {n : Nat → Nat → Nat} {pl : Nat → Nat → Nat → Nat} {nr nc cc : Nat → Nat} {fc : Nat → Nat → Nat} {cv : Nat → Nat → Nat → Nat} {wd : Nat → Nat → Nat} (hR : RowN σ 4 c wd) (hc20 : c ≤ 20) (hT : TbsP σ tn n pl nr nc cc fc cv (fun _ => 0)) (hz : ∀ t q, t < tn → q < cc t → cv t q 6 = 0) : Ctv g yX4_find cX4_find 5 (rmm 3 70) [.ref (ad g 172), .ref (ad g 4), .ref (ad g 51), .int (nI tn)] σ (fun σ' => PlI σ c tn n pl nr nc cc fc cv wd (wTa wd pl nr nc tn) (wCe wd pl nr nc fc tn) c σ') := by
  refine ct_of (own := RX4) (lv := [some (.ref (ad g 172)), some (.ref (ad g 4)), some (.ref (ad g 51)), some (.int (nI tn)), none]) rfl (by decide) (Nat.le_of_ble_eq_true rfl) (by intro u hu; simp only [List.mem_cons, List.not_mem_nil, or_false] at hu; rcases hu with rfl | rfl | rfl | rfl <;> rfl) (lv_ok [.ref (ad g 172), .ref (ad g 4), .ref (ad g 51), .int (nI tn)] 1) ?_
  obtain ⟨wT, hwT⟩ : ∃ wT, wT = wTa wd pl nr nc tn := ⟨_, rfl⟩
  obtain ⟨wC, hwC⟩ : ∃ wC, wC = wCe wd pl nr nc fc tn := ⟨_, rfl⟩
  rw [← hwT, ← hwC]
  have htn6 := hT.1
  have h4 : ∀ t, t < tn → (51 + 1 + 20 * t ≠ 172) := fun t ht => by omega
  refine aw_aload_n dX4_find_0 rfl ?_
  refine aw_aload_n dX4_find_1 rfl ?_
  refine gf5_count dX4_find_2 kf4_21 k_4 ?_
  refine aw_eq hR.2.1 ?_
  refine pf4_count dX4_find_5 kf4_27 k_172 ?_
  refine aw_aload_n dX4_find_8 rfl ?_
  refine aw_ic (nI 0) dX4_find_9 (by decide) ?_
  refine pf4_loose dX4_find_10 kf4_28 k_172 ?_
  refine aw_ic (nI 0) dX4_find_13 (by decide) ?_
  refine aw_istore dX4_find_14 (Nat.le_of_ble_eq_true rfl) ?_
  refine for_up (fun i σ' => PlI σ c tn n pl nr nc cc fc cv wd wT wC i σ') (fun i => [some (.ref (ad g 172)), some (.ref (ad g 4)), some (.ref (ad g 51)), some (.int (nI tn)), some (.int (nI i))]) c ?_ ?_ 0 _ (Nat.zero_le _) ⟨uI (uI σ.1 131 172 (nI c)) 132 172 (nI 0), σ.2.1, rfl, ((show TbsP (σ.1, σ.2.1, σ.2.2) tn n pl nr nc cc fc cv (fun _ => 0) from hT).keep (fun f t ht => by rw [uI_o (h4 t ht), uI_o (h4 t ht)]) (fun _ _ _ => rfl)).cong (fun t q j ht hq hj => ?_) (fun t ht => rfl), uI_s _ _ _ _, by rw [uI_f (by decide), uI_s], fun x h => absurd h (Nat.not_lt_zero x), ⟨fun k => k, fun k h => absurd h (Nat.not_lt_zero k), fun k h => absurd h (Nat.not_lt_zero k), fun j k h1 h2 => absurd h1 (Nat.not_lt_zero j), fun j k h1 h2 => absurd h2 (Nat.not_lt_zero k)⟩, fun f p h1 h2 => by rw [uI_o h2, uI_o h2], fun _ _ _ _ _ => rfl⟩
  rotate_left 2
  · by_cases e : j = 6
    · rw [if_pos e, e]
      exact hz t q ht hq
    · rw [if_neg e]
  · rintro i σ2 hi ⟨J, B, rfl, hP, hJ2, hJ1, hx, ⟨τ, hτ1, hτ2⟩, hf1, hf2⟩ ih
    have hR2 : RowN (J, B, σ.2.2) 4 c wd := hR.keep (hf1 162 4 (Or.inl (by decide)) (by decide)) (hf2 5 (by decide) (by decide) (by decide) (fun t ht => by omega))
    have hb1 := ctB_le (fun x => decide (wT x = wT i) && decide (wC x = wC i)) i
    have hb2 := ctB_le (fun x => decide (wT x = wT i)) i
    have hb3 := ctB_le (fun x => !decide (wT x < tn)) i
    refine aw_iload dX4_find_16 rfl ?_
    refine aw_aload_n dX4_find_18 rfl ?_
    refine gf4_count dX4_find_19 kf4_27 k_172 ?_
    refine aw_eq hJ1 ?_
    refine aw_icmp_geN dX4_find_22 rfl rfl (by omega) (by omega) (fun h_22 => absurd h_22 (by omega)) (fun h_22 => ?_)
    refine aw_aload_n dX4_find_25 rfl ?_
    refine aw_iload dX4_find_26 rfl ?_
    refine aw_aload_n dX4_find_28 rfl ?_
    refine aw_aload_n dX4_find_29 rfl ?_
    refine aw_iload_n dX4_find_30 rfl ?_
    refine cvv4 dX4_find_31 km4_31 ok_X4_place rfl rfl (by decide) k_172 (Nat.le_of_ble_eq_true rfl) ⟨Nat.le_of_ble_eq_true rfl, Nat.le_of_ble_eq_true rfl⟩ rfl rfl (ct_place (i := i) hR2 hc20 hi hP hJ2) ?_
    rw [← hwT, ← hwC]
    intro σ3 hp_31
    have key : ∃ J3 B3, σ3 = (J3, B3, σ.2.2) ∧ TbsP (J3, B3, σ.2.2) tn n pl nr nc cc fc (fun t q j => if j = 6 then wnC wT wC (i + 1) t q else cv t q j) (wnT wT (i + 1)) ∧ J3 132 172 = nI (wnL wT tn (i + 1)) ∧ J3 131 172 = nI c ∧ (∀ x, x < i + 1 → B3 173 x = (if wT x < tn then nI (wT x) else -6) ∧ B3 174 x = (if wT x < tn then nI (wC x) else -6)) ∧ B3 175 = B 175 ∧ (∀ f p, (f ≠ 266 ∨ kd p ≠ 8) → p ≠ 172 → J3 f p = σ.1 f p) ∧ ∀ p, p ≠ 173 → p ≠ 174 → p ≠ 175 → (∀ t, t < tn → p ≠ 51 + 1 + 20 * t + 8 + 1 + 6) → B3 p = σ.2.1 p := by
      have hsC : ∀ t q, wnC wT wC (i + 1) t q = wnC wT wC i t q + (if (decide (wT i = t) && decide (wC i = q)) = true then 1 else 0) := fun _ _ => rfl
      have hsT : ∀ t, wnT wT (i + 1) t = wnT wT i t + (if decide (wT i = t) = true then 1 else 0) := fun _ => rfl
      have hsL : wnL wT tn (i + 1) = wnL wT tn i + (if (!decide (wT i < tn)) = true then 1 else 0) := rfl
      rcases hp_31 with ⟨hlt, rfl⟩ | ⟨hlt, rfl⟩
      · have hqc : wC i < cc (wT i) := by
          have hiw : inW wd pl nr nc i (wT i) = true := by
            have h9 : fst (inW wd pl nr nc i) tn < tn := by rw [hwT] at hlt; exact hlt
            have := fst_yes h9
            rw [hwT]
            exact this
          unfold inW at hiw
          simp only [Bool.and_eq_true, decide_eq_true_eq] at hiw
          have := ((hP.2 (wT i) hlt).2.1.2.2.2.1 _ (rc_lt hiw.1 hiw.2)).2
          rw [hwC, hwT]
          rw [hwT] at this
          exact this
        dsimp only
        refine ⟨_, _, rfl, (hP.put (T := wT i) (q := wC i) hlt hqc (by simp only [if_true]; unfold wnC; omega) (by unfold wnT; omega) rfl (uA_s _ _ _) (fun p h1 h2 h3 => by rw [uA_n h3, uA_n (by omega), uA_n (by omega)])).cong (fun t q j ht hq hj => ?_) (fun t ht => ?_), ?_, ?_, fun x hx9 => ?_, by rw [uA_n (by omega), uA_n (by decide), uA_n (by decide)], fun f p h1 h2 => ?_, fun p h1 h2 h3 h5 => ?_⟩
        · by_cases e : j = 6
          · subst e
            simp only [if_true, and_true]
            rw [hsC]
            by_cases e2 : t = wT i ∧ q = wC i
            · obtain ⟨rfl, rfl⟩ := e2
              simp
            · rw [if_neg e2, if_neg (by simp; intro a b; exact e2 ⟨a.symm, b.symm⟩)]
              rfl
          · simp only [e, and_false, if_false]
        · rw [hsT]
          by_cases e2 : t = wT i
          · rw [if_pos e2, e2]
            simp
          · rw [if_neg e2, if_neg (by simp; exact fun a => e2 a.symm)]
            rfl
        · rw [uI_f (by decide), hsL, if_neg (by simp [hlt])]
          exact hJ2
        · rw [uI_f (by decide)]
          exact hJ1
        · rw [uA_n (show (173 : Nat) ≠ 51 + 1 + 20 * wT i + 8 + 1 + 6 by omega), uA_n (show (174 : Nat) ≠ 51 + 1 + 20 * wT i + 8 + 1 + 6 by omega), uA_s, uA_n (show (173 : Nat) ≠ 174 by decide), uA_s]
          rcases Nat.lt_or_ge x i with z | z
          · rw [pk_un (by omega), pk_un (by omega)]
            exact hx x z
          · rw [show x = i by omega, pk_us, pk_us, if_pos hlt, if_pos hlt]
            exact ⟨rfl, rfl⟩
        · have h9 : ¬ (f = 266 ∧ p = 51 + 1 + 20 * wT i) := fun z => by
            rcases h1 with h1 | h1
            · exact h1 z.1
            · rw [z.2] at h1
              exact h1 (k_tab (by omega))
          unfold uI
          rw [if_neg h9]
          exact hf1 f p h1 h2
        · rw [uA_n (h5 _ hlt), uA_n h2, uA_n h1]
          exact hf2 p h1 h2 h3 h5
      · dsimp only
        refine ⟨_, _, rfl, (hP.keep (fun f t ht => uI_o (h4 t ht)) (fun p h1 h2 => by rw [uA_n (by omega), uA_n (by omega)])).cong (fun t q j ht hq hj => ?_) (fun t ht => ?_), ?_, ?_, fun x hx9 => ?_, by rw [uA_n (by decide), uA_n (by decide)], fun f p h1 h2 => ?_, fun p h1 h2 h3 h5 => ?_⟩
        · by_cases e : j = 6
          · subst e
            simp only [if_true]
            rw [hsC, if_neg (by simp; intro a; omega)]
            rfl
          · simp only [e, if_false]
        · rw [hsT, if_neg (by simp; omega)]
          rfl
        · rw [uI_s, hsL, if_pos (by simp; omega)]
        · rw [uI_f (by decide)]
          exact hJ1
        · rw [uA_s, uA_n (show (173 : Nat) ≠ 174 by decide), uA_s]
          rcases Nat.lt_or_ge x i with z | z
          · rw [pk_un (by omega), pk_un (by omega)]
            exact hx x z
          · rw [show x = i by omega, pk_us, pk_us, if_neg hlt, if_neg hlt]
            exact ⟨rfl, rfl⟩
        · rw [uI_o h2]
          exact hf1 f p h1 h2
        · rw [uA_n h2, uA_n h1]
          exact hf2 p h1 h2 h3 h5
    obtain ⟨J3, B3, rfl, k1, k2, k3, k4, k5, k6, k7⟩ := key
    have hR3 : RowN (J3, B3, σ.2.2) 4 c wd := hR.keep (k6 162 4 (Or.inl (by decide)) (by decide)) (k7 5 (by decide) (by decide) (by decide) (fun t ht => by omega))
    refine aw_aload_n dX4_find_34 rfl ?_
    refine aw_iload dX4_find_35 rfl ?_
    refine aw_aload_n dX4_find_37 rfl ?_
    refine cvv2 dX4_find_38 km4_35 ok_X4_putInOrder rfl rfl (by decide) k_172 (Nat.le_of_ble_eq_true rfl) ⟨Nat.le_of_ble_eq_true rfl, Nat.le_of_ble_eq_true rfl⟩ rfl rfl (ct_putInOrder (i := i) (τ := τ) hR3 hc20 hi (fun k hk => by show B3 175 k = _; rw [k5]; exact hτ1 k hk) hτ2) ?_
    intro σ4 hp_38
    obtain ⟨O, τ2, rfl, o1, o2⟩ := hp_38
    refine aw_inc (nI (i + 1)) dX4_find_41 rfl (Nat.le_of_ble_eq_true rfl) (nI_1 i) ?_
    refine aw_goto dX4_find_44 ?_
    exact ih _ ⟨J3, uA B3 175 O, rfl, k1.keep (fun _ _ _ => rfl) (fun p h1 h2 => uA_n (by omega)), k2, k3, fun x hx9 => by rw [uA_n (by decide), uA_n (by decide)]; exact k4 x hx9, ⟨τ2, fun k hk => by rw [uA_s]; exact o1 k hk, o2⟩, k6, fun p h1 h2 h3 h5 => by rw [uA_n h3]; exact k7 p h1 h2 h3 h5⟩
  · rintro σ2 hPl
    obtain ⟨J, B, rfl, hP, hJ2, hJ1, hrest⟩ := id hPl
    refine aw_iload dX4_find_16 rfl ?_
    refine aw_aload_n dX4_find_18 rfl ?_
    refine gf4_count dX4_find_19 kf4_27 k_172 ?_
    refine aw_eq hJ1 ?_
    refine aw_icmp_geN dX4_find_22 rfl rfl (by omega) (by omega) (fun h_22 => ?_) (fun h_22 => absurd h_22 (by omega))
    exact aw_ret dX4_find_47 (hPl)

