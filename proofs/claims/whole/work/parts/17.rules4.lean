def ctB (p : Nat → Bool) : Nat → Nat
  | 0 => 0
  | n + 1 => ctB p n + (if p n = true then 1 else 0)
theorem ctB_le (p : Nat → Bool) : ∀ n, ctB p n ≤ n
  | 0 => Nat.le_refl _
  | n + 1 => by
    have := ctB_le p n
    unfold ctB
    split <;> omega
theorem ctB_cong {p q : Nat → Bool} : ∀ {n : Nat}, (∀ k, k < n → p k = q k) → ctB p n = ctB q n
  | 0, _ => rfl
  | n + 1, h => by
    have := ctB_cong (n := n) (fun k hk => h k (by omega))
    unfold ctB
    rw [this, h n (by omega)]
theorem ctB_mono (p : Nat → Bool) {a b : Nat} (h : a ≤ b) : ctB p a ≤ ctB p b := by
  induction b with
  | zero => rw [show a = 0 by omega]; exact Nat.le_refl _
  | succ b ih =>
    rcases Nat.lt_or_ge a (b + 1) with q | q
    · have := ih (by omega)
      show ctB p a ≤ ctB p b + _
      omega
    · rw [show a = b + 1 by omega]; exact Nat.le_refl _
/-- the rules R, m of them, lie in the objects that π says -/
def RsN (σ : SG) (m : Nat) (R : Nat → Nat → Nat) : Prop := σ.1 226 24 = nI m ∧ m ≤ 24 ∧ Perm σ.2.2 ∧ ∀ k, k < m → RuF σ.1 (25 + 1 + σ.2.2 k) (R k) ∧ RuB (R k)
/-- where the rule lies whose first piece is r -/
def posR (R : Nat → Nat → Nat) (m r : Nat) : Nat := fst (fun i => decide (R i 5 = r)) m
theorem posR_eq {R : Nat → Nat → Nat} {m i : Nat} (hi : i < m) (hd : ∀ a b, a < m → b < m → R a 5 = R b 5 → a = b) : posR R m (R i 5) = i := by
  unfold posR
  refine fst_eq (fun j hj => ?_) (by simp) hi
  simp
  intro e
  have := hd j i (by omega) hi e
  omega
set_option maxHeartbeats 4000000 in
set_option maxRecDepth 100000 in
theorem ct_tellPieces {g : GG} {σ : SG} {m c : Nat} {R : Nat → Nat → Nat} {lab : Nat → Nat} (hR : RsN σ m R) (hc : c ≤ 24) (hF : Fo c lab (σ.2.1 23)) (hd : ∀ a b, a < m → b < m → R a 5 = R b 5 → a = b) (hrt : ∀ i, i < m → R i 5 < c) (hall : ∀ r, r < c → lab r = r → ∃ i, i < m ∧ R i 5 = r) : Ctv g yX7_tellPieces cX7_tellPieces 4 (rmm 1 23) [.ref (ad g 24), .int (nI c), .ref (ad g 22)] σ (fun σ' => ∃ O, σ' = (σ.1, uA σ.2.1 50 O, σ.2.2) ∧ ∀ p, p < c → O p = nI (posR R m (lab p))) := by
  refine ct_of (own := RX7) (lv := [some (.ref (ad g 24)), some (.int (nI c)), some (.ref (ad g 22)), none]) rfl (by decide) (Nat.le_of_ble_eq_true rfl) (by intro u hu; simp only [List.mem_cons, List.not_mem_nil, or_false] at hu; rcases hu with rfl | rfl | rfl <;> rfl) (lv_ok [.ref (ad g 24), .int (nI c), .ref (ad g 22)] 1) ?_
  obtain ⟨hm, hm24, hπ, hQ⟩ := hR
  have hl50 := l_50
  have hl25 := l_25
  refine aw_ic (nI 0) dX7_tellPieces_0 (by decide) ?_
  refine aw_istore_n dX7_tellPieces_1 (Nat.le_of_ble_eq_true rfl) ?_
  refine for_up (fun i σ' => ∃ O, σ' = (σ.1, uA σ.2.1 50 O, σ.2.2) ∧ ∀ j, j < i → O (R j 5) = nI j) (fun i => [some (.ref (ad g 24)), some (.int (nI c)), some (.ref (ad g 22)), some (.int (nI i))]) m ?_ ?_ 0 _ (Nat.zero_le _) ⟨σ.2.1 50, by rw [uA_same], fun j h => absurd h (Nat.not_lt_zero j)⟩
  · rintro i σ2 hi ⟨O, rfl, hO⟩ ih
    have hri := hπ.1 i (by omega)
    have hr5 := hrt i hi
    refine aw_iload_n dX7_tellPieces_2 rfl ?_
    refine aw_aload_n dX7_tellPieces_3 rfl ?_
    refine gf7_count dX7_tellPieces_4 kf7_22 k_24 ?_
    refine aw_eq hm ?_
    refine aw_icmp_geN dX7_tellPieces_7 rfl rfl (by omega) (by omega) (fun h_7 => absurd h_7 (by omega)) (fun h_7 => ?_)
    refine aw_aload_n dX7_tellPieces_10 rfl ?_
    refine gf7_ofPiece dX7_tellPieces_11 kf7_18 k_24 ?_
    refine aw_eqr (b := 50) rfl ?_
    refine aw_aload_n dX7_tellPieces_14 rfl ?_
    refine gf7_all dX7_tellPieces_15 kf7_11 k_24 ?_
    refine aw_eqr (b := 25) rfl ?_
    refine aw_iload_n dX7_tellPieces_18 rfl ?_
    refine aw_ald14 (i) dX7_tellPieces_19 k_25 (rfl) (by omega) ?_
    refine gf6_first dX7_tellPieces_20 kf7_97 (k_rule hri) ?_
    refine aw_eq (hQ i hi).1.2.2.2.2.2.1 ?_
    refine aw_iload_n dX7_tellPieces_23 rfl ?_
    refine aw_sto (R i 5) dX7_tellPieces_24 k_50 (rfl) (by omega) ?_
    refine aw_inc (nI (i + 1)) dX7_tellPieces_25 rfl (Nat.le_of_ble_eq_true rfl) (nI_1 i) ?_
    refine aw_goto dX7_tellPieces_28 ?_
    exact ih _ ⟨_, by rw [uA_s, uA_uA], fun j hj => by
      rcases Nat.lt_or_ge j i with q | q
      · rw [pk_un (fun e => by have := hd j i (by omega) hi e; omega)]
        exact hO j q
      · rw [show j = i by omega, pk_us]⟩
  · rintro σ2 ⟨O, rfl, hO⟩
    refine aw_iload_n dX7_tellPieces_2 rfl ?_
    refine aw_aload_n dX7_tellPieces_3 rfl ?_
    refine gf7_count dX7_tellPieces_4 kf7_22 k_24 ?_
    refine aw_eq hm ?_
    refine aw_icmp_geN dX7_tellPieces_7 rfl rfl (by omega) (by omega) (fun h_7 => ?_) (fun h_7 => absurd h_7 (by omega))
    refine aw_ic (nI 0) dX7_tellPieces_31 (by decide) ?_
    refine aw_istore_n dX7_tellPieces_32 (Nat.le_of_ble_eq_true rfl) ?_
    refine for_up (fun p σ' => ∃ O, σ' = (σ.1, uA σ.2.1 50 O, σ.2.2) ∧ (∀ q, q < p → O q = nI (posR R m (lab q))) ∧ ∀ r, p ≤ r → r < c → lab r = r → O r = nI (posR R m r)) (fun i => [some (.ref (ad g 24)), some (.int (nI c)), some (.ref (ad g 22)), some (.int (nI i))]) c ?_ ?_ 0 _ (Nat.zero_le _) ⟨O, rfl, fun q h => absurd h (Nat.not_lt_zero q), fun r _ h2 h3 => by
      obtain ⟨i, hi, e⟩ := hall r h2 h3
      rw [← e, posR_eq hi hd]
      exact hO i hi⟩
    · rintro p σ3 hp ⟨O, rfl, hO1, hO2⟩ ih
      have hlp := hF.le p hp
      have hlpp := hF.idem p hp
      refine aw_iload_n dX7_tellPieces_33 rfl ?_
      refine aw_iload_n dX7_tellPieces_34 rfl ?_
      refine aw_icmp_geN dX7_tellPieces_35 rfl rfl (by omega) (by omega) (fun h_35 => absurd h_35 (by omega)) (fun h_35 => ?_)
      refine aw_aload_n dX7_tellPieces_38 rfl ?_
      refine gf7_ofPiece dX7_tellPieces_39 kf7_18 k_24 ?_
      refine aw_eqr (b := 50) rfl ?_
      refine aw_iload_n dX7_tellPieces_42 rfl ?_
      refine aw_aload_n dX7_tellPieces_43 rfl ?_
      refine gf7_ofPiece dX7_tellPieces_44 kf7_18 k_24 ?_
      refine aw_eqr (b := 50) rfl ?_
      refine aw_aload_n dX7_tellPieces_47 rfl ?_
      refine aw_iload_n dX7_tellPieces_48 rfl ?_
      refine cqi1 dX7_tellPieces_49 km7_83 ok_X1_firstOf rfl rfl (by decide) k_22 (Nat.le_of_ble_eq_true rfl) ⟨Nat.le_of_ble_eq_true rfl, Nat.le_of_ble_eq_true rfl⟩ rfl rfl (ct_Groups_firstOf (lab := lab) (k := p) k_22 (n := c) (show Fo c lab _ by simp only [uA]; exact hF) hp (by omega)) ?_
      refine aw_ld (lab p) dX7_tellPieces_52 k_50 (rfl) (by omega) ?_
      refine aw_eq (show _ = nI (posR R m (lab p)) by
        rw [uA_s]
        rcases Nat.lt_or_ge (lab p) p with q | q
        · rw [hO1 _ q, hlpp]
        · exact hO2 (lab p) q (by omega) hlpp) ?_
      refine aw_sto (p) dX7_tellPieces_53 k_50 (rfl) (by omega) ?_
      refine aw_inc (nI (p + 1)) dX7_tellPieces_54 rfl (Nat.le_of_ble_eq_true rfl) (nI_1 p) ?_
      refine aw_goto dX7_tellPieces_57 ?_
      exact ih _ ⟨_, by rw [uA_s, uA_uA], fun q hq => by
        rcases Nat.lt_or_ge q p with z | z
        · rw [pk_un (by omega)]
          exact hO1 q z
        · rw [show q = p by omega, pk_us], fun r h1 h2 h3 => by
        rw [pk_un (by omega)]
        exact hO2 r (by omega) h2 h3⟩
    · rintro σ3 ⟨O, rfl, hO1, hO2⟩
      refine aw_iload_n dX7_tellPieces_33 rfl ?_
      refine aw_iload_n dX7_tellPieces_34 rfl ?_
      refine aw_icmp_geN dX7_tellPieces_35 rfl rfl (by omega) (by omega) (fun h_35 => ?_) (fun h_35 => absurd h_35 (by omega))
      exact aw_ret dX7_tellPieces_60 (⟨O, rfl, hO1⟩)

theorem cross_symm (a b : Nat → Nat) (rc : Nat) : crossN a b rc = crossN b a rc := by
  unfold crossN
  rw [Bool.and_comm (covN a _ _ _)]
  congr 1
  exact decide_eq_decide.mpr ⟨fun h e => h e.symm, fun h e => h e.symm⟩
theorem cross_irr (a : Nat → Nat) (rc : Nat) : crossN a a rc = false := by simp [crossN]
/-- how many of the first n rules the rule k crosses -/
def crsN (R : Nat → Nat → Nat) (rc : Nat) (k n : Nat) : Nat := ctB (fun x => crossN (R k) (R x) rc) n
/-- the crossings as they stand when i and those below it are done up to j -/
def crsI (R : Nat → Nat → Nat) (rc i j k : Nat) : Nat := if k < j then crsN R rc k i + (if crossN (R k) (R i) rc = true then 1 else 0) else if k < i then crsN R rc k i else if k = i then crsN R rc i j else 0
theorem crsI_end (R : Nat → Nat → Nat) (rc i k : Nat) : crsI R rc i i k = crsI R rc (i + 1) 0 k := by
  unfold crsI
  rw [if_neg (Nat.not_lt_zero k)]
  by_cases h : k < i
  · rw [if_pos h, if_pos (show k < i + 1 by omega)]
    rfl
  · rw [if_neg h, if_neg h]
    by_cases h2 : k = i
    · rw [if_pos h2, if_pos (show k < i + 1 by omega), h2]
      show _ = crsN R rc i i + (if crossN (R i) (R i) rc = true then 1 else 0)
      rw [cross_irr]
      rfl
    · rw [if_neg h2, if_neg (show ¬ k < i + 1 by omega)]
      by_cases h3 : k = i + 1
      · rw [if_pos h3]
        rfl
      · rw [if_neg h3]
theorem crsI_step (R : Nat → Nat → Nat) (rc i j k : Nat) (hj : j < i) : crsI R rc i (j + 1) k = crsI R rc i j k + (if (k = i ∨ k = j) ∧ crossN (R i) (R j) rc = true then 1 else 0) := by
  unfold crsI
  by_cases h1 : k = j
  · subst h1
    rw [if_pos (show k < k + 1 by omega), if_neg (show ¬ k < k by omega), if_pos hj, cross_symm (R k) (R i)]
    simp
  · by_cases h2 : k < j
    · rw [if_pos (show k < j + 1 by omega), if_pos h2, if_neg (show ¬ ((k = i ∨ k = j) ∧ crossN (R i) (R j) rc = true) from fun z => by omega)]
      rfl
    · rw [if_neg (show ¬ k < j + 1 by omega), if_neg h2]
      by_cases h3 : k < i
      · rw [if_neg (show ¬ ((k = i ∨ k = j) ∧ crossN (R i) (R j) rc = true) from fun z => by omega)]
        simp only [if_pos h3]
        rfl
      · by_cases h4 : k = i
        · subst h4
          simp only [if_neg h3, if_true]
          show crsN R rc k j + (if crossN (R k) (R j) rc = true then 1 else 0) = _
          simp
        · rw [if_neg (show ¬ ((k = i ∨ k = j) ∧ crossN (R i) (R j) rc = true) from fun z => by omega)]
          simp only [if_neg h3, if_neg h4]
theorem crsI_le (R : Nat → Nat → Nat) (rc i j k : Nat) : crsI R rc i j k ≤ i + j + 1 := by
  unfold crsI crsN
  have a := ctB_le (fun x => crossN (R k) (R x) rc) i
  have b := ctB_le (fun x => crossN (R i) (R x) rc) j
  split
  · split <;> omega
  · split
    · omega
    · split <;> omega
/-- only the crossings of rules have changed; those of the first m are as n says -/
def CrP (I J : Nat → Nat → Int32) (π : Nat → Nat) (m : Nat) (n : Nat → Nat) : Prop := (∀ f o, (f ≠ 199 ∨ kd o ≠ 6) → J f o = I f o) ∧ ∀ k, k < m → J 199 (25 + 1 + π k) = nI (n k)
theorem CrP.ru {I J : Nat → Nat → Int32} {π n : Nat → Nat} {m : Nat} (h : CrP I J π m n) {o : Nat} {ra : Nat → Nat} (hf : RuF I o ra) : RuF J o ra := by
  unfold RuF
  rw [h.1 192 o (Or.inl (by decide)), h.1 193 o (Or.inl (by decide)), h.1 194 o (Or.inl (by decide)), h.1 195 o (Or.inl (by decide)), h.1 196 o (Or.inl (by decide)), h.1 197 o (Or.inl (by decide)), h.1 198 o (Or.inl (by decide))]
  exact hf
theorem CrP.put {I J : Nat → Nat → Int32} {π n : Nat → Nat} {m i : Nat} (h : CrP I J π m n) (hm : m ≤ 24) (hπ : Perm π) (hi : i < m) : CrP I (uI J 199 (25 + 1 + π i) (nI (n i + 1))) π m (fun k => if k = i then n i + 1 else n k) := by
  refine ⟨fun f o hfo => ?_, fun k hk => ?_⟩
  · unfold uI
    rw [if_neg]
    · exact h.1 f o hfo
    · rintro ⟨rfl, rfl⟩
      rcases hfo with q | q
      · exact q rfl
      · exact q (k_rule (hπ.1 i (by omega)))
  · by_cases e : k = i
    · simp only [e, uI_s, if_true]
    · simp only [if_neg e]
      rw [uI_o (fun z => e (hπ.2 k i (by omega) (by omega) (by omega)))]
      exact h.2 k hk
theorem CrP.cong {I J : Nat → Nat → Int32} {π n n' : Nat → Nat} {m : Nat} (h : CrP I J π m n) (e : ∀ k, k < m → n k = n' k) : CrP I J π m n' := ⟨h.1, fun k hk => by rw [← e k hk]; exact h.2 k hk⟩
set_option maxHeartbeats 4000000 in
set_option maxRecDepth 100000 in
theorem ct_joinCrossing {g : GG} {σ : SG} {m rc : Nat} {R : Nat → Nat → Nat} (hR : RsN σ m R) (hrc : rc ≤ 5) (hz : ∀ k, k < m → σ.1 199 (25 + 1 + σ.2.2 k) = nI 0) : Ctv g yX7_joinCrossing cX7_joinCrossing 5 (rmm 2 47) [.ref (ad g 24), .int (nI rc), .ref (ad g 22)] σ (fun σ' => ∃ J L, σ' = (J, uA σ.2.1 23 L, σ.2.2) ∧ Fo m (labI (fun i j => crossN (R i) (R j) rc) m) L ∧ CrP σ.1 J σ.2.2 m (fun k => crsN R rc k m)) := by
  refine ct_of (own := RX7) (lv := [some (.ref (ad g 24)), some (.int (nI rc)), some (.ref (ad g 22)), none, none]) rfl (by decide) (Nat.le_of_ble_eq_true rfl) (by intro u hu; simp only [List.mem_cons, List.not_mem_nil, or_false] at hu; rcases hu with rfl | rfl | rfl <;> rfl) (lv_ok [.ref (ad g 24), .int (nI rc), .ref (ad g 22)] 2) ?_
  obtain ⟨hm, hm24, hπ, hQ⟩ := hR
  have hl23 := l_23
  have hl25 := l_25
  refine aw_aload_n dX7_joinCrossing_0 rfl ?_
  refine aw_aload_n dX7_joinCrossing_1 rfl ?_
  refine gf7_count dX7_joinCrossing_2 kf7_22 k_24 ?_
  refine aw_eq hm ?_
  refine cvv1 dX7_joinCrossing_5 km7_50 ok_X1_part rfl rfl (by decide) k_22 (Nat.le_of_ble_eq_true rfl) ⟨Nat.le_of_ble_eq_true rfl, Nat.le_of_ble_eq_true rfl⟩ rfl rfl (ct_Groups_part (c := m) k_22 (by omega)) ?_
  intro σ1 hp_5
  subst hp_5
  refine aw_ic (nI 1) dX7_joinCrossing_8 (by decide) ?_
  refine aw_istore_n dX7_joinCrossing_9 (Nat.le_of_ble_eq_true rfl) ?_
  rcases Nat.eq_zero_or_pos m with h0 | hpos
  · subst h0
    refine aw_iload_n dX7_joinCrossing_10 rfl ?_
    refine aw_aload_n dX7_joinCrossing_11 rfl ?_
    refine gf7_count dX7_joinCrossing_12 kf7_22 k_24 ?_
    refine aw_eq hm ?_
    refine aw_icmp_geN dX7_joinCrossing_15 rfl rfl (by omega) (by omega) (fun h_15 => ?_) (fun h_15 => absurd h_15 (by omega))
    exact aw_ret dX7_joinCrossing_97 (⟨_, _, rfl, fun k hk => absurd hk (Nat.not_lt_zero k), fun _ _ _ => rfl, fun k hk => absurd hk (Nat.not_lt_zero k)⟩)
  refine for_wf (fun n σ' lv => ∃ i, n + i = m ∧ 1 ≤ i ∧ ∃ J L x, σ' = (J, uA σ.2.1 23 L, σ.2.2) ∧ Fo m (labI (fun i j => crossN (R i) (R j) rc) i) L ∧ CrP σ.1 J σ.2.2 m (crsI R rc i 0) ∧ lv = [some (.ref (ad g 24)), some (.int (nI rc)), some (.ref (ad g 22)), some (.int (nI i)), x]) ?_ (m - 1) _ _ ⟨1, by omega, by omega, _, _, _, rfl, ?_, ⟨fun _ _ _ => rfl, fun k hk => ?_⟩, rfl⟩
  · rintro n σ2 lv2 ⟨i, hn, hi1, J, L, x, rfl, hF, hC, rfl⟩ ih
    have hmJ : J 226 24 = nI m := by rw [hC.1 226 24 (Or.inl (by decide))]; exact hm
    refine aw_iload_n dX7_joinCrossing_10 rfl ?_
    refine aw_aload_n dX7_joinCrossing_11 rfl ?_
    refine gf7_count dX7_joinCrossing_12 kf7_22 k_24 ?_
    refine aw_eq hmJ ?_
    refine aw_icmp_geN dX7_joinCrossing_15 rfl rfl (by omega) (by omega) (fun h_15 => ?_) (fun h_15 => ?_)
    · skip
      exact aw_ret dX7_joinCrossing_97 (by
          have e : i = m := by omega
          subst e
          refine ⟨J, L, rfl, hF, hC.cong (fun k hk => ?_)⟩
          unfold crsI
          rw [if_neg (Nat.not_lt_zero k), if_pos hk])
    · skip
      refine aw_ic (nI 0) dX7_joinCrossing_18 (by decide) ?_
      refine aw_istore dX7_joinCrossing_19 (Nat.le_of_ble_eq_true rfl) ?_
      have hri := hπ.1 i (by omega)
      refine for_up (fun j σ' => ∃ J M, σ' = (J, uA σ.2.1 23 M, σ.2.2) ∧ Fo m (labJ (fun i j => crossN (R i) (R j) rc) (labI (fun i j => crossN (R i) (R j) rc) i) i j) M ∧ CrP σ.1 J σ.2.2 m (crsI R rc i j)) (fun j => [some (.ref (ad g 24)), some (.int (nI rc)), some (.ref (ad g 22)), some (.int (nI i)), some (.int (nI j))]) i ?_ ?_ 0 _ (Nat.zero_le _) ⟨J, L, rfl, hF, hC⟩
      · rintro j σ3 hj ⟨J, M, rfl, hM, hC⟩ ih2
        have hrj := hπ.1 j (by omega)
        refine aw_iload dX7_joinCrossing_21 rfl ?_
        refine aw_iload_n dX7_joinCrossing_23 rfl ?_
        refine aw_icmp_geN dX7_joinCrossing_24 rfl rfl (by omega) (by omega) (fun h_24 => absurd h_24 (by omega)) (fun h_24 => ?_)
        refine aw_aload_n dX7_joinCrossing_27 rfl ?_
        refine gf7_all dX7_joinCrossing_28 kf7_11 k_24 ?_
        refine aw_eqr (b := 25) rfl ?_
        refine aw_iload_n dX7_joinCrossing_31 rfl ?_
        refine aw_ald14 (i) dX7_joinCrossing_32 k_25 (rfl) (by omega) ?_
        refine aw_aload_n dX7_joinCrossing_33 rfl ?_
        refine gf7_all dX7_joinCrossing_34 kf7_11 k_24 ?_
        refine aw_eqr (b := 25) rfl ?_
        refine aw_iload dX7_joinCrossing_37 rfl ?_
        refine aw_ald14 (j) dX7_joinCrossing_39 k_25 (rfl) (by omega) ?_
        refine aw_iload_n dX7_joinCrossing_40 rfl ?_
        refine cqi2 dX7_joinCrossing_41 km7_100 ok_X6_crosses rfl rfl (by decide) (k_rule hri) (Nat.le_of_ble_eq_true rfl) ⟨Nat.le_of_ble_eq_true rfl, Nat.le_of_ble_eq_true rfl⟩ rfl rfl (ct_Rule_crosses (k_rule hri) (k_rule hrj) (hC.ru (hQ i (by omega)).1) (hQ i (by omega)).2 (hC.ru (hQ j (by omega)).1) (hQ j (by omega)).2 (by omega)) ?_
        refine aw_if_eqB dX7_joinCrossing_44 rfl (fun h_44 => ?_) (fun h_44 => ?_)
        · skip
          refine aw_inc (nI (j + 1)) dX7_joinCrossing_85 rfl (Nat.le_of_ble_eq_true rfl) (nI_1 j) ?_
          refine aw_goto dX7_joinCrossing_88 ?_
          first
            | exact ih2 _ ⟨_, M2, by rw [uA_uA], by unfold labJ; rw [if_pos h_44]; exact hM2, hC2.cong (fun k hk => by
                rw [crsI_step R rc i j k hj]
                simp only [h_44, and_true]
                by_cases e1 : k = i
                · subst e1
                  rw [if_neg (by omega), if_pos rfl, if_pos (Or.inl rfl)]
                · by_cases e2 : k = j
                  · subst e2
                    rw [if_pos rfl, if_neg e1, if_pos (Or.inr rfl)]
                  · rw [if_neg e2, if_neg e1, if_neg (by omega)]
                    rfl)⟩
            | exact ih2 _ ⟨J, M, rfl, by unfold labJ; rw [if_neg h_44]; exact hM, hC.cong (fun k hk => by
                rw [crsI_step R rc i j k hj, if_neg (fun z => h_44 z.2)]
                rfl)⟩
        · skip
          refine aw_aload_n dX7_joinCrossing_47 rfl ?_
          refine aw_iload_n dX7_joinCrossing_48 rfl ?_
          refine aw_iload dX7_joinCrossing_49 rfl ?_
          refine cvv2 dX7_joinCrossing_51 km7_63 ok_X1_join rfl rfl (by decide) k_22 (Nat.le_of_ble_eq_true rfl) ⟨Nat.le_of_ble_eq_true rfl, Nat.le_of_ble_eq_true rfl⟩ rfl rfl (ct_Groups_join (a := i) (b := j) k_22 (show Fo m _ _ by simp only [uA]; exact hM) (by omega) (by omega) (by omega)) ?_
          intro σ4 hp_51
          obtain ⟨M2, rfl, hM2⟩ := hp_51
          have hs1 := crsI_le R rc i j i
          have hs2 := crsI_le R rc i j j
          have hC1 := hC.put hm24 hπ (show i < m by omega)
          have hC2 := hC1.put hm24 hπ (show j < m by omega)
          refine aw_aload_n dX7_joinCrossing_54 rfl ?_
          refine gf7_all dX7_joinCrossing_55 kf7_11 k_24 ?_
          refine aw_eqr (b := 25) rfl ?_
          refine aw_iload_n dX7_joinCrossing_58 rfl ?_
          refine aw_ald14 (i) dX7_joinCrossing_59 k_25 (rfl) (by omega) ?_
          refine aw_dup dX7_joinCrossing_60 rfl ?_
          refine gf6_crossings dX7_joinCrossing_61 kf7_104 (k_rule hri) ?_
          refine aw_eq (hC.2 i (by omega)) ?_
          refine aw_ic (nI 1) dX7_joinCrossing_64 (by decide) ?_
          refine aw_iadd dX7_joinCrossing_65 ?_
          refine aw_eq (show _ = nI (crsI R rc i j i + 1) by rw [nI_add]) ?_
          refine pf6_crossings dX7_joinCrossing_66 kf7_104 (k_rule hri) ?_
          refine aw_aload_n dX7_joinCrossing_69 rfl ?_
          refine gf7_all dX7_joinCrossing_70 kf7_11 k_24 ?_
          refine aw_eqr (b := 25) rfl ?_
          refine aw_iload dX7_joinCrossing_73 rfl ?_
          refine aw_ald14 (j) dX7_joinCrossing_75 k_25 (rfl) (by omega) ?_
          refine aw_dup dX7_joinCrossing_76 rfl ?_
          refine gf6_crossings dX7_joinCrossing_77 kf7_104 (k_rule hrj) ?_
          refine aw_eq (hC1.2 j (by omega)) ?_
          refine aw_ic (nI 1) dX7_joinCrossing_80 (by decide) ?_
          refine aw_iadd dX7_joinCrossing_81 ?_
          refine aw_eq (nI_1 _) ?_
          refine pf6_crossings dX7_joinCrossing_82 kf7_104 (k_rule hrj) ?_
          refine aw_inc (nI (j + 1)) dX7_joinCrossing_85 rfl (Nat.le_of_ble_eq_true rfl) (nI_1 j) ?_
          refine aw_goto dX7_joinCrossing_88 ?_
          first
            | exact ih2 _ ⟨_, M2, by rw [uA_uA], by unfold labJ; rw [if_pos h_44]; exact hM2, hC2.cong (fun k hk => by
                rw [crsI_step R rc i j k hj]
                simp only [h_44, and_true]
                by_cases e1 : k = i
                · subst e1
                  rw [if_neg (by omega), if_pos rfl, if_pos (Or.inl rfl)]
                · by_cases e2 : k = j
                  · subst e2
                    rw [if_pos rfl, if_neg e1, if_pos (Or.inr rfl)]
                  · rw [if_neg e2, if_neg e1, if_neg (by omega)]
                    rfl)⟩
            | exact ih2 _ ⟨J, M, rfl, by unfold labJ; rw [if_neg h_44]; exact hM, hC.cong (fun k hk => by
                rw [crsI_step R rc i j k hj, if_neg (fun z => h_44 z.2)]
                rfl)⟩
      · rintro σ3 ⟨J, M, rfl, hM, hC⟩
        refine aw_iload dX7_joinCrossing_21 rfl ?_
        refine aw_iload_n dX7_joinCrossing_23 rfl ?_
        refine aw_icmp_geN dX7_joinCrossing_24 rfl rfl (by omega) (by omega) (fun h_24 => ?_) (fun h_24 => absurd h_24 (by omega))
        refine aw_inc (nI (i + 1)) dX7_joinCrossing_91 rfl (Nat.le_of_ble_eq_true rfl) (nI_1 i) ?_
        refine aw_goto dX7_joinCrossing_94 ?_
        exact ih (n - 1) _ _ (by omega) ⟨i + 1, by omega, by omega, J, M, _, rfl, hM, hC.cong (fun k _ => crsI_end R rc i k), rfl⟩
  · show Fo m (labI (fun i j => crossN (R i) (R j) rc) 1) _
    have e : labI (fun i j => crossN (R i) (R j) rc) 1 = fun k => k := rfl
    rw [e]
    exact Fo.part (fun k hk => by unfold cp_; rw [if_pos hk])
  · rw [hz k hk]
    unfold crsI
    rw [if_neg (Nat.not_lt_zero k)]
    by_cases q : k < 1
    · rw [if_pos q, show k = 0 by omega]
      show _ = nI (0 + if crossN (R 0) (R 0) rc = true then 1 else 0)
      rw [cross_irr]
      rfl
    · rw [if_neg q]
      split <;> rfl

