theorem cnt_onto {lab : Nat → Nat} {k : Nat} : ∀ {c : Nat}, k < cnt lab c → ∃ r, r < c ∧ lab r = r ∧ cnt lab r = k
  | 0, h => absurd h (Nat.not_lt_zero k)
  | c + 1, h => by
    by_cases q : k < cnt lab c
    · obtain ⟨r, h1, h2, h3⟩ := cnt_onto q
      exact ⟨r, by omega, h2, h3⟩
    · have h9 : k < cnt lab c + (if lab c = c then 1 else 0) := h
      by_cases e : lab c = c
      · rw [if_pos e] at h9
        exact ⟨c, by omega, e, by omega⟩
      · rw [if_neg e] at h9
        omega
/-- the k-th first one -/
def rsq (lab : Nat → Nat) (c k : Nat) : Nat := fst (fun r => decide (lab r = r) && decide (cnt lab r = k)) c
theorem rsq_eq {lab : Nat → Nat} {c r : Nat} (h : r < c) (hr : lab r = r) : rsq lab c (cnt lab r) = r := by
  unfold rsq
  refine fst_eq (fun j hj => ?_) (by simp [hr]) h
  by_cases e : lab j = j
  · have := cnt_lt e hj
    simp
    intro _
    omega
  · simp [e]
theorem rsq_ok {lab : Nat → Nat} {c k : Nat} (h : k < cnt lab c) : rsq lab c k < c ∧ lab (rsq lab c k) = rsq lab c k ∧ cnt lab (rsq lab c k) = k := by
  obtain ⟨r, h1, h2, h3⟩ := cnt_onto h
  rw [← h3, rsq_eq h1 h2]
  exact ⟨h1, h2, rfl⟩
theorem rFold_5 {pc : Nat → Nat → Nat} {lab : Nat → Nat} {r : Nat} (hr : lab r = r) : ∀ {p : Nat}, r < p → rFold pc lab r p 5 = r
  | 0, h => absurd h (Nat.not_lt_zero r)
  | p + 1, h => by
    show (if lab p = r then (if p = r then rBeg pc p else rTake (rFold pc lab r p) pc p) else rFold pc lab r p) 5 = r
    by_cases e : p = r
    · rw [if_pos (by rw [e]; exact hr), if_pos e]
      simp [rBeg, e]
    · have ih := rFold_5 (pc := pc) hr (p := p) (by omega)
      by_cases q : lab p = r
      · rw [if_pos q, if_neg e]
        simp [rTake, ih]
      · rw [if_neg q]
        exact ih
/-- the rules as they are made, and as they are ordered -/
def Qsp (pc : Nat → Nat → Nat) (lab : Nat → Nat) (c : Nat) : Nat → Nat → Nat := fun k => rFold pc lab (rsq lab c k) c
noncomputable def Rsp (pc : Nat → Nat → Nat) (lab : Nat → Nat) (c : Nat) : Nat → Nat → Nat := fun k => Qsp pc lab c (srt (Qsp pc lab c) (cnt lab c) k)
theorem Qsp_dis {pc : Nat → Nat → Nat} {lab : Nat → Nat} {c : Nat} : ∀ a b, a < cnt lab c → b < cnt lab c → Qsp pc lab c a 5 = Qsp pc lab c b 5 → a = b := by
  intro a b ha hb e
  obtain ⟨a1, a2, a3⟩ := rsq_ok ha
  obtain ⟨b1, b2, b3⟩ := rsq_ok hb
  unfold Qsp at e
  rw [rFold_5 a2 a1, rFold_5 b2 b1] at e
  rw [← a3, ← b3, e]
/-- what is known of the order of the rules -/
theorem Rsp_ok {pc : Nat → Nat → Nat} {lab : Nat → Nat} {c : Nat} {τ : Nat → Nat} (h : SoP (Qsp pc lab c) (cnt lab c) τ) : (∀ a b, a < cnt lab c → b < cnt lab c → Rsp pc lab c a 5 = Rsp pc lab c b 5 → a = b) ∧ (∀ i, i < cnt lab c → Rsp pc lab c i 5 < c ∧ lab (Rsp pc lab c i 5) = Rsp pc lab c i 5) ∧ (∀ r, r < c → lab r = r → ∃ i, i < cnt lab c ∧ Rsp pc lab c i 5 = r) ∧ ∀ j k, j < k → k < cnt lab c → befN (Rsp pc lab c j) (Rsp pc lab c k) = true := by
  have hs := srt_ok h
  refine ⟨fun a b ha hb e => ?_, fun i hi => ?_, fun r h1 h2 => ?_, fun j k h1 h2 => hs.2.2 j k h1 h2⟩
  · exact hs.2.1 a b ha hb (Qsp_dis _ _ (hs.1 a ha) (hs.1 b hb) e)
  · obtain ⟨a1, a2, a3⟩ := rsq_ok (hs.1 i hi)
    have e5 : Rsp pc lab c i 5 = rsq lab c (srt (Qsp pc lab c) (cnt lab c) i) := rFold_5 a2 a1
    rw [e5]
    exact ⟨a1, a2⟩
  · obtain ⟨i, hi, e⟩ := hs.onto (cnt_lt h2 h1)
    refine ⟨i, hi, ?_⟩
    show rFold pc lab (rsq lab c (srt (Qsp pc lab c) (cnt lab c) i)) c 5 = r
    rw [e, rsq_eq h1 h2, rFold_5 h2 h1]
theorem Rsp_B {pc : Nat → Nat → Nat} {lab : Nat → Nat} {c : Nat} (hc : c ≤ 24) (hb : ∀ p w, p < c → w < 4 → pc p w ≤ 99) (k : Nat) : RuB (Rsp pc lab c k) := rFold_RuB hc hb (Nat.le_refl c)
theorem Perm.so {π τ : Nat → Nat} {Q : Nat → Nat → Nat} {m : Nat} (h : Perm π) (hs : SoP Q m τ) (ht : ∀ k, m ≤ k → τ k = k) (hm : m ≤ 24) : Perm (fun k => π (τ k)) := by
  have h1 : ∀ k, k < 24 → τ k < 24 := fun k hk => by
    rcases Nat.lt_or_ge k m with q | q
    · have := hs.1 k q
      omega
    · rw [ht k q]
      exact hk
  refine ⟨fun i hi => h.1 _ (h1 i hi), fun i j hi hj e => ?_⟩
  have e2 := h.2 _ _ (h1 i hi) (h1 j hj) e
  rcases Nat.lt_or_ge i m with q | q
  · rcases Nat.lt_or_ge j m with q2 | q2
    · exact hs.2.1 i j q q2 e2
    · have := hs.1 i q
      rw [ht j q2] at e2
      omega
  · rcases Nat.lt_or_ge j m with q2 | q2
    · have := hs.1 j q2
      rw [ht i q] at e2
      omega
    · rw [ht i q, ht j q2] at e2
      exact e2
set_option maxHeartbeats 4000000 in
set_option maxRecDepth 100000 in
theorem ct_Rules_find {g : GG} {σ : SG} {c sl gp rc : Nat} {pc : Nat → Nat → Nat} (hR : RowN σ 2 c pc) (hft : ∀ p, p < c → pc p 2 < pc p 3) (hS : SetN σ sl gp rc) (hπ : Perm σ.2.2) : Ctv g yX7_find cX7_find 3 (rmm 3 73) [.ref (ad g 24), .ref (ad g 1), .ref (ad g 22)] σ (fun σ' => ∃ I L O π, σ' = (I, uA (uA σ.2.1 23 L) 50 O, π) ∧ FrR σ.1 I ∧ RsN (I, uA (uA σ.2.1 23 L) 50 O, π) (cnt (labI (nearN pc sl gp) c) c) (Rsp pc (labI (nearN pc sl gp) c) c) ∧ (∀ k, k < cnt (labI (nearN pc sl gp) c) c → I 199 (25 + 1 + π k) = nI 0 ∧ I 200 (25 + 1 + π k) = -6) ∧ (∀ p, p < c → O p = nI (posR (Rsp pc (labI (nearN pc sl gp) c) c) (cnt (labI (nearN pc sl gp) c) c) ((labI (nearN pc sl gp) c) p))) ∧ ∀ j k, j < k → k < cnt (labI (nearN pc sl gp) c) c → befN (Rsp pc (labI (nearN pc sl gp) c) c j) (Rsp pc (labI (nearN pc sl gp) c) c k) = true) := by
  refine ct_of (own := RX7) (lv := [some (.ref (ad g 24)), some (.ref (ad g 1)), some (.ref (ad g 22))]) rfl (by decide) (Nat.le_of_ble_eq_true rfl) (by intro u hu; simp only [List.mem_cons, List.not_mem_nil, or_false] at hu; rcases hu with rfl | rfl | rfl <;> rfl) (lv_ok [.ref (ad g 24), .ref (ad g 1), .ref (ad g 22)] 0) ?_
  have hc24 : c ≤ 24 := by have := hR.2.2.1; rw [show ln (2 + 1) = 96 from l_3] at this; omega
  have hb9 : ∀ p w, p < c → w < 4 → pc p w ≤ 99 := fun p w h1 h2 => (hR.2.2.2 p w h1 h2).2
  refine aw_aload_n dX7_find_0 rfl ?_
  refine aw_aload_n dX7_find_1 rfl ?_
  refine csv2 dX7_find_2 km7_26 ok_X7_joinNear (Nat.le_of_ble_eq_true rfl) ⟨Nat.le_of_ble_eq_true rfl, Nat.le_of_ble_eq_true rfl⟩ rfl rfl (ct_joinNear hR hS) ?_
  intro σ1 hp_2
  obtain ⟨L, rfl, hL⟩ := hp_2
  generalize hlab : labI (nearN pc sl gp) c = lab at hL ⊢
  refine aw_aload_n dX7_find_5 rfl ?_
  refine aw_aload_n dX7_find_6 rfl ?_
  refine gf3_pieces dX7_find_7 kf7_30 k_1 ?_
  refine aw_eqr (b := 2) rfl ?_
  refine aw_aload_n dX7_find_10 rfl ?_
  refine cvv2 dX7_find_11 km7_36 ok_X7_gather rfl rfl (by decide) k_24 (Nat.le_of_ble_eq_true rfl) ⟨Nat.le_of_ble_eq_true rfl, Nat.le_of_ble_eq_true rfl⟩ rfl rfl (ct_gather (lab := lab) (hR.keep rfl (by simp [uA])) hft (show Fo c lab _ by simp only [uA]; exact hL) hπ) ?_
  intro σ2 hp_11
  obtain ⟨I, O, rfl, hG⟩ := hp_11
  have hcc := cnt_le lab c
  have hQ : ∀ k, k < cnt lab c → RuF I (25 + 1 + σ.2.2 k) (Qsp pc lab c k) ∧ RuB (Qsp pc lab c k) := fun k hk => by
    obtain ⟨a1, a2, a3⟩ := rsq_ok hk
    have := (hG.2.2.1 _ a1 a2).1
    rw [a3] at this
    exact ⟨this, rFold_RuB hc24 hb9 (Nat.le_refl c)⟩
  refine aw_aload_n dX7_find_14 rfl ?_
  refine cvv0 dX7_find_15 km7_40 ok_X7_sort rfl rfl (by decide) k_24 (Nat.le_of_ble_eq_true rfl) ⟨Nat.le_of_ble_eq_true rfl, Nat.le_of_ble_eq_true rfl⟩ rfl rfl (ct_sort hG.1 (by omega) hπ hQ Qsp_dis) ?_
  intro σ3 hp_15
  obtain ⟨τ, hτ, hτ2, rfl⟩ := hp_15
  obtain ⟨r1, r2, r3, r4⟩ := Rsp_ok hτ
  have hRs : RsN (I, uA (uA σ.2.1 23 L) 50 O, fun k => σ.2.2 (τ k)) (cnt lab c) (Rsp pc lab c) := ⟨hG.1, by omega, hπ.so hτ hτ2 (by omega), fun k hk => by
    have e := srt_eq hτ hk
    have h8 := hQ (τ k) (hτ.1 k hk)
    unfold Rsp
    rw [← e]
    exact h8⟩
  have h23 : Fo c lab (uA (uA σ.2.1 23 L) 50 O 23) := by simp only [uA]; exact hL
  refine aw_aload_n dX7_find_18 rfl ?_
  refine aw_aload_n dX7_find_19 rfl ?_
  refine gf3_pieces dX7_find_20 kf7_30 k_1 ?_
  refine aw_eqr (b := 2) rfl ?_
  refine gf5_count dX7_find_23 kf7_43 k_2 ?_
  refine aw_eq (show I 162 2 = nI c by rw [hG.2.2.2 162 2 (by rw [k_2]; decide) (Or.inl (by decide))]; exact hR.2.1) ?_
  refine aw_aload_n dX7_find_26 rfl ?_
  refine cvv2 dX7_find_27 km7_46 ok_X7_tellPieces rfl rfl (by decide) k_24 (Nat.le_of_ble_eq_true rfl) ⟨Nat.le_of_ble_eq_true rfl, Nat.le_of_ble_eq_true rfl⟩ rfl rfl (ct_tellPieces (lab := lab) hRs hc24 h23 r1 (fun i hi => (r2 i hi).1) r3) ?_
  intro σ4 hp_27
  obtain ⟨O2, rfl, hO2⟩ := hp_27
  exact aw_ret dX7_find_30 (by
      refine ⟨I, L, O2, _, by rw [uA_uA], hG.2.2.2, ⟨hRs.1, hRs.2.1, hRs.2.2.1, hRs.2.2.2⟩, fun k hk => ?_, hO2, r4⟩
      obtain ⟨a1, a2, a3⟩ := rsq_ok (hτ.1 k hk)
      have := (hG.2.2.1 _ a1 a2).2
      rw [a3] at this
      exact this)

