/-- how many first ones there are below p -/
def cnt (lab : Nat → Nat) : Nat → Nat
  | 0 => 0
  | p + 1 => cnt lab p + (if lab p = p then 1 else 0)
theorem cnt_le (lab : Nat → Nat) : ∀ p, cnt lab p ≤ p
  | 0 => Nat.le_refl _
  | p + 1 => by
    have := cnt_le lab p
    unfold cnt
    split <;> omega
theorem cnt_mono (lab : Nat → Nat) {p q : Nat} (h : p ≤ q) : cnt lab p ≤ cnt lab q := by
  induction q with
  | zero => rw [show p = 0 by omega]; exact Nat.le_refl _
  | succ q ih =>
    rcases Nat.lt_or_ge p (q + 1) with h1 | h1
    · have := ih (by omega)
      show cnt lab p ≤ cnt lab q + _
      omega
    · rw [show p = q + 1 by omega]
      exact Nat.le_refl _
theorem cnt_lt {lab : Nat → Nat} {r q : Nat} (hr : lab r = r) (h : r < q) : cnt lab r < cnt lab q := by
  have h1 : cnt lab (r + 1) = cnt lab r + 1 := by
    show cnt lab r + _ = _
    rw [if_pos hr]
  have := cnt_mono lab (show r + 1 ≤ q from h)
  omega
theorem cnt_inj {lab : Nat → Nat} {r q : Nat} (hr : lab r = r) (hq : lab q = q) (h : cnt lab r = cnt lab q) : r = q := by
  rcases Nat.lt_trichotomy r q with h1 | h1 | h1
  · have := cnt_lt hr h1
    omega
  · exact h1
  · have := cnt_lt hq h1
    omega
/-- the rule of the pieces below p whose label is r -/
def rFold (pc : Nat → Nat → Nat) (lab : Nat → Nat) (r : Nat) : Nat → (Nat → Nat)
  | 0 => fun _ => 0
  | p + 1 => if lab p = r then (if p = r then rBeg pc p else rTake (rFold pc lab r p) pc p) else rFold pc lab r p
theorem rFold_B {pc : Nat → Nat → Nat} {lab : Nat → Nat} {r c : Nat} (hc : c ≤ 24) (hb : ∀ p w, p < c → w < 4 → pc p w ≤ 99) : ∀ p, p ≤ c → (rFold pc lab r p 0 ≤ 99 ∧ rFold pc lab r p 1 ≤ 99 ∧ rFold pc lab r p 2 ≤ 99 ∧ rFold pc lab r p 3 ≤ 99 ∧ rFold pc lab r p 4 ≤ p ∧ rFold pc lab r p 5 ≤ 23 ∧ rFold pc lab r p 6 ≤ 99)
  | 0, _ => by simp [rFold]
  | p + 1, h => by
    have ih := rFold_B (lab := lab) (r := r) hc hb p (by omega)
    have b0 := hb p 0 (by omega) (by decide)
    have b1 := hb p 1 (by omega) (by decide)
    have b2 := hb p 2 (by omega) (by decide)
    have b3 := hb p 3 (by omega) (by decide)
    obtain ⟨i0, i1, i2, i3, i4, i5, i6⟩ := ih
    unfold rFold
    split
    · split
      · simp [rBeg]
        omega
      · simp only [rTake]
        refine ⟨by simp; omega, ?_, by simp; omega, by simp; omega, by simp; omega, by simp; omega, by simp; omega⟩
        simp
        split <;> omega
    · omega
theorem rFold_RuB {pc : Nat → Nat → Nat} {lab : Nat → Nat} {r c p : Nat} (hc : c ≤ 24) (hb : ∀ p w, p < c → w < 4 → pc p w ≤ 99) (h : p ≤ c) : RuB (rFold pc lab r p) := by
  have := rFold_B (lab := lab) (r := r) hc hb p h
  unfold RuB
  omega
/-- nothing but rules and their number has changed -/
def FrR (I J : Nat → Nat → Int32) : Prop := ∀ f o, kd o ≠ 6 → (f ≠ 226 ∨ o ≠ 24) → J f o = I f o
def GaP (pc : Nat → Nat → Nat) (lab : Nat → Nat) (π : Nat → Nat) (p : Nat) (I0 I : Nat → Nat → Int32) (O : Nat → Int32) : Prop :=
  I 226 24 = nI (cnt lab p) ∧ (∀ q, q < p → O q = nI (cnt lab (lab q))) ∧ (∀ r, r < p → lab r = r → RuF I (25 + 1 + π (cnt lab r)) (rFold pc lab r p) ∧ I 199 (25 + 1 + π (cnt lab r)) = nI 0 ∧ I 200 (25 + 1 + π (cnt lab r)) = -6) ∧ FrR I0 I
def Perm (π : Nat → Nat) : Prop := (∀ i, i < 24 → π i < 24) ∧ ∀ i j, i < 24 → j < 24 → π i = π j → i = j
theorem GaP.beg {pc : Nat → Nat → Nat} {lab π : Nat → Nat} {c p : Nat} {I0 I J : Nat → Nat → Int32} {O : Nat → Int32} (h : GaP pc lab π p I0 I O) (hπ : Perm π) (hp : p < 24) (hr : lab p = p) (h1 : RuF J (25 + 1 + π (cnt lab p)) (rBeg pc p)) (h2 : J 199 (25 + 1 + π (cnt lab p)) = nI 0) (h3 : J 200 (25 + 1 + π (cnt lab p)) = -6) (h4 : ∀ f o', o' ≠ 25 + 1 + π (cnt lab p) → J f o' = I f o') : GaP pc lab π (p + 1) I0 (uI J 226 24 (nI (cnt lab p + 1))) (upd O p (nI (cnt lab p))) := by
  have hcp := cnt_le lab p
  have hk : ∀ r, r < p + 1 → lab r = r → kd (25 + 1 + π (cnt lab r)) = 6 := fun r hr9 _ => k_rule (hπ.1 _ (by have := cnt_le lab r; omega))
  have hu : ∀ f o', kd o' = 6 → uI J 226 24 (nI (cnt lab p + 1)) f o' = J f o' := fun f o' hk9 => uI_o (fun e => by rw [e] at hk9; exact absurd (hk9.symm.trans k_24) (by decide))
  refine ⟨?_, ?_, ?_, ?_⟩
  · rw [uI_s]
    show _ = nI (cnt lab p + _)
    rw [if_pos hr]
  · intro q hq
    rcases Nat.lt_or_ge q p with e | e
    · rw [pk_un (by omega)]
      exact h.2.1 q e
    · rw [show q = p by omega, pk_us, hr]
  · intro r hr1 hr2
    have hk9 := hk r hr1 hr2
    rcases Nat.lt_or_ge r p with e | e
    · obtain ⟨g1, g2, g3⟩ := h.2.2.1 r e hr2
      have hne : 25 + 1 + π (cnt lab r) ≠ 25 + 1 + π (cnt lab p) := fun z => by
        have := hπ.2 (cnt lab r) (cnt lab p) (by have := cnt_le lab r; omega) (by omega) (by omega)
        have := cnt_lt hr2 e
        omega
      have hf : rFold pc lab r (p + 1) = rFold pc lab r p := by
        show (if lab p = r then _ else _) = _
        rw [if_neg (by omega)]
      rw [hf, hu _ _ hk9, hu _ _ hk9, h4 _ _ hne, h4 _ _ hne]
      refine ⟨?_, g2, g3⟩
      unfold RuF at g1 ⊢
      simp only [hu _ _ hk9, h4 _ _ hne]
      exact g1
    · have e1 : r = p := by omega
      subst e1
      have hf : rFold pc lab r (r + 1) = rBeg pc r := by
        show (if lab r = r then _ else _) = _
        rw [if_pos hr, if_pos rfl]
      rw [hf, hu _ _ hk9, hu _ _ hk9]
      refine ⟨?_, h2, h3⟩
      unfold RuF at h1 ⊢
      simp only [hu _ _ hk9]
      exact h1
  · intro f o' h5 h6
    have hne : o' ≠ 25 + 1 + π (cnt lab p) := fun e => by rw [e] at h5; exact h5 (hk p (by omega) hr)
    unfold uI
    rw [if_neg (by omega), h4 _ _ hne]
    exact h.2.2.2 f o' h5 h6
theorem GaP.tak {pc : Nat → Nat → Nat} {lab π : Nat → Nat} {p : Nat} {I0 I J : Nat → Nat → Int32} {O : Nat → Int32} (h : GaP pc lab π p I0 I O) (hπ : Perm π) (hp : p < 24) (hr : lab p < p) (hrr : lab (lab p) = lab p) (h1 : RuF J (25 + 1 + π (cnt lab (lab p))) (rTake (rFold pc lab (lab p) p) pc p)) (h2 : J 199 (25 + 1 + π (cnt lab (lab p))) = I 199 (25 + 1 + π (cnt lab (lab p)))) (h3 : J 200 (25 + 1 + π (cnt lab (lab p))) = I 200 (25 + 1 + π (cnt lab (lab p)))) (h4 : ∀ f o', o' ≠ 25 + 1 + π (cnt lab (lab p)) → J f o' = I f o') : GaP pc lab π (p + 1) I0 J (upd O p (nI (cnt lab (lab p)))) := by
  have hc1 : cnt lab (p + 1) = cnt lab p := by
    show cnt lab p + _ = _
    rw [if_neg (by omega)]
    rfl
  have hkr : kd (25 + 1 + π (cnt lab (lab p))) = 6 := k_rule (hπ.1 _ (by have := cnt_le lab (lab p); omega))
  refine ⟨?_, ?_, ?_, ?_⟩
  · rw [hc1, h4 _ _ (fun e => by rw [← e] at hkr; exact absurd (hkr.symm.trans k_24) (by decide))]
    exact h.1
  · intro q hq
    rcases Nat.lt_or_ge q p with e | e
    · rw [pk_un (by omega)]
      exact h.2.1 q e
    · rw [show q = p by omega, pk_us]
  · intro r hr1 hr2
    have hrp : r < p := by
      rcases Nat.lt_or_ge r p with e | e
      · exact e
      · rw [show r = p by omega] at hr2
        omega
    obtain ⟨g1, g2, g3⟩ := h.2.2.1 r hrp hr2
    by_cases e : r = lab p
    · rw [← e] at h1 h2 h3 hrr
      have hf : rFold pc lab r (p + 1) = rTake (rFold pc lab r p) pc p := by
        show (if lab p = r then _ else _) = _
        rw [if_pos e.symm, if_neg (by omega)]
      rw [hf]
      exact ⟨h1, h2.trans g2, h3.trans g3⟩
    · have hne : 25 + 1 + π (cnt lab r) ≠ 25 + 1 + π (cnt lab (lab p)) := fun z => by
        have := hπ.2 (cnt lab r) (cnt lab (lab p)) (by have := cnt_le lab r; omega) (by have := cnt_le lab (lab p); omega) (by omega)
        exact e (cnt_inj hr2 hrr this)
      have hf : rFold pc lab r (p + 1) = rFold pc lab r p := by
        show (if lab p = r then _ else _) = _
        rw [if_neg (fun z => e z.symm)]
      rw [hf, h4 _ _ hne, h4 _ _ hne]
      refine ⟨?_, g2, g3⟩
      unfold RuF at g1 ⊢
      simp only [h4 _ _ hne]
      exact g1
  · intro f o' h5 h6
    rw [h4 _ _ (fun e => by rw [e] at h5; exact h5 hkr)]
    exact h.2.2.2 f o' h5 h6
set_option maxHeartbeats 4000000 in
set_option maxRecDepth 100000 in
theorem ct_gather {g : GG} {σ : SG} {c : Nat} {pc : Nat → Nat → Nat} {lab : Nat → Nat} (hR : RowN σ 2 c pc) (hft : ∀ p, p < c → pc p 2 < pc p 3) (hF : Fo c lab (σ.2.1 23)) (hπ : Perm σ.2.2) : Ctv g yX7_gather cX7_gather 5 (rmm 2 47) [.ref (ad g 24), .ref (ad g 2), .ref (ad g 22)] σ (fun σ' => ∃ I O, σ' = (I, uA σ.2.1 50 O, σ.2.2) ∧ GaP pc lab σ.2.2 c σ.1 I O) := by
  refine ct_of (own := RX7) (lv := [some (.ref (ad g 24)), some (.ref (ad g 2)), some (.ref (ad g 22)), none, none]) rfl (by decide) (Nat.le_of_ble_eq_true rfl) (by intro u hu; simp only [List.mem_cons, List.not_mem_nil, or_false] at hu; rcases hu with rfl | rfl | rfl <;> rfl) (lv_ok [.ref (ad g 24), .ref (ad g 2), .ref (ad g 22)] 2) ?_
  have hl50 := l_50
  have hl25 := l_25
  have hc24 : c ≤ 24 := by have := hR.2.2.1; rw [show ln (2 + 1) = 96 from l_3] at this; omega
  have hb9 : ∀ p w, p < c → w < 4 → pc p w ≤ 99 := fun p w h1 h2 => (hR.2.2.2 p w h1 h2).2
  refine aw_aload_n dX7_gather_0 rfl ?_
  refine aw_ic (nI 0) dX7_gather_1 (by decide) ?_
  refine pf7_count dX7_gather_2 kf7_22 k_24 ?_
  refine aw_ic (nI 0) dX7_gather_5 (by decide) ?_
  refine aw_istore_n dX7_gather_6 (Nat.le_of_ble_eq_true rfl) ?_
  refine for_wf (fun n σ' lv => ∃ p, n + p = c ∧ ∃ I O x, σ' = (I, uA σ.2.1 50 O, σ.2.2) ∧ GaP pc lab σ.2.2 p σ.1 I O ∧ lv = [some (.ref (ad g 24)), some (.ref (ad g 2)), some (.ref (ad g 22)), some (.int (nI p)), x]) ?_ c _ _ ⟨0, by omega, _, σ.2.1 50, _, by rw [uA_same], ⟨by rw [uI_s]; rfl, fun q h => absurd h (Nat.not_lt_zero q), fun q h => absurd h (Nat.not_lt_zero q), fun f o h1 h2 => by unfold uI; rw [if_neg (by omega)]⟩, rfl⟩
  rintro n σ2 lv2 ⟨p, hn, I, O, x, rfl, hG, rfl⟩ ih
  have hR2 : RowN (I, uA σ.2.1 50 O, σ.2.2) 2 c pc := hR.keep (hG.2.2.2 162 2 (by rw [k_2]; decide) (Or.inl (by decide))) (by simp [uA])
  have hcp := cnt_le lab p
  refine aw_iload_n dX7_gather_7 rfl ?_
  refine aw_aload_n dX7_gather_8 rfl ?_
  refine gf5_count dX7_gather_9 kf7_43 k_2 ?_
  refine aw_eq hR2.2.1 ?_
  refine aw_icmp_geN dX7_gather_12 rfl rfl (by omega) (by omega) (fun h_12 => ?_) (fun h_12 => ?_)
  · skip
    exact aw_ret dX7_gather_100 (by
        have e : p = c := by omega
        subst e
        exact ⟨I, O, rfl, hG⟩)
  · skip
    have hlp := hF.le p (by omega)
    have hlpp := hF.idem p (by omega)
    have hclp := cnt_le lab (lab p)
    refine aw_aload_n dX7_gather_15 rfl ?_
    refine aw_iload_n dX7_gather_16 rfl ?_
    refine cqi1 dX7_gather_17 km7_83 ok_X1_firstOf rfl rfl (by decide) k_22 (Nat.le_of_ble_eq_true rfl) ⟨Nat.le_of_ble_eq_true rfl, Nat.le_of_ble_eq_true rfl⟩ rfl rfl (ct_Groups_firstOf (lab := lab) (k := p) k_22 (n := c) (show Fo c lab _ by simp only [uA]; exact hF) (by omega) (by omega)) ?_
    refine aw_istore dX7_gather_20 (Nat.le_of_ble_eq_true rfl) ?_
    refine aw_iload dX7_gather_22 rfl ?_
    refine aw_iload_n dX7_gather_24 rfl ?_
    refine aw_icmp_neN dX7_gather_25 rfl rfl (by omega) (by omega) (fun h_25 => ?_) (fun h_25 => ?_)
    · skip
      refine aw_aload_n dX7_gather_65 rfl ?_
      refine gf7_ofPiece dX7_gather_66 kf7_18 k_24 ?_
      refine aw_eqr (b := 50) rfl ?_
      refine aw_iload_n dX7_gather_69 rfl ?_
      refine aw_aload_n dX7_gather_70 rfl ?_
      refine gf7_ofPiece dX7_gather_71 kf7_18 k_24 ?_
      refine aw_eqr (b := 50) rfl ?_
      refine aw_iload dX7_gather_74 rfl ?_
      refine aw_ld (lab p) dX7_gather_76 k_50 (rfl) (by omega) ?_
      refine aw_eq (show _ = nI (cnt lab (lab p)) by rw [uA_s, hG.2.1 _ (by omega), hlpp]) ?_
      refine aw_sto (p) dX7_gather_77 k_50 (rfl) (by omega) ?_
      refine aw_aload_n dX7_gather_78 rfl ?_
      refine gf7_all dX7_gather_79 kf7_11 k_24 ?_
      refine aw_eqr (b := 25) rfl ?_
      refine aw_aload_n dX7_gather_82 rfl ?_
      refine gf7_ofPiece dX7_gather_83 kf7_18 k_24 ?_
      refine aw_eqr (b := 50) rfl ?_
      refine aw_iload_n dX7_gather_86 rfl ?_
      refine aw_ld (p) dX7_gather_87 k_50 (rfl) (by omega) ?_
      refine aw_eq (show _ = nI (cnt lab (lab p)) by rw [uA_s, pk_us]) ?_
      refine aw_ald14 (cnt lab (lab p)) dX7_gather_88 k_25 (rfl) (by omega) ?_
      refine aw_aload_n dX7_gather_89 rfl ?_
      refine aw_iload_n dX7_gather_90 rfl ?_
      refine cvv2 dX7_gather_91 km7_90 ok_X6_takeIn rfl rfl (by decide) (k_rule (hπ.1 (cnt lab (lab p)) (by omega))) (Nat.le_of_ble_eq_true rfl) ⟨Nat.le_of_ble_eq_true rfl, Nat.le_of_ble_eq_true rfl⟩ rfl rfl (ct_Rule_takeIn (k_rule (hπ.1 (cnt lab (lab p)) (by omega))) (hR2.keep rfl (by simp [uA])) (by omega) (hft p (by omega)) (hG.2.2.1 (lab p) (by omega) hlpp).1 (rFold_RuB hc24 hb9 (by omega))) ?_
      intro σ3 hp_91
      obtain ⟨J, rfl, g1, g2, g3, g4⟩ := hp_91
      refine aw_inc (nI (p + 1)) dX7_gather_94 rfl (Nat.le_of_ble_eq_true rfl) (nI_1 p) ?_
      refine aw_goto dX7_gather_97 ?_
      first
        | exact ih (n - 1) _ _ (by omega) ⟨p + 1, by omega, uI J 226 24 (nI (cnt lab p + 1)), upd O p (nI (cnt lab p)), _, by rw [uA_s, uA_uA], hG.beg (c := c) hπ (by omega) h_25 g1 g2 g3 g4, rfl⟩
        | exact ih (n - 1) _ _ (by omega) ⟨p + 1, by omega, J, upd O p (nI (cnt lab (lab p))), _, by rw [uA_s, uA_uA], hG.tak hπ (by omega) (by omega) hlpp g1 g2 g3 g4, rfl⟩
    · skip
      refine aw_aload_n dX7_gather_28 rfl ?_
      refine gf7_all dX7_gather_29 kf7_11 k_24 ?_
      refine aw_eqr (b := 25) rfl ?_
      refine aw_aload_n dX7_gather_32 rfl ?_
      refine gf7_count dX7_gather_33 kf7_22 k_24 ?_
      refine aw_eq hG.1 ?_
      refine aw_ald14 (cnt lab p) dX7_gather_36 k_25 (rfl) (by omega) ?_
      refine aw_aload_n dX7_gather_37 rfl ?_
      refine aw_iload_n dX7_gather_38 rfl ?_
      refine cvv2 dX7_gather_39 km7_86 ok_X6_begin rfl rfl (by decide) (k_rule (hπ.1 (cnt lab p) (by omega))) (Nat.le_of_ble_eq_true rfl) ⟨Nat.le_of_ble_eq_true rfl, Nat.le_of_ble_eq_true rfl⟩ rfl rfl (ct_Rule_begin (k_rule (hπ.1 (cnt lab p) (by omega))) hR2 (by omega) (hft p (by omega))) ?_
      intro σ3 hp_39
      obtain ⟨J, rfl, g1, g2, g3, g4⟩ := hp_39
      have e24 : J 226 24 = nI (cnt lab p) := by rw [g4 _ _ (fun e => absurd ((congrArg kd e).symm.trans k_24) (by rw [k_rule (hπ.1 (cnt lab p) (by omega))]; decide))]; exact hG.1
      refine aw_aload_n dX7_gather_42 rfl ?_
      refine gf7_ofPiece dX7_gather_43 kf7_18 k_24 ?_
      refine aw_eqr (b := 50) rfl ?_
      refine aw_iload_n dX7_gather_46 rfl ?_
      refine aw_aload_n dX7_gather_47 rfl ?_
      refine gf7_count dX7_gather_48 kf7_22 k_24 ?_
      refine aw_eq e24 ?_
      refine aw_sto (p) dX7_gather_51 k_50 (rfl) (by omega) ?_
      refine aw_aload_n dX7_gather_52 rfl ?_
      refine aw_dup dX7_gather_53 rfl ?_
      refine gf7_count dX7_gather_54 kf7_22 k_24 ?_
      refine aw_eq e24 ?_
      refine aw_ic (nI 1) dX7_gather_57 (by decide) ?_
      refine aw_iadd dX7_gather_58 ?_
      refine aw_eq (show _ = nI (cnt lab p + 1) by rw [nI_add]) ?_
      refine pf7_count dX7_gather_59 kf7_22 k_24 ?_
      refine aw_goto dX7_gather_62 ?_
      refine aw_inc (nI (p + 1)) dX7_gather_94 rfl (Nat.le_of_ble_eq_true rfl) (nI_1 p) ?_
      refine aw_goto dX7_gather_97 ?_
      first
        | exact ih (n - 1) _ _ (by omega) ⟨p + 1, by omega, uI J 226 24 (nI (cnt lab p + 1)), upd O p (nI (cnt lab p)), _, by rw [uA_s, uA_uA], hG.beg (c := c) hπ (by omega) h_25 g1 g2 g3 g4, rfl⟩
        | exact ih (n - 1) _ _ (by omega) ⟨p + 1, by omega, J, upd O p (nI (cnt lab (lab p))), _, by rw [uA_s, uA_uA], hG.tak hπ (by omega) (by omega) hlpp g1 g2 g3 g4, rfl⟩

