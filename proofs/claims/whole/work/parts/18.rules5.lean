/-- the rules of a label lie at two places at least -/
def twoB (m : Nat) (lab : Nat → Nat) (R : Nat → Nat → Nat) (f w : Nat) : Bool := (List.range m).any fun i => (List.range m).any fun j => decide (lab i = f ∧ lab j = f ∧ R i 0 = w ∧ R j 0 = w ∧ R i 1 ≠ R j 1)
theorem two_iff {m : Nat} {lab : Nat → Nat} {R : Nat → Nat → Nat} {f w : Nat} : twoB m lab R f w = true ↔ ∃ i j, i < m ∧ j < m ∧ lab i = f ∧ lab j = f ∧ R i 0 = w ∧ R j 0 = w ∧ R i 1 ≠ R j 1 := by
  unfold twoB
  simp only [List.any_eq_true, List.mem_range, decide_eq_true_eq]
  constructor
  · rintro ⟨i, hi, j, hj, h⟩
    exact ⟨i, j, hi, hj, h⟩
  · rintro ⟨i, j, hi, hj, h⟩
    exact ⟨i, hi, j, hj, h⟩
def isT (m : Nat) (lab : Nat → Nat) (R : Nat → Nat → Nat) (f : Nat) : Bool := decide (lab f = f) && (twoB m lab R f 0 && twoB m lab R f 1)
def CpI (lab : Nat → Nat) (R : Nat → Nat → Nat) (f w i n : Nat) (l : Int32) : Prop :=
  (n = 0 ∧ l = -6 ∧ ∀ k, k < i → ¬ (lab k = f ∧ R k 0 = w)) ∨ (0 < n ∧ ∃ k, k < i ∧ lab k = f ∧ R k 0 = w ∧ l = nI (R k 1) ∧ (n = 1 → ∀ k', k' < i → lab k' = f → R k' 0 = w → R k' 1 = R k 1) ∧ (1 < n → ∃ a b, a < i ∧ b < i ∧ lab a = f ∧ lab b = f ∧ R a 0 = w ∧ R b 0 = w ∧ R a 1 ≠ R b 1))
theorem CpI.skip {lab : Nat → Nat} {R : Nat → Nat → Nat} {f w i n : Nat} {l : Int32} (h : CpI lab R f w i n l) (hn : ¬ (lab i = f ∧ R i 0 = w ∧ ¬ nI (R i 1) = l)) (hb : ∀ k, R k 1 ≤ 99) : CpI lab R f w (i + 1) n l := by
  rcases h with ⟨h1, h2, h3⟩ | ⟨h1, k, h2, h3, h4, h5, h6, h7⟩
  · refine Or.inl ⟨h1, h2, fun k hk hs => ?_⟩
    rcases Nat.lt_or_ge k i with q | q
    · exact h3 k q hs
    · rw [show k = i by omega] at hs
      refine hn ⟨hs.1, hs.2, fun e => ?_⟩
      rw [h2] at e
      have e9 := congrArg Int32.toInt e
      rw [nI_toInt (by have := hb i; omega), show (-6 : Int32).toInt = -6 by decide] at e9
      omega
  · refine Or.inr ⟨h1, k, by omega, h3, h4, h5, fun e k' hk' a b => ?_, fun e => ?_⟩
    · rcases Nat.lt_or_ge k' i with q | q
      · exact h6 e k' q a b
      · rw [show k' = i by omega] at a b ⊢
        by_cases z : nI (R i 1) = l
        · rw [h5] at z
          exact (nI_eq (by have := hb i; omega) (by have := hb k; omega)).mp z
        · exact absurd ⟨a, b, z⟩ hn
    · obtain ⟨a, b, x⟩ := h7 e
      exact ⟨a, b, by omega, by omega, x.2.2⟩
theorem CpI.take {lab : Nat → Nat} {R : Nat → Nat → Nat} {f w i n : Nat} {l : Int32} (h : CpI lab R f w i n l) (h8 : lab i = f) (h9 : R i 0 = w) (hn : ¬ nI (R i 1) = l) : CpI lab R f w (i + 1) (n + 1) (nI (R i 1)) := by
  refine Or.inr ⟨by omega, i, by omega, h8, h9, rfl, fun e k' hk' a b => ?_, fun e => ?_⟩
  · rcases h with ⟨h1, h2, h3⟩ | ⟨h1, -⟩
    · rcases Nat.lt_or_ge k' i with q | q
      · exact absurd ⟨a, b⟩ (h3 k' q)
      · rw [show k' = i by omega]
    · omega
  · rcases h with ⟨h1, -⟩ | ⟨h1, k, h2, h3, h4, h5, -⟩
    · omega
    · exact ⟨k, i, by omega, by omega, h3, h8, h4, h9, fun z => hn (by rw [← z]; exact h5.symm)⟩
theorem CpI.end_ {lab : Nat → Nat} {R : Nat → Nat → Nat} {f w m n : Nat} {l : Int32} (h : CpI lab R f w m n l) : 1 < n ↔ twoB m lab R f w = true := by
  rw [two_iff]
  rcases h with ⟨h1, h2, h3⟩ | ⟨h1, k, h2, h3, h4, h5, h6, h7⟩
  · constructor
    · omega
    · rintro ⟨i, j, hi, hj, a, b, c, d, e⟩
      exact absurd ⟨a, c⟩ (h3 i hi)
  · constructor
    · intro h
      obtain ⟨a, b, x⟩ := h7 h
      exact ⟨a, b, x⟩
    · rintro ⟨i, j, hi, hj, a, b, c, d, e⟩
      rcases Nat.lt_or_ge 1 n with q | q
      · exact q
      · have e1 := h6 (by omega) i hi a c
        have e2 := h6 (by omega) j hj b d
        omega
theorem CpI.skip' {lab : Nat → Nat} {R : Nat → Nat → Nat} {f w i n : Nat} {l : Int32} (h : CpI lab R f w i n l) (hn : ¬ lab i = f) : CpI lab R f w (i + 1) n l := by
  rcases h with ⟨h1, h2, h3⟩ | ⟨h1, k, h2, h3, h4, h5, h6, h7⟩
  · refine Or.inl ⟨h1, h2, fun k hk hs => ?_⟩
    rcases Nat.lt_or_ge k i with q | q
    · exact h3 k q hs
    · rw [show k = i by omega] at hs
      exact hn hs.1
  · refine Or.inr ⟨h1, k, by omega, h3, h4, h5, fun e k' hk' a b => ?_, fun e => ?_⟩
    · rcases Nat.lt_or_ge k' i with q | q
      · exact h6 e k' q a b
      · rw [show k' = i by omega] at a
        exact absurd a hn
    · obtain ⟨a, b, x⟩ := h7 e
      exact ⟨a, b, by omega, by omega, x.2.2⟩
set_option maxHeartbeats 4000000 in
set_option maxRecDepth 100000 in
theorem ct_countPlaces {g : GG} {σ : SG} {m f w : Nat} {R : Nat → Nat → Nat} {lab : Nat → Nat} (hR : RsN σ m R) (hb9 : ∀ k, R k 1 ≤ 99) (hF : Fo m lab (σ.2.1 23)) (hf : f < m) (hw : w ≤ 1) : Cti g yX7_countPlaces cX7_countPlaces 8 (some .int) (rmm 1 23) [.ref (ad g 24), .int (nI f), .int (nI w), .ref (ad g 22)] σ (fun r σ' => ∃ n, r = nI n ∧ n ≤ 24 ∧ (1 < n ↔ twoB m lab R f w = true) ∧ σ' = σ) := by
  refine ct_of (own := RX7) (lv := [some (.ref (ad g 24)), some (.int (nI f)), some (.int (nI w)), some (.ref (ad g 22)), none, none, none, none]) rfl (by decide) (Nat.le_of_ble_eq_true rfl) (by intro u hu; simp only [List.mem_cons, List.not_mem_nil, or_false] at hu; rcases hu with rfl | rfl | rfl | rfl <;> rfl) (lv_ok [.ref (ad g 24), .int (nI f), .int (nI w), .ref (ad g 22)] 4) ?_
  obtain ⟨hm, hm24, hπ, hQ⟩ := hR
  have hl25 := l_25
  refine aw_ic (nI 0) dX7_countPlaces_0 (by decide) ?_
  refine aw_istore dX7_countPlaces_1 (Nat.le_of_ble_eq_true rfl) ?_
  refine aw_bi (-6) dX7_countPlaces_3 (by decide) ?_
  refine aw_istore dX7_countPlaces_5 (Nat.le_of_ble_eq_true rfl) ?_
  refine aw_iload_n dX7_countPlaces_7 rfl ?_
  refine aw_istore dX7_countPlaces_8 (Nat.le_of_ble_eq_true rfl) ?_
  refine for_wf (fun nn σ' lv => ∃ i, nn + i = m ∧ f ≤ i ∧ ∃ n l x, n ≤ i ∧ CpI lab R f w i n l ∧ σ' = σ ∧ lv = [some (.ref (ad g 24)), some (.int (nI f)), some (.int (nI w)), some (.ref (ad g 22)), some (.int (nI n)), some (.int l), some (.int (nI i)), x]) ?_ (m - f) _ _ ⟨f, by omega, Nat.le_refl f, 0, -6, _, Nat.zero_le _, Or.inl ⟨rfl, rfl, fun k hk hs => ?_⟩, rfl, rfl⟩
  rotate_left
  · have := hF.le k (by omega)
    omega
  rintro nn σ2 lv2 ⟨i, hn, hfi, n, l, x, hni, hC, rfl, rfl⟩ ih
  refine aw_iload dX7_countPlaces_10 rfl ?_
  refine aw_aload_n dX7_countPlaces_12 rfl ?_
  refine gf7_count dX7_countPlaces_13 kf7_22 k_24 ?_
  refine aw_eq hm ?_
  refine aw_icmp_geN dX7_countPlaces_16 rfl rfl (by omega) (by omega) (fun h_16 => ?_) (fun h_16 => ?_)
  · skip
    refine aw_iload dX7_countPlaces_91 rfl ?_
    exact aw_ireti dX7_countPlaces_93 (by
        have e : i = m := by omega
        subst e
        exact ⟨n, rfl, by omega, hC.end_, rfl⟩)
  · skip
    refine aw_aload_n dX7_countPlaces_19 rfl ?_
    refine gf7_all dX7_countPlaces_20 kf7_11 k_24 ?_
    refine aw_eqr (b := 25) rfl ?_
    refine aw_iload dX7_countPlaces_23 rfl ?_
    have hri := hπ.1 i (by omega)
    obtain ⟨F0, F1, -⟩ := (hQ i (by omega)).1
    have b0 := (hQ i (by omega)).2.1
    have b1 := (hQ i (by omega)).2.2.1
    refine aw_ald14 (i) dX7_countPlaces_25 k_25 (rfl) (by omega) ?_
    refine gf6_way dX7_countPlaces_26 kf7_115 (k_rule hri) ?_
    refine aw_eq F0 ?_
    refine aw_iload_n dX7_countPlaces_29 rfl ?_
    refine aw_icmp_neN dX7_countPlaces_30 rfl rfl (by omega) (by omega) (fun h_30 => ?_) (fun h_30 => ?_)
    · skip
      refine aw_ic (nI 0) dX7_countPlaces_62 (by decide) ?_
      refine aw_istore dX7_countPlaces_63 (Nat.le_of_ble_eq_true rfl) ?_
      refine aw_iload dX7_countPlaces_65 rfl ?_
      refine aw_if_eq dX7_countPlaces_67 (fun _ => ?_) (fun h => absurd (by decide) h)
      refine aw_inc (nI (i + 1)) dX7_countPlaces_85 rfl (Nat.le_of_ble_eq_true rfl) (nI_1 i) ?_
      refine aw_goto dX7_countPlaces_88 ?_
      first
        | exact ih (nn - 1) _ _ (by omega) ⟨i + 1, by omega, by omega, n + 1, _, _, by omega, hC.take h_55 h_30 h_45, rfl, rfl⟩
        | exact ih (nn - 1) _ _ (by omega) ⟨i + 1, by omega, by omega, n, l, _, by omega, hC.skip (fun z => h_30 z.2.1) hb9, rfl, rfl⟩
        | exact ih (nn - 1) _ _ (by omega) ⟨i + 1, by omega, by omega, n, l, _, by omega, hC.skip (fun z => z.2.2 h_45) hb9, rfl, rfl⟩
        | exact ih (nn - 1) _ _ (by omega) ⟨i + 1, by omega, by omega, n, l, _, by omega, hC.skip' h_55, rfl, rfl⟩
        | skip
    · skip
      refine aw_aload_n dX7_countPlaces_33 rfl ?_
      refine gf7_all dX7_countPlaces_34 kf7_11 k_24 ?_
      refine aw_eqr (b := 25) rfl ?_
      refine aw_iload dX7_countPlaces_37 rfl ?_
      refine aw_ald14 (i) dX7_countPlaces_39 k_25 (rfl) (by omega) ?_
      refine gf6_at dX7_countPlaces_40 kf7_118 (k_rule hri) ?_
      refine aw_eq F1 ?_
      refine aw_iload dX7_countPlaces_43 rfl ?_
      refine aw_icmp_eq dX7_countPlaces_45 (fun h_45 => ?_) (fun h_45 => ?_)
      · skip
        refine aw_ic (nI 0) dX7_countPlaces_62 (by decide) ?_
        refine aw_istore dX7_countPlaces_63 (Nat.le_of_ble_eq_true rfl) ?_
        refine aw_iload dX7_countPlaces_65 rfl ?_
        refine aw_if_eq dX7_countPlaces_67 (fun _ => ?_) (fun h => absurd (by decide) h)
        refine aw_inc (nI (i + 1)) dX7_countPlaces_85 rfl (Nat.le_of_ble_eq_true rfl) (nI_1 i) ?_
        refine aw_goto dX7_countPlaces_88 ?_
        first
          | exact ih (nn - 1) _ _ (by omega) ⟨i + 1, by omega, by omega, n + 1, _, _, by omega, hC.take h_55 h_30 h_45, rfl, rfl⟩
          | exact ih (nn - 1) _ _ (by omega) ⟨i + 1, by omega, by omega, n, l, _, by omega, hC.skip (fun z => h_30 z.2.1) hb9, rfl, rfl⟩
          | exact ih (nn - 1) _ _ (by omega) ⟨i + 1, by omega, by omega, n, l, _, by omega, hC.skip (fun z => z.2.2 h_45) hb9, rfl, rfl⟩
          | exact ih (nn - 1) _ _ (by omega) ⟨i + 1, by omega, by omega, n, l, _, by omega, hC.skip' h_55, rfl, rfl⟩
          | skip
      · skip
        refine aw_aload_n dX7_countPlaces_48 rfl ?_
        refine aw_iload dX7_countPlaces_49 rfl ?_
        have hli := hF.le i (by omega)
        refine cqi1 dX7_countPlaces_51 km7_83 ok_X1_firstOf rfl rfl (by decide) k_22 (Nat.le_of_ble_eq_true rfl) ⟨Nat.le_of_ble_eq_true rfl, Nat.le_of_ble_eq_true rfl⟩ rfl rfl (ct_Groups_firstOf (lab := lab) (k := i) k_22 (n := m) hF (by omega) (by omega)) ?_
        refine aw_iload_n dX7_countPlaces_54 rfl ?_
        refine aw_icmp_neN dX7_countPlaces_55 rfl rfl (by omega) (by omega) (fun h_55 => ?_) (fun h_55 => ?_)
        · skip
          refine aw_ic (nI 0) dX7_countPlaces_62 (by decide) ?_
          refine aw_istore dX7_countPlaces_63 (Nat.le_of_ble_eq_true rfl) ?_
          refine aw_iload dX7_countPlaces_65 rfl ?_
          refine aw_if_eq dX7_countPlaces_67 (fun _ => ?_) (fun h => absurd (by decide) h)
          refine aw_inc (nI (i + 1)) dX7_countPlaces_85 rfl (Nat.le_of_ble_eq_true rfl) (nI_1 i) ?_
          refine aw_goto dX7_countPlaces_88 ?_
          first
            | exact ih (nn - 1) _ _ (by omega) ⟨i + 1, by omega, by omega, n + 1, _, _, by omega, hC.take h_55 h_30 h_45, rfl, rfl⟩
            | exact ih (nn - 1) _ _ (by omega) ⟨i + 1, by omega, by omega, n, l, _, by omega, hC.skip (fun z => h_30 z.2.1) hb9, rfl, rfl⟩
            | exact ih (nn - 1) _ _ (by omega) ⟨i + 1, by omega, by omega, n, l, _, by omega, hC.skip (fun z => z.2.2 h_45) hb9, rfl, rfl⟩
            | exact ih (nn - 1) _ _ (by omega) ⟨i + 1, by omega, by omega, n, l, _, by omega, hC.skip' h_55, rfl, rfl⟩
            | skip
        · skip
          refine aw_ic (nI 1) dX7_countPlaces_58 (by decide) ?_
          refine aw_goto dX7_countPlaces_59 ?_
          refine aw_istore dX7_countPlaces_63 (Nat.le_of_ble_eq_true rfl) ?_
          refine aw_iload dX7_countPlaces_65 rfl ?_
          refine aw_if_eq dX7_countPlaces_67 (fun h => absurd h (by decide)) (fun _ => ?_)
          refine aw_inc (nI (n + 1)) dX7_countPlaces_70 rfl (Nat.le_of_ble_eq_true rfl) (nI_1 n) ?_
          refine aw_aload_n dX7_countPlaces_73 rfl ?_
          refine gf7_all dX7_countPlaces_74 kf7_11 k_24 ?_
          refine aw_eqr (b := 25) rfl ?_
          refine aw_iload dX7_countPlaces_77 rfl ?_
          refine aw_ald14 (i) dX7_countPlaces_79 k_25 (rfl) (by omega) ?_
          refine gf6_at dX7_countPlaces_80 kf7_118 (k_rule hri) ?_
          refine aw_eq F1 ?_
          refine aw_istore dX7_countPlaces_83 (Nat.le_of_ble_eq_true rfl) ?_
          refine aw_inc (nI (i + 1)) dX7_countPlaces_85 rfl (Nat.le_of_ble_eq_true rfl) (nI_1 i) ?_
          refine aw_goto dX7_countPlaces_88 ?_
          first
            | exact ih (nn - 1) _ _ (by omega) ⟨i + 1, by omega, by omega, n + 1, _, _, by omega, hC.take h_55 h_30 h_45, rfl, rfl⟩
            | exact ih (nn - 1) _ _ (by omega) ⟨i + 1, by omega, by omega, n, l, _, by omega, hC.skip (fun z => h_30 z.2.1) hb9, rfl, rfl⟩
            | exact ih (nn - 1) _ _ (by omega) ⟨i + 1, by omega, by omega, n, l, _, by omega, hC.skip (fun z => z.2.2 h_45) hb9, rfl, rfl⟩
            | exact ih (nn - 1) _ _ (by omega) ⟨i + 1, by omega, by omega, n, l, _, by omega, hC.skip' h_55, rfl, rfl⟩
            | skip

/-- only the tables of rules have changed; those of the first m are as t says -/
def TbP (I J : Nat → Nat → Int32) (π : Nat → Nat) (m : Nat) (t : Nat → Int32) : Prop := (∀ f o, (f ≠ 200 ∨ kd o ≠ 6) → J f o = I f o) ∧ ∀ k, k < m → J 200 (25 + 1 + π k) = t k
theorem TbP.ru {I J : Nat → Nat → Int32} {π : Nat → Nat} {m : Nat} {t : Nat → Int32} (h : TbP I J π m t) {o : Nat} {ra : Nat → Nat} (hf : RuF I o ra) : RuF J o ra := by
  unfold RuF
  rw [h.1 192 o (Or.inl (by decide)), h.1 193 o (Or.inl (by decide)), h.1 194 o (Or.inl (by decide)), h.1 195 o (Or.inl (by decide)), h.1 196 o (Or.inl (by decide)), h.1 197 o (Or.inl (by decide)), h.1 198 o (Or.inl (by decide))]
  exact hf
theorem TbP.put {I J : Nat → Nat → Int32} {π : Nat → Nat} {m i : Nat} {t : Nat → Int32} (h : TbP I J π m t) (hm : m ≤ 24) (hπ : Perm π) (hi : i < m) (x : Int32) : TbP I (uI J 200 (25 + 1 + π i) x) π m (fun k => if k = i then x else t k) := by
  refine ⟨fun f o hfo => ?_, fun k hk => ?_⟩
  · unfold uI
    rw [if_neg]
    · exact h.1 f o hfo
    · rintro ⟨rfl, rfl⟩
      rcases hfo with q | q
      · exact q rfl
      · exact q (k_rule (hπ.1 i (by omega)))
  · by_cases e : k = i
    · simp only [e, uI_s, if_true]
    · simp only [if_neg e]
      rw [uI_o (fun z => e (hπ.2 k i (by omega) (by omega) (by omega)))]
      exact h.2 k hk
theorem TbP.cong {I J : Nat → Nat → Int32} {π : Nat → Nat} {m : Nat} {t t' : Nat → Int32} (h : TbP I J π m t) (e : ∀ k, k < m → t k = t' k) : TbP I J π m t' := ⟨h.1, fun k hk => by rw [← e k hk]; exact h.2 k hk⟩
theorem TbP.trans {I J K : Nat → Nat → Int32} {π : Nat → Nat} {m : Nat} {t t' : Nat → Int32} (h : TbP I J π m t) (h2 : TbP J K π m t') : TbP I K π m t' := ⟨fun f o q => (h2.1 f o q).trans (h.1 f o q), h2.2⟩
theorem RsN.tb {σ : SG} {m : Nat} {R : Nat → Nat → Nat} (h : RsN σ m R) {J : Nat → Nat → Int32} {t : Nat → Int32} (hT : TbP σ.1 J σ.2.2 m t) {A : Nat → Nat → Int32} : RsN (J, A, σ.2.2) m R := ⟨by show J 226 24 = _; rw [hT.1 226 24 (Or.inl (by decide))]; exact h.1, h.2.1, h.2.2.1, fun k hk => ⟨hT.ru (h.2.2.2 k hk).1, (h.2.2.2 k hk).2⟩⟩
set_option maxHeartbeats 4000000 in
set_option maxRecDepth 100000 in
theorem ct_giveTable {g : GG} {σ : SG} {m f t : Nat} {R : Nat → Nat → Nat} {lab : Nat → Nat} (hR : RsN σ m R) (hF : Fo m lab (σ.2.1 23)) (hf : f < m) : Ctv g yX7_giveTable cX7_giveTable 5 (rmm 1 23) [.ref (ad g 24), .int (nI f), .int (nI t), .ref (ad g 22)] σ (fun σ' => ∃ J, σ' = (J, σ.2) ∧ TbP σ.1 J σ.2.2 m (fun k => if lab k = f then nI t else σ.1 200 (25 + 1 + σ.2.2 k))) := by
  refine ct_of (own := RX7) (lv := [some (.ref (ad g 24)), some (.int (nI f)), some (.int (nI t)), some (.ref (ad g 22)), none]) rfl (by decide) (Nat.le_of_ble_eq_true rfl) (by intro u hu; simp only [List.mem_cons, List.not_mem_nil, or_false] at hu; rcases hu with rfl | rfl | rfl | rfl <;> rfl) (lv_ok [.ref (ad g 24), .int (nI f), .int (nI t), .ref (ad g 22)] 1) ?_
  obtain ⟨hm, hm24, hπ, hQ⟩ := hR
  have hl25 := l_25
  refine aw_iload_n dX7_giveTable_0 rfl ?_
  refine aw_istore dX7_giveTable_1 (Nat.le_of_ble_eq_true rfl) ?_
  refine for_wf (fun nn σ' lv => ∃ i, nn + i = m ∧ f ≤ i ∧ ∃ J, TbP σ.1 J σ.2.2 m (fun k => if k < i ∧ lab k = f then nI t else σ.1 200 (25 + 1 + σ.2.2 k)) ∧ σ' = (J, σ.2) ∧ lv = [some (.ref (ad g 24)), some (.int (nI f)), some (.int (nI t)), some (.ref (ad g 22)), some (.int (nI i))]) ?_ (m - f) _ _ ⟨f, by omega, Nat.le_refl f, σ.1, ⟨fun _ _ _ => rfl, fun k hk => ?_⟩, rfl, rfl⟩
  rotate_left
  · dsimp only
    rw [if_neg]
    rintro ⟨h1, h2⟩
    have := hF.le k hk
    omega
  rintro nn σ2 lv2 ⟨i, hn, hfi, J, hT, rfl, rfl⟩ ih
  have hmJ : J 226 24 = nI m := by rw [hT.1 226 24 (Or.inl (by decide))]; exact hm
  refine aw_iload dX7_giveTable_3 rfl ?_
  refine aw_aload_n dX7_giveTable_5 rfl ?_
  refine gf7_count dX7_giveTable_6 kf7_22 k_24 ?_
  refine aw_eq hmJ ?_
  refine aw_icmp_geN dX7_giveTable_9 rfl rfl (by omega) (by omega) (fun h_9 => ?_) (fun h_9 => ?_)
  · skip
    exact aw_ret dX7_giveTable_39 (by
        have e : i = m := by omega
        subst e
        refine ⟨J, rfl, hT.cong (fun k hk => ?_)⟩
        simp only [hk, true_and])
  · skip
    refine aw_aload_n dX7_giveTable_12 rfl ?_
    refine aw_iload dX7_giveTable_13 rfl ?_
    have hri := hπ.1 i (by omega)
    have hli := hF.le i (by omega)
    refine cqi1 dX7_giveTable_15 km7_83 ok_X1_firstOf rfl rfl (by decide) k_22 (Nat.le_of_ble_eq_true rfl) ⟨Nat.le_of_ble_eq_true rfl, Nat.le_of_ble_eq_true rfl⟩ rfl rfl (ct_Groups_firstOf (lab := lab) (k := i) k_22 (n := m) hF (by omega) (by omega)) ?_
    refine aw_iload_n dX7_giveTable_18 rfl ?_
    refine aw_icmp_neN dX7_giveTable_19 rfl rfl (by omega) (by omega) (fun h_19 => ?_) (fun h_19 => ?_)
    · skip
      refine aw_inc (nI (i + 1)) dX7_giveTable_33 rfl (Nat.le_of_ble_eq_true rfl) (nI_1 i) ?_
      refine aw_goto dX7_giveTable_36 ?_
      first
        | exact ih (nn - 1) _ _ (by omega) ⟨i + 1, by omega, by omega, _, (hT.put hm24 hπ (show i < m by omega) (nI t)).cong (fun k hk => by
            by_cases e : k = i
            · rw [e]
              simp [h_19]
            · simp only [if_neg e]
              by_cases z : k < i ∧ lab k = f
              · rw [if_pos z, if_pos ⟨by omega, z.2⟩]
              · rw [if_neg z, if_neg (fun y => z ⟨by omega, y.2⟩)]), rfl, rfl⟩
        | exact ih (nn - 1) _ _ (by omega) ⟨i + 1, by omega, by omega, J, hT.cong (fun k hk => by
            by_cases z : k < i ∧ lab k = f
            · rw [if_pos z, if_pos ⟨by omega, z.2⟩]
            · rw [if_neg z, if_neg (fun y => by
                rcases Nat.lt_or_ge k i with q | q
                · exact z ⟨q, y.2⟩
                · rw [show k = i by omega] at y
                  exact h_19 y.2)]), rfl, rfl⟩
    · skip
      refine aw_aload_n dX7_giveTable_22 rfl ?_
      refine gf7_all dX7_giveTable_23 kf7_11 k_24 ?_
      refine aw_eqr (b := 25) rfl ?_
      refine aw_iload dX7_giveTable_26 rfl ?_
      refine aw_ald14 (i) dX7_giveTable_28 k_25 (rfl) (by omega) ?_
      refine aw_iload_n dX7_giveTable_29 rfl ?_
      refine pf6_table dX7_giveTable_30 kf7_121 (k_rule hri) ?_
      refine aw_inc (nI (i + 1)) dX7_giveTable_33 rfl (Nat.le_of_ble_eq_true rfl) (nI_1 i) ?_
      refine aw_goto dX7_giveTable_36 ?_
      first
        | exact ih (nn - 1) _ _ (by omega) ⟨i + 1, by omega, by omega, _, (hT.put hm24 hπ (show i < m by omega) (nI t)).cong (fun k hk => by
            by_cases e : k = i
            · rw [e]
              simp [h_19]
            · simp only [if_neg e]
              by_cases z : k < i ∧ lab k = f
              · rw [if_pos z, if_pos ⟨by omega, z.2⟩]
              · rw [if_neg z, if_neg (fun y => z ⟨by omega, y.2⟩)]), rfl, rfl⟩
        | exact ih (nn - 1) _ _ (by omega) ⟨i + 1, by omega, by omega, J, hT.cong (fun k hk => by
            by_cases z : k < i ∧ lab k = f
            · rw [if_pos z, if_pos ⟨by omega, z.2⟩]
            · rw [if_neg z, if_neg (fun y => by
                rcases Nat.lt_or_ge k i with q | q
                · exact z ⟨q, y.2⟩
                · rw [show k = i by omega] at y
                  exact h_19 y.2)]), rfl, rfl⟩

set_option maxHeartbeats 4000000 in
set_option maxRecDepth 100000 in
theorem ct_numberTables {g : GG} {σ : SG} {m : Nat} {R : Nat → Nat → Nat} {lab : Nat → Nat} (hR : RsN σ m R) (hb9 : ∀ k, R k 1 ≤ 99) (hF : Fo m lab (σ.2.1 23)) (hT6 : ctB (isT m lab R) m ≤ 6) (hz : ∀ k, k < m → σ.1 200 (25 + 1 + σ.2.2 k) = -6) : Cti g yX7_numberTables cX7_numberTables 5 (some .int) (rmm 2 50) [.ref (ad g 24), .ref (ad g 22)] σ (fun r σ' => r = nI (ctB (isT m lab R) m) ∧ ∃ J, σ' = (J, σ.2) ∧ TbP σ.1 J σ.2.2 m (fun k => if isT m lab R (lab k) = true then nI (ctB (isT m lab R) (lab k)) else -6)) := by
  refine ct_of (own := RX7) (lv := [some (.ref (ad g 24)), some (.ref (ad g 22)), none, none, none]) rfl (by decide) (Nat.le_of_ble_eq_true rfl) (by intro u hu; simp only [List.mem_cons, List.not_mem_nil, or_false] at hu; rcases hu with rfl | rfl <;> rfl) (lv_ok [.ref (ad g 24), .ref (ad g 22)] 3) ?_
  have hR0 := hR
  obtain ⟨hm, hm24, hπ, hQ⟩ := hR
  refine aw_ic (nI 0) dX7_numberTables_0 (by decide) ?_
  refine aw_istore_n dX7_numberTables_1 (Nat.le_of_ble_eq_true rfl) ?_
  refine aw_ic (nI 0) dX7_numberTables_2 (by decide) ?_
  refine aw_istore_n dX7_numberTables_3 (Nat.le_of_ble_eq_true rfl) ?_
  refine for_wf (fun nn σ' lv => ∃ i, nn + i = m ∧ ∃ J x, TbP σ.1 J σ.2.2 m (fun k => if isT m lab R (lab k) = true ∧ lab k < i then nI (ctB (isT m lab R) (lab k)) else -6) ∧ σ' = (J, σ.2) ∧ lv = [some (.ref (ad g 24)), some (.ref (ad g 22)), some (.int (nI (ctB (isT m lab R) i))), some (.int (nI i)), x]) ?_ m _ _ ⟨0, by omega, σ.1, _, ⟨fun _ _ _ => rfl, fun k hk => ?_⟩, rfl, rfl⟩
  rotate_left
  · dsimp only
    rw [if_neg (show ¬ (isT m lab R (lab k) = true ∧ lab k < 0) from fun z => Nat.not_lt_zero _ z.2)]
    exact hz k hk
  rintro nn σ2 lv2 ⟨i, hn, J, x, hT, rfl, rfl⟩ ih
  have hmJ : J 226 24 = nI m := by rw [hT.1 226 24 (Or.inl (by decide))]; exact hm
  have hRJ : RsN (J, σ.2) m R := hR0.tb hT
  have hcl := ctB_le (isT m lab R) i
  have hsucc : ctB (isT m lab R) (i + 1) = ctB (isT m lab R) i + (if isT m lab R i = true then 1 else 0) := rfl
  refine aw_iload_n dX7_numberTables_4 rfl ?_
  refine aw_aload_n dX7_numberTables_5 rfl ?_
  refine gf7_count dX7_numberTables_6 kf7_22 k_24 ?_
  refine aw_eq hmJ ?_
  refine aw_icmp_geN dX7_numberTables_9 rfl rfl (by omega) (by omega) (fun h_9 => ?_) (fun h_9 => ?_)
  · skip
    refine aw_iload_n dX7_numberTables_77 rfl ?_
    exact aw_ireti dX7_numberTables_78 (by
        have e : i = m := by omega
        subst e
        refine ⟨rfl, J, rfl, hT.cong (fun k hk => ?_)⟩
        have := hF.le k hk
        simp only [show lab k < i by omega, and_true])
  · skip
    refine aw_iload_n dX7_numberTables_12 rfl ?_
    refine aw_bi (nI 6) dX7_numberTables_13 (by decide) ?_
    refine aw_icmp_geN dX7_numberTables_15 rfl rfl (by omega) (by omega) (fun h_15 => ?_) (fun h_15 => ?_)
    · skip
      refine aw_ic (nI 0) dX7_numberTables_53 (by decide) ?_
      refine aw_istore dX7_numberTables_54 (Nat.le_of_ble_eq_true rfl) ?_
      refine aw_iload dX7_numberTables_56 rfl ?_
      refine aw_if_eq dX7_numberTables_58 (fun _ => ?_) (fun h => absurd (by decide) h)
      refine aw_inc (nI (i + 1)) dX7_numberTables_71 rfl (Nat.le_of_ble_eq_true rfl) (nI_1 i) ?_
      refine aw_goto dX7_numberTables_74 ?_
      first
        | exact ih (nn - 1) _ _ (by omega) ⟨i + 1, by omega, K, _, (hT.trans hK).cong (fun k hk => by
            by_cases z : lab k = i
            · rw [if_pos z, z, if_pos ⟨hyes, by omega⟩]
            · rw [if_neg z]
              have h9 := hT.2 k hk
              show J 200 _ = _
              rw [h9]
              dsimp only
              by_cases y : isT m lab R (lab k) = true ∧ lab k < i
              · rw [if_pos y, if_pos ⟨y.1, by omega⟩]
              · rw [if_neg y, if_neg (fun x => y ⟨x.1, by omega⟩)]), rfl, rfl⟩
        | (have hno : ¬ isT m lab R i = true := by
             intro hy
             have hy2 := hy
             unfold isT at hy2
             simp only [Bool.and_eq_true, decide_eq_true_eq] at hy2
             first
               | (have h7 := ctB_mono (isT m lab R) (show i + 1 ≤ m by omega)
                  rw [hsucc, if_pos hy] at h7
                  omega)
               | exact h_24 hy2.1
               | (have := ht0.mpr hy2.2.1
                  omega)
               | (have := ht1.mpr hy2.2.2
                  omega)
           have e9 : ctB (isT m lab R) (i + 1) = ctB (isT m lab R) i := by rw [hsucc, if_neg hno, Nat.add_zero]
           exact ih (nn - 1) _ _ (by omega) ⟨i + 1, by omega, J, _, hT.cong (fun k hk => by
            by_cases z : isT m lab R (lab k) = true ∧ lab k < i
            · rw [if_pos z, if_pos ⟨z.1, by omega⟩]
            · rw [if_neg z, if_neg (fun y => by
                rcases Nat.lt_or_ge (lab k) i with q | q
                · exact z ⟨y.1, q⟩
                · rw [show lab k = i by omega] at y
                  exact hno y.1)]), rfl, by rw [e9]; rfl⟩)
    · skip
      refine aw_aload_n dX7_numberTables_18 rfl ?_
      refine aw_iload_n dX7_numberTables_19 rfl ?_
      have hli := hF.le i (by omega)
      refine cqi1 dX7_numberTables_20 km7_83 ok_X1_firstOf rfl rfl (by decide) k_22 (Nat.le_of_ble_eq_true rfl) ⟨Nat.le_of_ble_eq_true rfl, Nat.le_of_ble_eq_true rfl⟩ rfl rfl (ct_Groups_firstOf (lab := lab) (k := i) k_22 (n := m) hF (by omega) (by omega)) ?_
      refine aw_iload_n dX7_numberTables_23 rfl ?_
      refine aw_icmp_neN dX7_numberTables_24 rfl rfl (by omega) (by omega) (fun h_24 => ?_) (fun h_24 => ?_)
      · skip
        refine aw_ic (nI 0) dX7_numberTables_53 (by decide) ?_
        refine aw_istore dX7_numberTables_54 (Nat.le_of_ble_eq_true rfl) ?_
        refine aw_iload dX7_numberTables_56 rfl ?_
        refine aw_if_eq dX7_numberTables_58 (fun _ => ?_) (fun h => absurd (by decide) h)
        refine aw_inc (nI (i + 1)) dX7_numberTables_71 rfl (Nat.le_of_ble_eq_true rfl) (nI_1 i) ?_
        refine aw_goto dX7_numberTables_74 ?_
        first
          | exact ih (nn - 1) _ _ (by omega) ⟨i + 1, by omega, K, _, (hT.trans hK).cong (fun k hk => by
              by_cases z : lab k = i
              · rw [if_pos z, z, if_pos ⟨hyes, by omega⟩]
              · rw [if_neg z]
                have h9 := hT.2 k hk
                show J 200 _ = _
                rw [h9]
                dsimp only
                by_cases y : isT m lab R (lab k) = true ∧ lab k < i
                · rw [if_pos y, if_pos ⟨y.1, by omega⟩]
                · rw [if_neg y, if_neg (fun x => y ⟨x.1, by omega⟩)]), rfl, rfl⟩
          | (have hno : ¬ isT m lab R i = true := by
               intro hy
               have hy2 := hy
               unfold isT at hy2
               simp only [Bool.and_eq_true, decide_eq_true_eq] at hy2
               first
                 | (have h7 := ctB_mono (isT m lab R) (show i + 1 ≤ m by omega)
                    rw [hsucc, if_pos hy] at h7
                    omega)
                 | exact h_24 hy2.1
                 | (have := ht0.mpr hy2.2.1
                    omega)
                 | (have := ht1.mpr hy2.2.2
                    omega)
             have e9 : ctB (isT m lab R) (i + 1) = ctB (isT m lab R) i := by rw [hsucc, if_neg hno, Nat.add_zero]
             exact ih (nn - 1) _ _ (by omega) ⟨i + 1, by omega, J, _, hT.cong (fun k hk => by
              by_cases z : isT m lab R (lab k) = true ∧ lab k < i
              · rw [if_pos z, if_pos ⟨z.1, by omega⟩]
              · rw [if_neg z, if_neg (fun y => by
                  rcases Nat.lt_or_ge (lab k) i with q | q
                  · exact z ⟨y.1, q⟩
                  · rw [show lab k = i by omega] at y
                    exact hno y.1)]), rfl, by rw [e9]; rfl⟩)
      · skip
        refine aw_aload_n dX7_numberTables_27 rfl ?_
        refine aw_iload_n dX7_numberTables_28 rfl ?_
        refine aw_ic (nI 0) dX7_numberTables_29 (by decide) ?_
        refine aw_aload_n dX7_numberTables_30 rfl ?_
        refine cvi3 dX7_numberTables_31 km7_107 ok_X7_countPlaces rfl rfl (by decide) k_24 (Nat.le_of_ble_eq_true rfl) ⟨Nat.le_of_ble_eq_true rfl, Nat.le_of_ble_eq_true rfl⟩ rfl rfl (ct_countPlaces (f := i) (w := 0) hRJ hb9 hF (by omega) (by decide)) ?_
        intro r_31 σ3 hp_31
        obtain ⟨n0, rfl, hn0, ht0, he⟩ := hp_31
        have he := he.symm
        subst he
        refine aw_ic (nI 1) dX7_numberTables_34 (by decide) ?_
        refine aw_icmp_leN dX7_numberTables_35 rfl rfl (by omega) (by omega) (fun h_35 => ?_) (fun h_35 => ?_)
        · skip
          refine aw_ic (nI 0) dX7_numberTables_53 (by decide) ?_
          refine aw_istore dX7_numberTables_54 (Nat.le_of_ble_eq_true rfl) ?_
          refine aw_iload dX7_numberTables_56 rfl ?_
          refine aw_if_eq dX7_numberTables_58 (fun _ => ?_) (fun h => absurd (by decide) h)
          refine aw_inc (nI (i + 1)) dX7_numberTables_71 rfl (Nat.le_of_ble_eq_true rfl) (nI_1 i) ?_
          refine aw_goto dX7_numberTables_74 ?_
          first
            | exact ih (nn - 1) _ _ (by omega) ⟨i + 1, by omega, K, _, (hT.trans hK).cong (fun k hk => by
                by_cases z : lab k = i
                · rw [if_pos z, z, if_pos ⟨hyes, by omega⟩]
                · rw [if_neg z]
                  have h9 := hT.2 k hk
                  show J 200 _ = _
                  rw [h9]
                  dsimp only
                  by_cases y : isT m lab R (lab k) = true ∧ lab k < i
                  · rw [if_pos y, if_pos ⟨y.1, by omega⟩]
                  · rw [if_neg y, if_neg (fun x => y ⟨x.1, by omega⟩)]), rfl, rfl⟩
            | (have hno : ¬ isT m lab R i = true := by
                 intro hy
                 have hy2 := hy
                 unfold isT at hy2
                 simp only [Bool.and_eq_true, decide_eq_true_eq] at hy2
                 first
                   | (have h7 := ctB_mono (isT m lab R) (show i + 1 ≤ m by omega)
                      rw [hsucc, if_pos hy] at h7
                      omega)
                   | exact h_24 hy2.1
                   | (have := ht0.mpr hy2.2.1
                      omega)
                   | (have := ht1.mpr hy2.2.2
                      omega)
               have e9 : ctB (isT m lab R) (i + 1) = ctB (isT m lab R) i := by rw [hsucc, if_neg hno, Nat.add_zero]
               exact ih (nn - 1) _ _ (by omega) ⟨i + 1, by omega, J, _, hT.cong (fun k hk => by
                by_cases z : isT m lab R (lab k) = true ∧ lab k < i
                · rw [if_pos z, if_pos ⟨z.1, by omega⟩]
                · rw [if_neg z, if_neg (fun y => by
                    rcases Nat.lt_or_ge (lab k) i with q | q
                    · exact z ⟨y.1, q⟩
                    · rw [show lab k = i by omega] at y
                      exact hno y.1)]), rfl, by rw [e9]; rfl⟩)
        · skip
          refine aw_aload_n dX7_numberTables_38 rfl ?_
          refine aw_iload_n dX7_numberTables_39 rfl ?_
          refine aw_ic (nI 1) dX7_numberTables_40 (by decide) ?_
          refine aw_aload_n dX7_numberTables_41 rfl ?_
          refine cvi3 dX7_numberTables_42 km7_107 ok_X7_countPlaces rfl rfl (by decide) k_24 (Nat.le_of_ble_eq_true rfl) ⟨Nat.le_of_ble_eq_true rfl, Nat.le_of_ble_eq_true rfl⟩ rfl rfl (ct_countPlaces (f := i) (w := 1) hRJ hb9 hF (by omega) (by decide)) ?_
          intro r_42 σ3 hp_42
          obtain ⟨n1, rfl, hn1, ht1, he⟩ := hp_42
          have he := he.symm
          subst he
          refine aw_ic (nI 1) dX7_numberTables_45 (by decide) ?_
          refine aw_icmp_leN dX7_numberTables_46 rfl rfl (by omega) (by omega) (fun h_46 => ?_) (fun h_46 => ?_)
          · skip
            refine aw_ic (nI 0) dX7_numberTables_53 (by decide) ?_
            refine aw_istore dX7_numberTables_54 (Nat.le_of_ble_eq_true rfl) ?_
            refine aw_iload dX7_numberTables_56 rfl ?_
            refine aw_if_eq dX7_numberTables_58 (fun _ => ?_) (fun h => absurd (by decide) h)
            refine aw_inc (nI (i + 1)) dX7_numberTables_71 rfl (Nat.le_of_ble_eq_true rfl) (nI_1 i) ?_
            refine aw_goto dX7_numberTables_74 ?_
            first
              | exact ih (nn - 1) _ _ (by omega) ⟨i + 1, by omega, K, _, (hT.trans hK).cong (fun k hk => by
                  by_cases z : lab k = i
                  · rw [if_pos z, z, if_pos ⟨hyes, by omega⟩]
                  · rw [if_neg z]
                    have h9 := hT.2 k hk
                    show J 200 _ = _
                    rw [h9]
                    dsimp only
                    by_cases y : isT m lab R (lab k) = true ∧ lab k < i
                    · rw [if_pos y, if_pos ⟨y.1, by omega⟩]
                    · rw [if_neg y, if_neg (fun x => y ⟨x.1, by omega⟩)]), rfl, rfl⟩
              | (have hno : ¬ isT m lab R i = true := by
                   intro hy
                   have hy2 := hy
                   unfold isT at hy2
                   simp only [Bool.and_eq_true, decide_eq_true_eq] at hy2
                   first
                     | (have h7 := ctB_mono (isT m lab R) (show i + 1 ≤ m by omega)
                        rw [hsucc, if_pos hy] at h7
                        omega)
                     | exact h_24 hy2.1
                     | (have := ht0.mpr hy2.2.1
                        omega)
                     | (have := ht1.mpr hy2.2.2
                        omega)
                 have e9 : ctB (isT m lab R) (i + 1) = ctB (isT m lab R) i := by rw [hsucc, if_neg hno, Nat.add_zero]
                 exact ih (nn - 1) _ _ (by omega) ⟨i + 1, by omega, J, _, hT.cong (fun k hk => by
                  by_cases z : isT m lab R (lab k) = true ∧ lab k < i
                  · rw [if_pos z, if_pos ⟨z.1, by omega⟩]
                  · rw [if_neg z, if_neg (fun y => by
                      rcases Nat.lt_or_ge (lab k) i with q | q
                      · exact z ⟨y.1, q⟩
                      · rw [show lab k = i by omega] at y
                        exact hno y.1)]), rfl, by rw [e9]; rfl⟩)
          · skip
            refine aw_ic (nI 1) dX7_numberTables_49 (by decide) ?_
            refine aw_goto dX7_numberTables_50 ?_
            refine aw_istore dX7_numberTables_54 (Nat.le_of_ble_eq_true rfl) ?_
            refine aw_iload dX7_numberTables_56 rfl ?_
            refine aw_if_eq dX7_numberTables_58 (fun h => absurd h (by decide)) (fun _ => ?_)
            refine aw_aload_n dX7_numberTables_61 rfl ?_
            refine aw_iload_n dX7_numberTables_62 rfl ?_
            refine aw_iload_n dX7_numberTables_63 rfl ?_
            refine aw_aload_n dX7_numberTables_64 rfl ?_
            have hyes : isT m lab R i = true := by
              unfold isT
              simp only [Bool.and_eq_true, decide_eq_true_eq]
              exact ⟨h_24, ht0.mp h_35, ht1.mp h_46⟩
            refine cvv3 dX7_numberTables_65 km7_111 ok_X7_giveTable rfl rfl (by decide) k_24 (Nat.le_of_ble_eq_true rfl) ⟨Nat.le_of_ble_eq_true rfl, Nat.le_of_ble_eq_true rfl⟩ rfl rfl (ct_giveTable (f := i) (t := ctB (isT m lab R) i) hRJ hF (by omega)) ?_
            intro σ4 hp_65
            obtain ⟨K, rfl, hK⟩ := hp_65
            refine aw_inc (nI (ctB (isT m lab R) (i + 1))) dX7_numberTables_68 rfl (Nat.le_of_ble_eq_true rfl) (by rw [hsucc, if_pos hyes]; exact nI_1 _) ?_
            refine aw_inc (nI (i + 1)) dX7_numberTables_71 rfl (Nat.le_of_ble_eq_true rfl) (nI_1 i) ?_
            refine aw_goto dX7_numberTables_74 ?_
            first
              | exact ih (nn - 1) _ _ (by omega) ⟨i + 1, by omega, K, _, (hT.trans hK).cong (fun k hk => by
                  by_cases z : lab k = i
                  · rw [if_pos z, z, if_pos ⟨hyes, by omega⟩]
                  · rw [if_neg z]
                    have h9 := hT.2 k hk
                    show J 200 _ = _
                    rw [h9]
                    dsimp only
                    by_cases y : isT m lab R (lab k) = true ∧ lab k < i
                    · rw [if_pos y, if_pos ⟨y.1, by omega⟩]
                    · rw [if_neg y, if_neg (fun x => y ⟨x.1, by omega⟩)]), rfl, rfl⟩
              | (have hno : ¬ isT m lab R i = true := by
                   intro hy
                   have hy2 := hy
                   unfold isT at hy2
                   simp only [Bool.and_eq_true, decide_eq_true_eq] at hy2
                   first
                     | (have h7 := ctB_mono (isT m lab R) (show i + 1 ≤ m by omega)
                        rw [hsucc, if_pos hy] at h7
                        omega)
                     | exact h_24 hy2.1
                     | (have := ht0.mpr hy2.2.1
                        omega)
                     | (have := ht1.mpr hy2.2.2
                        omega)
                 have e9 : ctB (isT m lab R) (i + 1) = ctB (isT m lab R) i := by rw [hsucc, if_neg hno, Nat.add_zero]
                 exact ih (nn - 1) _ _ (by omega) ⟨i + 1, by omega, J, _, hT.cong (fun k hk => by
                  by_cases z : isT m lab R (lab k) = true ∧ lab k < i
                  · rw [if_pos z, if_pos ⟨z.1, by omega⟩]
                  · rw [if_neg z, if_neg (fun y => by
                      rcases Nat.lt_or_ge (lab k) i with q | q
                      · exact z ⟨y.1, q⟩
                      · rw [show lab k = i by omega] at y
                        exact hno y.1)]), rfl, by rw [e9]; rfl⟩)

