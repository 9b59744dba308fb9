/-- all that is found, of the tables below i and the words below x -/
def FnG (σ : SG) (P : Pg) (i x : Nat) : Prop := (σ.1 328 176 = nI (pM P) ∧ (∀ r k, r < pM P → k < 6 → σ.2.1 181 (7 * r + k) = nI (pR P r k)) ∧ (∀ r, r < pM P → σ.2.1 181 (7 * r + 6) = tabN P r) ∧ (∀ p, p < P.1 → σ.2.1 182 p = nI (posR (pR P) (pM P) (pL P p)))) ∧ (σ.1 330 176 = nI (pT P) ∧ (∀ t w, t < pT P → w < 2 → σ.2.1 184 (2 * t + w) = nI (pN P t w) ∧ ∀ l, l < pN P t w → σ.2.1 183 (44 * t + 22 * w + l) = nI (pPl P t w l))) ∧ (∀ t, t ≤ i → σ.2.1 185 t = nI (pFF P t) ∧ σ.2.1 186 t = nI (pCF P t)) ∧ (∀ t f, t < i → f < pNr P t * pNc P t → σ.2.1 187 (pFF P t + f) = nI (pCF P t + pFc P t f)) ∧ (∀ t q j, t < i → q < pCc P t → j < 6 → σ.2.1 188 (6 * (pCF P t + q) + j) = nI (pCw P t q j)) ∧ ∀ y, y < x → σ.2.1 189 y = (if pWT P y < pT P then nI (pWT P y) else -6) ∧ σ.2.1 190 y = (if pWT P y < pT P then nI (pCF P (pWT P y) + pWC P y) else -6)
theorem FnG.mk {J B : Nat → Nat → Int32} {π : Nat → Nat} {P : Pg} {i x : Nat} (h1 : J 328 176 = nI (pM P)) (h2 : ∀ r k, r < pM P → k < 6 → B 181 (7 * r + k) = nI (pR P r k)) (h3 : ∀ r, r < pM P → B 181 (7 * r + 6) = tabN P r) (h4 : ∀ p, p < P.1 → B 182 p = nI (posR (pR P) (pM P) (pL P p))) (h5 : J 330 176 = nI (pT P)) (h6 : ∀ t w, t < pT P → w < 2 → B 184 (2 * t + w) = nI (pN P t w) ∧ ∀ l, l < pN P t w → B 183 (44 * t + 22 * w + l) = nI (pPl P t w l)) (h7 : ∀ t, t ≤ i → B 185 t = nI (pFF P t) ∧ B 186 t = nI (pCF P t)) (h8 : ∀ t f, t < i → f < pNr P t * pNc P t → B 187 (pFF P t + f) = nI (pCF P t + pFc P t f)) (h9 : ∀ t q j, t < i → q < pCc P t → j < 6 → B 188 (6 * (pCF P t + q) + j) = nI (pCw P t q j)) (h10 : ∀ y, y < x → B 189 y = (if pWT P y < pT P then nI (pWT P y) else -6) ∧ B 190 y = (if pWT P y < pT P then nI (pCF P (pWT P y) + pWC P y) else -6)) : FnG (J, B, π) P i x := ⟨⟨h1, h2, h3, h4⟩, ⟨h5, h6⟩, h7, h8, h9, h10⟩
theorem FnG.un {J B : Nat → Nat → Int32} {π : Nat → Nat} {P : Pg} {i x : Nat} (h : FnG (J, B, π) P i x) : (J 328 176 = nI (pM P)) ∧ (∀ r k, r < pM P → k < 6 → B 181 (7 * r + k) = nI (pR P r k)) ∧ (∀ r, r < pM P → B 181 (7 * r + 6) = tabN P r) ∧ (∀ p, p < P.1 → B 182 p = nI (posR (pR P) (pM P) (pL P p))) ∧ (J 330 176 = nI (pT P)) ∧ (∀ t w, t < pT P → w < 2 → B 184 (2 * t + w) = nI (pN P t w) ∧ ∀ l, l < pN P t w → B 183 (44 * t + 22 * w + l) = nI (pPl P t w l)) ∧ (∀ t, t ≤ i → B 185 t = nI (pFF P t) ∧ B 186 t = nI (pCF P t)) ∧ (∀ t f, t < i → f < pNr P t * pNc P t → B 187 (pFF P t + f) = nI (pCF P t + pFc P t f)) ∧ (∀ t q j, t < i → q < pCc P t → j < 6 → B 188 (6 * (pCF P t + q) + j) = nI (pCw P t q j)) ∧ (∀ y, y < x → B 189 y = (if pWT P y < pT P then nI (pWT P y) else -6) ∧ B 190 y = (if pWT P y < pT P then nI (pCF P (pWT P y) + pWC P y) else -6)) := ⟨h.1.1, h.1.2.1, h.1.2.2.1, h.1.2.2.2, h.2.1.1, h.2.1.2, h.2.2.1, h.2.2.2.1, h.2.2.2.2.1, h.2.2.2.2.2⟩
theorem FnS.g {σ : SG} {P : Pg} : FnS σ P ↔ FnG σ P (pT P) P.2.2.1 := by
  unfold FnS FnG
  constructor
  · rintro ⟨a, b, c, d, e, f, r⟩
    exact ⟨⟨a, b, c, d⟩, ⟨e, f⟩, r⟩
  · rintro ⟨⟨a, b, c, d⟩, ⟨e, f⟩, r⟩
    exact ⟨a, b, c, d, e, f, r⟩
theorem pR_B {P : Pg} (hV : PgV P) (r k : Nat) (hk : k < 6) : pR P r k ≤ 99 := by
  have := Rsp_B (pc := P.2.1) (lab := pL P) (c := P.1) hV.1 (fun p w _ _ => hV.2.2.2.2.2.2.1 p w) r
  obtain ⟨a, b, c, d, e, f, g⟩ := this
  rcases (by omega : k = 0 ∨ k = 1 ∨ k = 2 ∨ k = 3 ∨ k = 4 ∨ k = 5) with rfl | rfl | rfl | rfl | rfl | rfl
  · exact a
  · exact b
  · exact c
  · exact d
  · exact e
  · exact f
theorem FnG.tbf {σ : SG} {P : Pg} {i x t : Nat} (G : FnG σ P i x) (hK : FOKs) (hV : PgV P) (hs : σ.2.1 179 2 = nI (rcP P)) (ht : t < pT P) : TbF σ t (pM P) (rcP P) (pNr P t) (pNc P t) (pIn P t) (pR P) := by
  obtain ⟨n0, n1, a1, a2, a3, a4, -⟩ := pB hK hV ht
  have hT := pT_le hK hV
  have hM := pM_le hV
  refine ⟨⟨G.1.1, G.1.2.1, fun r k _ hk => pR_B hV r k hk, hM, fun r hr => ?_⟩, ⟨hs, hV.2.2.2.2.2.1, by omega⟩, ⟨n0, n1⟩, ⟨⟨a1, a3⟩, a2, a4⟩, fun w l => lnS_b (hK P hV).2.1 _ _ _, fun w l hw hl => (G.2.1.2 t w ht hw).2 l hl, ?_, ?_⟩
  · rw [G.1.2.2.1 r hr]
    exact tab_in hM (by omega) hr
  · rw [(G.2.1.2 t 0 ht (by decide)).1, n0]
  · rw [(G.2.1.2 t 1 ht (by decide)).1, n1]
def FaF (σ : SG) (J B : Nat → Nat → Int32) : Prop := (∀ f q, q ≠ 176 → J f q = σ.1 f q) ∧ (∀ f, f ≠ 325 → f ≠ 328 → f ≠ 330 → J f 176 = σ.1 f 176) ∧ J 325 176 = 1 ∧ ∀ q, (q < 180 ∨ 190 < q) → B q = σ.2.1 q
theorem findAll_end {σ : SG} {S : Sp} {J B : Nat → Nat → Int32} (hI : InvM σ S) (hA : FaF σ J B) (hF : FnS (J, B, σ.2.2) S.1) : InvM (J, B, σ.2.2) S ∧ FnS (J, B, σ.2.2) S.1 ∧ FrM σ (J, B, σ.2.2) := by
  obtain ⟨⟨hc, hp, hcw, hw9, hs0, hs1, hs2⟩, hV, hIm, hFn⟩ := id hI
  have a : ∀ q, (q < 180 ∨ 190 < q) → B q = σ.2.1 q := hA.2.2.2
  refine ⟨⟨PgS.mk9 ((hA.2.1 321 (by decide) (by decide) (by decide)).trans hc) (fun p w h1 h2 => (congrFun (a 177 (by decide)) _).trans (hp p w h1 h2)) ((hA.2.1 323 (by decide) (by decide) (by decide)).trans hcw) (fun p w h1 h2 => (congrFun (a 178 (by decide)) _).trans (hw9 p w h1 h2)) ((congrFun (a 179 (by decide)) _).trans hs0) ((congrFun (a 179 (by decide)) _).trans hs1) ((congrFun (a 179 (by decide)) _).trans hs2), hV, fun k hk => (hIm k hk).keep (a 193 (by decide)) (a 192 (by decide)), Or.inr ⟨hA.2.2.1, hF⟩⟩, hF, rfl, fun f q h => hA.1 f q (by omega), fun q h => a q (by omega)⟩
set_option maxHeartbeats 4000000 in
set_option maxRecDepth 100000 in
theorem ct_findAll {g : GG} {σ : SG} {S : Sp} (hK : FOKs) (hI : InvM σ S) : Ctv g yX10_findAll cX10_findAll 2 (rmm 5 128) [.ref (ad g 176)] σ (fun σ' => InvM σ' S ∧ FnS σ' S.1 ∧ FrM σ σ') := by
  refine ct_of (own := RX10) (lv := [some (.ref (ad g 176)), none]) rfl (by decide) (Nat.le_of_ble_eq_true rfl) (by intro u hu; simp only [List.mem_cons, List.not_mem_nil, or_false] at hu; rcases hu with rfl <;> rfl) (lv_ok [.ref (ad g 176)] 1) ?_
  obtain ⟨⟨hc, hp, hcw, hw9, hs0, hs1, hs2⟩, hV, hIm, hFn⟩ := id hI
  have hl185 := l_185
  have hl186 := l_186
  have hT6 := pT_le hK hV
  have hw20 := hV.2.2.1
  rcases hFn with h | ⟨h, hF⟩
  · skip
    refine aw_aload_n dX10_findAll_0 rfl ?_
    refine gf10_isFound dX10_findAll_1 kf10_74 k_176 ?_
    refine aw_eq h ?_
    refine aw_if_eq dX10_findAll_4 (fun h_4 => ?_) (fun h_4 => absurd h_4 (fun z => z rfl))
    refine aw_aload_n dX10_findAll_8 rfl ?_
    refine aw_ic (nI 1) dX10_findAll_9 (by decide) ?_
    refine pf10_isFound dX10_findAll_10 kf10_74 k_176 (by decide) ?_
    refine aw_aload_n dX10_findAll_13 rfl ?_
    refine cvv0 dX10_findAll_14 km10_183 ok_X10_findRules rfl rfl (by decide) k_176 (Nat.le_of_ble_eq_true rfl) ⟨Nat.le_of_ble_eq_true rfl, Nat.le_of_ble_eq_true rfl⟩ rfl rfl (ct_findRules (c := S.1.1) (sl := S.1.2.2.2.2.1) (gp := S.1.2.2.2.2.2.1) (pc := S.1.2.1) (tF (by decide) hc) hV.1 hp hV.2.2.2.2.2.2.1 (fun p hp => (hV.2.1 p hp).2) ⟨hs0, hs1⟩ hV.2.2.2.1 hV.2.2.2.2.1) ?_
    intro σ1 hp_14
    obtain ⟨L, h9, ro, rfl, -, hR, h6, hro⟩ := hp_14
    have hR : ∀ r k, r < pM S.1 → k < 6 → h9 (7 * r + k) = nI (pR S.1 r k) := hR
    have h6 : ∀ r, r < pM S.1 → h9 (7 * r + 6) = -6 := h6
    have hro : ∀ p, p < S.1.1 → ro p = nI (posR (pR S.1) (pM S.1) (pL S.1 p)) := hro
    refine aw_sg (show _ = (uI (uI σ.1 325 176 (nI 1)) 328 176 (nI (pM S.1)), uA (uA (uA σ.2.1 180 L) 181 h9) 182 ro, σ.2.2) from rfl) ?_
    refine aw_aload_n dX10_findAll_17 rfl ?_
    refine cvv0 dX10_findAll_18 km10_186 ok_X10_findTables rfl rfl (by decide) k_176 (Nat.le_of_ble_eq_true rfl) ⟨Nat.le_of_ble_eq_true rfl, Nat.le_of_ble_eq_true rfl⟩ rfl rfl (ct_findTables (m := pM S.1) (rc := rcP S.1) (R := pR S.1) tG (fun r k h1 h2 => tA (by decide) (sB (hR r k h1 h2))) (fun r k _ hk => pR_B hV r k hk) (pM_le hV) (fun r hr => tA (by decide) (sB (h6 r hr))) (tA (by decide) (nB (by decide) (nB (by decide) hs2))) hV.2.2.2.2.2.1 (hK S.1 hV)) ?_
    intro σ1 hp_18
    obtain ⟨L2, h8, h3, h4, rfl, g1, g2, g3⟩ := hp_18
    refine aw_sg (show _ = (uI (uI (uI σ.1 325 176 (nI 1)) 328 176 (nI (pM S.1))) 330 176 (nI (pT S.1)), uA (uA (uA (uA (uA (uA (uA σ.2.1 180 L) 181 h9) 182 ro) 180 L2) 181 h8) 183 h3) 184 h4, σ.2.2) from rfl) ?_
    have g2 : ∀ r, r < pM S.1 → h8 (7 * r + 6) = tabN S.1 r := g2
    have g3 : ∀ t w, t < pT S.1 → w < 2 → h4 (2 * t + w) = nI (pN S.1 t w) ∧ ∀ l, l < pN S.1 t w → h3 (44 * t + 22 * w + l) = nI (pPl S.1 t w l) := g3
    refine aw_aload_n dX10_findAll_21 rfl ?_
    refine gf10_fieldFrom dX10_findAll_22 kf10_34 k_176 ?_
    refine aw_eqr (b := 185) rfl ?_
    refine aw_ic (nI 0) dX10_findAll_25 (by decide) ?_
    refine aw_ic (nI 0) dX10_findAll_26 (by decide) ?_
    refine aw_sto (0) dX10_findAll_27 k_185 (rfl) (by omega) ?_
    refine aw_aload_n dX10_findAll_28 rfl ?_
    refine gf10_cellFrom dX10_findAll_29 kf10_37 k_176 ?_
    refine aw_eqr (b := 186) rfl ?_
    refine aw_ic (nI 0) dX10_findAll_32 (by decide) ?_
    refine aw_ic (nI 0) dX10_findAll_33 (by decide) ?_
    refine aw_sto (0) dX10_findAll_34 k_186 (rfl) (by omega) ?_
    refine aw_ic (nI 0) dX10_findAll_35 (by decide) ?_
    refine aw_istore_n dX10_findAll_36 (Nat.le_of_ble_eq_true rfl) ?_
    refine for_ux (fun i σ' lv' => ∃ J B, σ' = (J, B, σ.2.2) ∧ FaF σ J B ∧ FnG (J, B, σ.2.2) S.1 i 0 ∧ lv' = [some (.ref (ad g 176)), some (.int (nI i))]) (pT S.1) ?_ ?_ (0) _ _ (by omega) (⟨_, _, rfl, ⟨fun f q h => (uI_k h).trans ((uI_k h).trans (uI_k h)), fun f a b c => (uI_f c).trans ((uI_f b).trans (uI_f a)), (uI_f (f' := 325) (f := 330) (by decide)).trans ((uI_f (f' := 325) (f := 328) (by decide)).trans (uI_s _ _ _ _)), fun q hq => by
      rw [uA_n (by omega), uA_n (by omega), uA_n (by omega), uA_n (by omega), uA_n (by omega), uA_n (by omega), uA_n (by omega), uA_n (by omega), uA_n (by omega)]⟩, FnG.mk ((uI_f (f' := 328) (f := 330) (by decide)).trans (uI_s _ _ _ _)) (fun r k h1 h2 => (nB (by decide) (nB (by decide) (nB (by decide) (nB (by decide) (sB (g1 r k h1 h2))))))) (fun r hr => (nB (by decide) (nB (by decide) (nB (by decide) (nB (by decide) (sB (g2 r hr))))))) (fun p hp => (nB (by decide) (nB (by decide) (nB (by decide) (nB (by decide) (nB (by decide) (nB (by decide) (sB (hro p hp))))))))) (uI_s _ _ _ _) (fun t w h1 h2 => ⟨(nB (by decide) (nB (by decide) (sB (g3 t w h1 h2).1))), fun l hl => (nB (by decide) (nB (by decide) (nB (by decide) (sB ((g3 t w h1 h2).2 l hl)))))⟩) (fun t ht => by
      rw [show t = 0 by omega]
      exact ⟨nB (by decide) (sB pk_us), sB pk_us⟩) (fun t f h => absurd h (Nat.not_lt_zero t)) (fun t q j h => absurd h (Nat.not_lt_zero t)) (fun y h => absurd h (Nat.not_lt_zero y)), rfl⟩)
    · rintro i σ2 lv2 hi ⟨J, B, rfl, hA, G, rfl⟩ ih
      obtain ⟨q1, q2, q3, q4, q5, q6, q7, q8, q9, q10⟩ := G.un
      refine aw_iload_n dX10_findAll_37 rfl ?_
      refine aw_aload_n dX10_findAll_38 rfl ?_
      refine gf10_tableMany dX10_findAll_39 kf10_138 k_176 ?_
      refine aw_eq q5 ?_
      refine aw_icmp_geN dX10_findAll_42 rfl rfl (by omega) (by omega) (fun h_42 => absurd h_42 (by omega)) (fun h_42 => ?_)
      refine aw_aload_n dX10_findAll_45 rfl ?_
      refine aw_iload_n dX10_findAll_46 rfl ?_
      refine cvv1 dX10_findAll_47 km10_189 ok_X10_findCells rfl rfl (by decide) k_176 (Nat.le_of_ble_eq_true rfl) ⟨Nat.le_of_ble_eq_true rfl, Nat.le_of_ble_eq_true rfl⟩ rfl rfl (ct_findCells (n := pNr S.1 i * pNc S.1 i) (FF := pFF S.1 i) (CF := pCF S.1 i) (G.tbf hK hV (show B 179 2 = _ from (congrFun (hA.2.2.2 179 (by decide)) 2).trans hs2) hi) rfl (q7 i (Nat.le_refl _)).1 (q7 i (Nat.le_refl _)).2 (show pFF S.1 (i + 1) ≤ 121 from pFF_le hK hV hi) (show pCF S.1 (i + 1) ≤ 121 from Nat.le_trans (pCF_le _ _) (pFF_le hK hV hi))) ?_
      intro σ1 hp_47
      obtain ⟨L, ho, hc9, rfl, o1, o2, c1, c2⟩ := hp_47
      dsimp only
      refine aw_inc (nI (i + 1)) dX10_findAll_50 rfl (Nat.le_of_ble_eq_true rfl) (nI_1 i) ?_
      refine aw_goto dX10_findAll_53 ?_
      refine ih _ _ ⟨J, _, rfl, ⟨hA.1, hA.2.1, hA.2.2.1, fun q hq => by
        rw [uA_n (by omega), uA_n (by omega), uA_n (by omega), uA_n (by omega), uA_n (by omega)]
        exact hA.2.2.2 q hq⟩, FnG.mk q1 (fun r k h1 h2 => (nB (by decide) (nB (by decide) (nB (by decide) (nB (by decide) (nB (by decide) (q2 r k h1 h2))))))) (fun r hr => (nB (by decide) (nB (by decide) (nB (by decide) (nB (by decide) (nB (by decide) (q3 r hr))))))) (fun p hp => (nB (by decide) (nB (by decide) (nB (by decide) (nB (by decide) (nB (by decide) (q4 p hp))))))) q5 (fun t w h1 h2 => ⟨(nB (by decide) (nB (by decide) (nB (by decide) (nB (by decide) (nB (by decide) (q6 t w h1 h2).1))))), fun l hl => (nB (by decide) (nB (by decide) (nB (by decide) (nB (by decide) (nB (by decide) ((q6 t w h1 h2).2 l hl))))))⟩) (fun t ht => ?_) (fun t f h1 h2 => ?_) (fun t q j h1 h2 h3 => ?_) (fun y h => absurd h (Nat.not_lt_zero y)), rfl⟩
      · by_cases z : t = i + 1
        · rw [z]
          exact ⟨sB pk_us, nB (by decide) (sB pk_us)⟩
        · obtain ⟨z1, z2⟩ := q7 t (by omega)
          exact ⟨sB ((pk_un z).trans z1), nB (by decide) (sB ((pk_un z).trans z2))⟩
      · by_cases z : t = i
        · subst z
          exact (nB (by decide) (nB (by decide) (nB (by decide) (sB (o1 f h2)))))
        · have := pFF_m (P := S.1) (show t < i by omega)
          exact (nB (by decide) (nB (by decide) (nB (by decide) (sB ((o2 _ (by omega)).trans (q8 t f (by omega) h2))))))
      · by_cases z : t = i
        · subst z
          obtain ⟨ρ, hρ, hr, rfl⟩ := cnt_onto h2
          obtain ⟨-, -, a1, a2, -⟩ := pB (t := t) hK hV hi
          obtain ⟨k1, k2⟩ := c1 ρ hρ hr
          obtain ⟨e1, e2⟩ := tcv_eq (rc := rcP S.1) (m := pM S.1) (R := pR S.1) (inT := pIn S.1 t) a1 a2 hρ hr
          refine (nB (by decide) (nB (by decide) (sB ?_)))
          by_cases y : j = 5
          · subst y
            exact k2.trans (congrArg nI e2.symm)
          · exact (k1 j (by omega)).trans (congrArg nI ((e1 j (by omega)).symm.trans (if_neg (show ¬ j = 6 by omega)).symm))
        · have := pCF_m (P := S.1) (show t < i by omega)
          exact (nB (by decide) (nB (by decide) (sB ((c2 _ (by omega)).trans (q9 t q j (by omega) h2 h3)))))
    · rintro σ2 lv2 ⟨J, B, rfl, hA, G, rfl⟩
      obtain ⟨q1, q2, q3, q4, q5, q6, q7, q8, q9, q10⟩ := G.un
      refine aw_iload_n dX10_findAll_37 rfl ?_
      refine aw_aload_n dX10_findAll_38 rfl ?_
      refine gf10_tableMany dX10_findAll_39 kf10_138 k_176 ?_
      refine aw_eq q5 ?_
      refine aw_icmp_geN dX10_findAll_42 rfl rfl (by omega) (by omega) (fun h_42 => ?_) (fun h_42 => absurd h_42 (by omega))
      refine aw_ic (nI 0) dX10_findAll_56 (by decide) ?_
      refine aw_istore_n dX10_findAll_57 (Nat.le_of_ble_eq_true rfl) ?_
      refine for_ux (fun i σ' lv' => ∃ J B, σ' = (J, B, σ.2.2) ∧ FaF σ J B ∧ FnG (J, B, σ.2.2) S.1 (pT S.1) i ∧ lv' = [some (.ref (ad g 176)), some (.int (nI i))]) (S.1.2.2.1) ?_ ?_ (0) _ _ (by omega) (⟨J, B, rfl, hA, G, rfl⟩)
      · rintro i σ2 lv2 hi ⟨J, B, rfl, hA, G, rfl⟩ ih
        obtain ⟨q1, q2, q3, q4, q5, q6, q7, q8, q9, q10⟩ := G.un
        refine aw_iload_n dX10_findAll_58 rfl ?_
        refine aw_aload_n dX10_findAll_59 rfl ?_
        refine gf10_boxMany dX10_findAll_60 kf10_92 k_176 ?_
        refine aw_eq ((hA.2.1 323 (by decide) (by decide) (by decide)).trans hcw) ?_
        refine aw_icmp_geN dX10_findAll_63 rfl rfl (by omega) (by omega) (fun h_63 => absurd h_63 (by omega)) (fun h_63 => ?_)
        refine aw_aload_n dX10_findAll_66 rfl ?_
        refine aw_iload_n dX10_findAll_67 rfl ?_
        refine cvv1 dX10_findAll_68 km10_192 ok_X10_findWord rfl rfl (by decide) k_176 (Nat.le_of_ble_eq_true rfl) ⟨Nat.le_of_ble_eq_true rfl, Nat.le_of_ble_eq_true rfl⟩ rfl rfl (ct_findWord (T := pT S.1) (nw := S.1.2.2.1) (x := i) (pl := pPl S.1) (nr := pNr S.1) (nc := pNc S.1) (FF := pFF S.1) (CF := pCF S.1) (fc := pFc S.1) (wd := S.1.2.2.2.1) q5 (pT_le hK hV) (fun p k h1 h2 => (congrFun (hA.2.2.2 178 (by decide)) _).trans (hw9 p k h1 h2)) hV.2.2.2.2.2.2.2 hV.2.2.1 hi (fun t ht => ⟨(q6 t 0 ht (by decide)).1.trans (by rw [(pB hK hV ht).1]), (q6 t 1 ht (by decide)).1.trans (by rw [(pB hK hV ht).2.1])⟩) (fun t ht => ⟨(pB hK hV ht).2.2.2.2.1, (pB hK hV ht).2.2.2.2.2.1⟩) (fun t w l => lnS_b (hK S.1 hV).2.1 _ _ _) (fun t w l ht hw hl => (q6 t w ht hw).2 l (by
          rcases (by omega : w = 0 ∨ w = 1) with rfl | rfl
          · rw [(pB hK hV ht).1]; exact hl
          · rw [(pB hK hV ht).2.1]; exact hl)) (fun t ht => (q7 t (by omega)).1) (fun t ht => show pFF S.1 (t + 1) ≤ 121 from pFF_le hK hV ht) q8) ?_
        intro σ1 hp_68
        obtain ⟨a, b, rfl, u1, u2⟩ := hp_68
        dsimp only
        refine aw_inc (nI (i + 1)) dX10_findAll_71 rfl (Nat.le_of_ble_eq_true rfl) (nI_1 i) ?_
        refine aw_goto dX10_findAll_74 ?_
        refine ih _ _ ⟨J, _, rfl, ⟨hA.1, hA.2.1, hA.2.2.1, fun q hq => by
          rw [uA_n (by omega), uA_n (by omega)]
          exact hA.2.2.2 q hq⟩, FnG.mk q1 (fun r k h1 h2 => (nB (by decide) (nB (by decide) (q2 r k h1 h2)))) (fun r hr => (nB (by decide) (nB (by decide) (q3 r hr)))) (fun p hp => (nB (by decide) (nB (by decide) (q4 p hp)))) q5 (fun t w h1 h2 => ⟨(nB (by decide) (nB (by decide) (q6 t w h1 h2).1)), fun l hl => (nB (by decide) (nB (by decide) ((q6 t w h1 h2).2 l hl)))⟩) (fun t ht => ⟨(nB (by decide) (nB (by decide) (q7 t ht).1)), (nB (by decide) (nB (by decide) (q7 t ht).2))⟩) (fun t f h1 h2 => (nB (by decide) (nB (by decide) (q8 t f h1 h2)))) (fun t q j h1 h2 h3 => (nB (by decide) (nB (by decide) (q9 t q j h1 h2 h3)))) (fun y hy => ?_), rfl⟩
        by_cases z : y = i
        · subst z
          exact ⟨nB (by decide) (sB u1.1), sB u1.2⟩
        · exact ⟨nB (by decide) (sB ((u2 y z).1.trans (q10 y (by omega)).1)), sB ((u2 y z).2.trans (q10 y (by omega)).2)⟩
      · rintro σ2 lv2 ⟨J, B, rfl, hA, G, rfl⟩
        refine aw_iload_n dX10_findAll_58 rfl ?_
        refine aw_aload_n dX10_findAll_59 rfl ?_
        refine gf10_boxMany dX10_findAll_60 kf10_92 k_176 ?_
        refine aw_eq ((hA.2.1 323 (by decide) (by decide) (by decide)).trans hcw) ?_
        refine aw_icmp_geN dX10_findAll_63 rfl rfl (by omega) (by omega) (fun h_63 => ?_) (fun h_63 => absurd h_63 (by omega))
        exact aw_ret dX10_findAll_77 (findAll_end hI hA (FnS.g.mpr G))
  · skip
    refine aw_aload_n dX10_findAll_0 rfl ?_
    refine gf10_isFound dX10_findAll_1 kf10_74 k_176 ?_
    refine aw_eq h ?_
    refine aw_if_eq dX10_findAll_4 (fun h_4 => absurd h_4 (by decide)) (fun h_4 => ?_)
    exact aw_ret dX10_findAll_7 (⟨hI, hF, FrM.refl σ⟩)

