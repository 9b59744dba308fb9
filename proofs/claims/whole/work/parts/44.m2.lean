/-! the reference's state -/
def PgS (σ : SG) (P : Pg) : Prop := σ.1 321 176 = nI P.1 ∧ (∀ p w, p < P.1 → w < 4 → σ.2.1 177 (4 * p + w) = nI (P.2.1 p w)) ∧ σ.1 323 176 = nI P.2.2.1 ∧ (∀ p w, p < P.2.2.1 → w < 4 → σ.2.1 178 (4 * p + w) = nI (P.2.2.2.1 p w)) ∧ σ.2.1 179 0 = nI P.2.2.2.2.1 ∧ σ.2.1 179 1 = nI P.2.2.2.2.2.1 ∧ σ.2.1 179 2 = nI (rcP P)
def ImS (σ : SG) (k : Nat) : Option Pg → Prop
  | none => σ.2.1 193 k = 0
  | some P => σ.2.1 193 k = 1 ∧ PgV P ∧ σ.2.1 192 (181 * k) = nI P.1 ∧ σ.2.1 192 (181 * k + 1) = nI P.2.2.1 ∧ (σ.2.1 192 (181 * k + 2) = nI P.2.2.2.2.1 ∧ σ.2.1 192 (181 * k + 3) = nI P.2.2.2.2.2.1 ∧ σ.2.1 192 (181 * k + 4) = nI (rcP P)) ∧ (∀ p w, p < P.1 → w < 4 → σ.2.1 192 (181 * k + 5 + (4 * p + w)) = nI (P.2.1 p w)) ∧ ∀ p w, p < P.2.2.1 → w < 4 → σ.2.1 192 (181 * k + 101 + (4 * p + w)) = nI (P.2.2.2.1 p w)
noncomputable def pFF (P : Pg) : Nat → Nat
  | 0 => 0
  | t + 1 => pFF P t + pNr P t * pNc P t
noncomputable def pCF (P : Pg) : Nat → Nat
  | 0 => 0
  | t + 1 => pCF P t + pCc P t
def FnS (σ : SG) (P : Pg) : Prop := σ.1 328 176 = nI (pM P) ∧ (∀ r k, r < pM P → k < 6 → σ.2.1 181 (7 * r + k) = nI (pR P r k)) ∧ (∀ r, r < pM P → σ.2.1 181 (7 * r + 6) = tabN P r) ∧ (∀ p, p < P.1 → σ.2.1 182 p = nI (posR (pR P) (pM P) (pL P p))) ∧ σ.1 330 176 = nI (pT P) ∧ (∀ t w, t < pT P → w < 2 → σ.2.1 184 (2 * t + w) = nI (pN P t w) ∧ ∀ l, l < pN P t w → σ.2.1 183 (44 * t + 22 * w + l) = nI (pPl P t w l)) ∧ (∀ t, t ≤ pT P → σ.2.1 185 t = nI (pFF P t) ∧ σ.2.1 186 t = nI (pCF P t)) ∧ (∀ t f, t < pT P → f < pNr P t * pNc P t → σ.2.1 187 (pFF P t + f) = nI (pCF P t + pFc P t f)) ∧ (∀ t q j, t < pT P → q < pCc P t → j < 6 → σ.2.1 188 (6 * (pCF P t + q) + j) = nI (pCw P t q j)) ∧ ∀ x, x < P.2.2.1 → σ.2.1 189 x = (if pWT P x < pT P then nI (pWT P x) else -6) ∧ σ.2.1 190 x = (if pWT P x < pT P then nI (pCF P (pWT P x) + pWC P x) else -6)
def InvM (σ : SG) (S : Sp) : Prop := PgS σ S.1 ∧ PgV S.1 ∧ (∀ k, k < 2 → ImS σ k (S.2 k)) ∧ (σ.1 325 176 = 0 ∨ (σ.1 325 176 = 1 ∧ FnS σ S.1))
def PoM (σ : SG) (x : Int32 × Sp) (r : Int32) (σ' : SG) : Prop := r = x.1 ∧ InvM σ' x.2 ∧ FrM σ σ'
theorem PoM.mk {σ σ' : SG} {x : Int32 × Sp} {r : Int32} {S : Sp} (e : x = (r, S)) (hI : InvM σ' S) (hF : FrM σ σ') : PoM σ x r σ' := by
  subst e
  exact ⟨rfl, hI, hF⟩
theorem ImS.keep {σ σ' : SG} {k : Nat} {o : Option Pg} (h : ImS σ k o) (h1 : σ'.2.1 193 = σ.2.1 193) (h2 : σ'.2.1 192 = σ.2.1 192) : ImS σ' k o := by
  cases o with
  | none =>
    show σ'.2.1 193 k = 0
    rw [h1]
    exact h
  | some P =>
    unfold ImS at h ⊢
    rw [h1, h2]
    exact h
theorem InvM.fr {σ σ' : SG} {S : Sp} (h : InvM σ S) (hF : FrC σ σ') : InvM σ' S := by
  have hI : ∀ f, σ'.1 f 176 = σ.1 f 176 := fun f => hF.1 f 176 (by decide)
  have a177 : σ'.2.1 177 = σ.2.1 177 := hF.2 177 (by decide)
  have a178 : σ'.2.1 178 = σ.2.1 178 := hF.2 178 (by decide)
  have a179 : σ'.2.1 179 = σ.2.1 179 := hF.2 179 (by decide)
  have a180 : σ'.2.1 180 = σ.2.1 180 := hF.2 180 (by decide)
  have a181 : σ'.2.1 181 = σ.2.1 181 := hF.2 181 (by decide)
  have a182 : σ'.2.1 182 = σ.2.1 182 := hF.2 182 (by decide)
  have a183 : σ'.2.1 183 = σ.2.1 183 := hF.2 183 (by decide)
  have a184 : σ'.2.1 184 = σ.2.1 184 := hF.2 184 (by decide)
  have a185 : σ'.2.1 185 = σ.2.1 185 := hF.2 185 (by decide)
  have a186 : σ'.2.1 186 = σ.2.1 186 := hF.2 186 (by decide)
  have a187 : σ'.2.1 187 = σ.2.1 187 := hF.2 187 (by decide)
  have a188 : σ'.2.1 188 = σ.2.1 188 := hF.2 188 (by decide)
  have a189 : σ'.2.1 189 = σ.2.1 189 := hF.2 189 (by decide)
  have a190 : σ'.2.1 190 = σ.2.1 190 := hF.2 190 (by decide)
  have a191 : σ'.2.1 191 = σ.2.1 191 := hF.2 191 (by decide)
  have a192 : σ'.2.1 192 = σ.2.1 192 := hF.2 192 (by decide)
  have a193 : σ'.2.1 193 = σ.2.1 193 := hF.2 193 (by decide)
  refine ⟨?_, h.2.1, fun k hk => (h.2.2.1 k hk).keep a193 a192, ?_⟩
  · have := h.1
    unfold PgS at this ⊢
    rw [hI, hI, a177, a178, a179]
    exact this
  · have := h.2.2.2
    unfold FnS at this ⊢
    rw [hI, hI, hI, a181, a182, a183, a184, a185, a186, a187, a188, a189, a190]
    exact this
theorem InvM.pgJ {σ : SG} {J B : Nat → Nat → Int32} {S : Sp} {P : Pg} (h : InvM σ S) (hP : PgS (J, B, σ.2.2) P) (hV : PgV P) (hf : J 325 176 = 0) (hI : ∀ f q, q ≠ 176 → J f q = σ.1 f q) (hA : ∀ q, (q < 176 ∨ q = 192 ∨ q = 193) → B q = σ.2.1 q) {x : Int32 × Sp} {r : Int32} (e : x = (r, (P, S.2))) : PoM σ x r (J, B, σ.2.2) := PoM.mk e ⟨hP, hV, fun k hk => (h.2.2.1 k hk).keep (hA 193 (by decide)) (hA 192 (by decide)), Or.inl hf⟩ ⟨rfl, fun f q hq => hI f q (by omega), fun q hq => hA q (Or.inl hq)⟩
theorem PgS.mk9 {J B : Nat → Nat → Int32} {π : Nat → Nat} {P : Pg} (h1 : J 321 176 = nI P.1) (h2 : ∀ p w, p < P.1 → w < 4 → B 177 (4 * p + w) = nI (P.2.1 p w)) (h3 : J 323 176 = nI P.2.2.1) (h4 : ∀ p w, p < P.2.2.1 → w < 4 → B 178 (4 * p + w) = nI (P.2.2.2.1 p w)) (h5 : B 179 0 = nI P.2.2.2.2.1) (h6 : B 179 1 = nI P.2.2.2.2.2.1) (h7 : B 179 2 = nI (rcP P)) : PgS (J, B, π) P := ⟨h1, h2, h3, h4, h5, h6, h7⟩
theorem uI_k {I : Nat → Nat → Int32} {f : Nat} {v : Int32} {f' q : Nat} (h : q ≠ 176) : uI I f 176 v f' q = I f' q := uI_o h
set_option maxHeartbeats 4000000 in
set_option maxRecDepth 100000 in
theorem ctM_set {g : GG} {σ : SG} {S : Sp} (hI : InvM σ S) (what n : Int32) : Cti g yX10_set cX10_set 4 (some .int) (rmm 1 25) [.ref (ad g 176), .int what, .int n] σ (PoM σ (sSet S what n)) := by
  refine ct_of (own := RX10) (lv := [some (.ref (ad g 176)), some (.int what), some (.int n), none]) rfl (by decide) (Nat.le_of_ble_eq_true rfl) (by intro u hu; simp only [List.mem_cons, List.not_mem_nil, or_false] at hu; rcases hu with rfl | rfl | rfl <;> rfl) (lv_ok [.ref (ad g 176), .int what, .int n] 1) ?_
  obtain ⟨⟨hc, hp, hcw, hw9, hs0, hs1, hs2⟩, hV, hIm, hFn⟩ := id hI
  have hl177 := l_177
  have hl178 := l_178
  have hl179 := l_179
  have hc24 := hV.1
  have hw20 := hV.2.2.1
  rcases ix_cases what (n := 3) (by decide) with ⟨h, e⟩ | ⟨k, hk, rfl, e⟩
  · skip
    refine aw_iload_n dX10_set_0 rfl ?_
    refine aw_i2l dX10_set_1 ?_
    refine aw_lconst dX10_set_2 ?_
    refine aw_ldc2 dX10_set_3 kl10_62 ?_
    refine csq3 dX10_set_6 km10_64 ok_X10_in (Nat.le_of_ble_eq_true rfl) ⟨Nat.le_of_ble_eq_true rfl, Nat.le_of_ble_eq_true rfl⟩ rfl rfl (ct_inN _ 3 (by decide) (by decide) (by decide)) ?_
    refine aw_if_eqB dX10_set_9 rfl (fun h_9 => ?_) (fun h_9 => absurd h_9 (ix_no rfl h))
    refine aw_bi (-2) dX10_set_45 (by decide) ?_
    exact aw_ireti dX10_set_47 (PoM.mk (by unfold sSet; rw [e]) hI (FrM.refl σ))
  · skip
    rcases (by omega : k = 0 ∨ k = 1 ∨ k = 2) with rfl | rfl | rfl
    · skip
      rcases ix_cases n (n := 4) (by decide) with ⟨h, e2⟩ | ⟨v, hv, rfl, e2⟩
      · skip
        refine aw_iload_n dX10_set_0 rfl ?_
        refine aw_i2l dX10_set_1 ?_
        refine aw_lconst dX10_set_2 ?_
        refine aw_ldc2 dX10_set_3 kl10_62 ?_
        refine csq3 dX10_set_6 km10_64 ok_X10_in (Nat.le_of_ble_eq_true rfl) ⟨Nat.le_of_ble_eq_true rfl, Nat.le_of_ble_eq_true rfl⟩ rfl rfl (ct_inN _ 3 (by decide) (by decide) (by decide)) ?_
        refine aw_if_eqB dX10_set_9 rfl (fun h_9 => absurd h_9 (not_not_intro (ix_yes rfl (by omega) (by decide)))) (fun h_9 => ?_)
        refine aw_iload_n dX10_set_12 rfl ?_
        refine aw_i2l dX10_set_13 ?_
        refine aw_lconst dX10_set_14 ?_
        refine aw_iload_n dX10_set_15 rfl ?_
        refine aw_if_neN dX10_set_16 rfl (by decide) (fun h_16 => absurd h_16 (by omega)) (fun h_16 => ?_)
        refine aw_ldc2 dX10_set_19 kl10_68 ?_
        refine aw_goto dX10_set_22 ?_
        refine csq3 dX10_set_39 km10_64 ok_X10_in (Nat.le_of_ble_eq_true rfl) ⟨Nat.le_of_ble_eq_true rfl, Nat.le_of_ble_eq_true rfl⟩ rfl rfl (ct_inN _ 4 (by decide) (by decide) (by decide)) ?_
        refine aw_if_neB dX10_set_42 rfl (fun h_42 => absurd h_42 (ix_no rfl h)) (fun h_42 => ?_)
        refine aw_bi (-2) dX10_set_45 (by decide) ?_
        exact aw_ireti dX10_set_47 (PoM.mk (by unfold sSet; rw [e]; dsimp only; rw [show limS 0 + 1 = 4 from rfl, e2]) hI (FrM.refl σ))
      · skip
        have hlk : limS 0 = 3 := rfl
        refine aw_iload_n dX10_set_0 rfl ?_
        refine aw_i2l dX10_set_1 ?_
        refine aw_lconst dX10_set_2 ?_
        refine aw_ldc2 dX10_set_3 kl10_62 ?_
        refine csq3 dX10_set_6 km10_64 ok_X10_in (Nat.le_of_ble_eq_true rfl) ⟨Nat.le_of_ble_eq_true rfl, Nat.le_of_ble_eq_true rfl⟩ rfl rfl (ct_inN _ 3 (by decide) (by decide) (by decide)) ?_
        refine aw_if_eqB dX10_set_9 rfl (fun h_9 => absurd h_9 (not_not_intro (ix_yes rfl (by omega) (by decide)))) (fun h_9 => ?_)
        refine aw_iload_n dX10_set_12 rfl ?_
        refine aw_i2l dX10_set_13 ?_
        refine aw_lconst dX10_set_14 ?_
        refine aw_iload_n dX10_set_15 rfl ?_
        refine aw_if_neN dX10_set_16 rfl (by decide) (fun h_16 => absurd h_16 (by omega)) (fun h_16 => ?_)
        refine aw_ldc2 dX10_set_19 kl10_68 ?_
        refine aw_goto dX10_set_22 ?_
        refine csq3 dX10_set_39 km10_64 ok_X10_in (Nat.le_of_ble_eq_true rfl) ⟨Nat.le_of_ble_eq_true rfl, Nat.le_of_ble_eq_true rfl⟩ rfl rfl (ct_inN _ 4 (by decide) (by decide) (by decide)) ?_
        refine aw_if_neB dX10_set_42 rfl (fun h_42 => ?_) (fun h_42 => absurd h_42 (not_not_intro (ix_yes rfl hv (by decide))))
        refine aw_aload_n dX10_set_48 rfl ?_
        refine gf10_how dX10_set_49 kf10_16 k_176 ?_
        refine aw_eqr (b := 179) rfl ?_
        refine aw_iload_n dX10_set_52 rfl ?_
        refine aw_ld (0) dX10_set_53 k_179 (rfl) (by omega) ?_
        refine aw_eq hs0 ?_
        refine aw_istore_n dX10_set_54 (Nat.le_of_ble_eq_true rfl) ?_
        refine aw_aload_n dX10_set_55 rfl ?_
        refine gf10_how dX10_set_56 kf10_16 k_176 ?_
        refine aw_eqr (b := 179) rfl ?_
        refine aw_iload_n dX10_set_59 rfl ?_
        refine aw_iload_n dX10_set_60 rfl ?_
        refine aw_sto (0) dX10_set_61 k_179 (rfl) (by omega) ?_
        refine aw_aload_n dX10_set_62 rfl ?_
        refine aw_ic (nI 0) dX10_set_63 (by decide) ?_
        refine pf10_isFound dX10_set_64 kf10_74 k_176 (by decide) ?_
        refine aw_iload_n dX10_set_67 rfl ?_
        exact aw_ireti dX10_set_68 (by
            refine InvM.pgJ hI (P := setP S.1 0 v) (PgS.mk9 ((uI_f (by decide)).trans hc) (fun p w h1 h2 => (congrFun (uA_n (by decide)) _).trans (hp p w h1 h2)) ((uI_f (by decide)).trans hcw) (fun p w h1 h2 => (congrFun (uA_n (by decide)) _).trans (hw9 p w h1 h2)) ((congrFun (uA_s _ _ _) 0).trans pk_us) ((congrFun (uA_s _ _ _) 1).trans ((pk_un (by decide)).trans hs1)) ((congrFun (uA_s _ _ _) 2).trans ((pk_un (by decide)).trans hs2))) (hV.set (by show v ≤ _; omega)) (uI_s _ _ _ _) (fun f q h => uI_k h) (fun q h => uA_n (by omega)) (by unfold sSet; rw [e]; dsimp only; rw [show limS 0 + 1 = 4 from rfl, e2]; rfl))
    · skip
      rcases ix_cases n (n := 10) (by decide) with ⟨h, e2⟩ | ⟨v, hv, rfl, e2⟩
      · skip
        refine aw_iload_n dX10_set_0 rfl ?_
        refine aw_i2l dX10_set_1 ?_
        refine aw_lconst dX10_set_2 ?_
        refine aw_ldc2 dX10_set_3 kl10_62 ?_
        refine csq3 dX10_set_6 km10_64 ok_X10_in (Nat.le_of_ble_eq_true rfl) ⟨Nat.le_of_ble_eq_true rfl, Nat.le_of_ble_eq_true rfl⟩ rfl rfl (ct_inN _ 3 (by decide) (by decide) (by decide)) ?_
        refine aw_if_eqB dX10_set_9 rfl (fun h_9 => absurd h_9 (not_not_intro (ix_yes rfl (by omega) (by decide)))) (fun h_9 => ?_)
        refine aw_iload_n dX10_set_12 rfl ?_
        refine aw_i2l dX10_set_13 ?_
        refine aw_lconst dX10_set_14 ?_
        refine aw_iload_n dX10_set_15 rfl ?_
        refine aw_if_neN dX10_set_16 rfl (by decide) (fun h_16 => ?_) (fun h_16 => absurd h_16 (by omega))
        refine aw_iload_n dX10_set_25 rfl ?_
        refine aw_ic (nI 1) dX10_set_26 (by decide) ?_
        refine aw_icmp_neN dX10_set_27 (b := 1) rfl rfl (by decide) (by decide) (fun h_27 => absurd h_27 (by omega)) (fun h_27 => ?_)
        refine aw_ldc2 dX10_set_30 kl10_70 ?_
        refine aw_goto dX10_set_33 ?_
        refine csq3 dX10_set_39 km10_64 ok_X10_in (Nat.le_of_ble_eq_true rfl) ⟨Nat.le_of_ble_eq_true rfl, Nat.le_of_ble_eq_true rfl⟩ rfl rfl (ct_inN _ 10 (by decide) (by decide) (by decide)) ?_
        refine aw_if_neB dX10_set_42 rfl (fun h_42 => absurd h_42 (ix_no rfl h)) (fun h_42 => ?_)
        refine aw_bi (-2) dX10_set_45 (by decide) ?_
        exact aw_ireti dX10_set_47 (PoM.mk (by unfold sSet; rw [e]; dsimp only; rw [show limS 1 + 1 = 10 from rfl, e2]) hI (FrM.refl σ))
      · skip
        have hlk : limS 1 = 9 := rfl
        refine aw_iload_n dX10_set_0 rfl ?_
        refine aw_i2l dX10_set_1 ?_
        refine aw_lconst dX10_set_2 ?_
        refine aw_ldc2 dX10_set_3 kl10_62 ?_
        refine csq3 dX10_set_6 km10_64 ok_X10_in (Nat.le_of_ble_eq_true rfl) ⟨Nat.le_of_ble_eq_true rfl, Nat.le_of_ble_eq_true rfl⟩ rfl rfl (ct_inN _ 3 (by decide) (by decide) (by decide)) ?_
        refine aw_if_eqB dX10_set_9 rfl (fun h_9 => absurd h_9 (not_not_intro (ix_yes rfl (by omega) (by decide)))) (fun h_9 => ?_)
        refine aw_iload_n dX10_set_12 rfl ?_
        refine aw_i2l dX10_set_13 ?_
        refine aw_lconst dX10_set_14 ?_
        refine aw_iload_n dX10_set_15 rfl ?_
        refine aw_if_neN dX10_set_16 rfl (by decide) (fun h_16 => ?_) (fun h_16 => absurd h_16 (by omega))
        refine aw_iload_n dX10_set_25 rfl ?_
        refine aw_ic (nI 1) dX10_set_26 (by decide) ?_
        refine aw_icmp_neN dX10_set_27 (b := 1) rfl rfl (by decide) (by decide) (fun h_27 => absurd h_27 (by omega)) (fun h_27 => ?_)
        refine aw_ldc2 dX10_set_30 kl10_70 ?_
        refine aw_goto dX10_set_33 ?_
        refine csq3 dX10_set_39 km10_64 ok_X10_in (Nat.le_of_ble_eq_true rfl) ⟨Nat.le_of_ble_eq_true rfl, Nat.le_of_ble_eq_true rfl⟩ rfl rfl (ct_inN _ 10 (by decide) (by decide) (by decide)) ?_
        refine aw_if_neB dX10_set_42 rfl (fun h_42 => ?_) (fun h_42 => absurd h_42 (not_not_intro (ix_yes rfl hv (by decide))))
        refine aw_aload_n dX10_set_48 rfl ?_
        refine gf10_how dX10_set_49 kf10_16 k_176 ?_
        refine aw_eqr (b := 179) rfl ?_
        refine aw_iload_n dX10_set_52 rfl ?_
        refine aw_ld (1) dX10_set_53 k_179 (rfl) (by omega) ?_
        refine aw_eq hs1 ?_
        refine aw_istore_n dX10_set_54 (Nat.le_of_ble_eq_true rfl) ?_
        refine aw_aload_n dX10_set_55 rfl ?_
        refine gf10_how dX10_set_56 kf10_16 k_176 ?_
        refine aw_eqr (b := 179) rfl ?_
        refine aw_iload_n dX10_set_59 rfl ?_
        refine aw_iload_n dX10_set_60 rfl ?_
        refine aw_sto (1) dX10_set_61 k_179 (rfl) (by omega) ?_
        refine aw_aload_n dX10_set_62 rfl ?_
        refine aw_ic (nI 0) dX10_set_63 (by decide) ?_
        refine pf10_isFound dX10_set_64 kf10_74 k_176 (by decide) ?_
        refine aw_iload_n dX10_set_67 rfl ?_
        exact aw_ireti dX10_set_68 (by
            refine InvM.pgJ hI (P := setP S.1 1 v) (PgS.mk9 ((uI_f (by decide)).trans hc) (fun p w h1 h2 => (congrFun (uA_n (by decide)) _).trans (hp p w h1 h2)) ((uI_f (by decide)).trans hcw) (fun p w h1 h2 => (congrFun (uA_n (by decide)) _).trans (hw9 p w h1 h2)) ((congrFun (uA_s _ _ _) 0).trans ((pk_un (by decide)).trans hs0)) ((congrFun (uA_s _ _ _) 1).trans pk_us) ((congrFun (uA_s _ _ _) 2).trans ((pk_un (by decide)).trans hs2))) (hV.set (by show v ≤ _; omega)) (uI_s _ _ _ _) (fun f q h => uI_k h) (fun q h => uA_n (by omega)) (by unfold sSet; rw [e]; dsimp only; rw [show limS 1 + 1 = 10 from rfl, e2]; rfl))
    · skip
      rcases ix_cases n (n := 6) (by decide) with ⟨h, e2⟩ | ⟨v, hv, rfl, e2⟩
      · skip
        refine aw_iload_n dX10_set_0 rfl ?_
        refine aw_i2l dX10_set_1 ?_
        refine aw_lconst dX10_set_2 ?_
        refine aw_ldc2 dX10_set_3 kl10_62 ?_
        refine csq3 dX10_set_6 km10_64 ok_X10_in (Nat.le_of_ble_eq_true rfl) ⟨Nat.le_of_ble_eq_true rfl, Nat.le_of_ble_eq_true rfl⟩ rfl rfl (ct_inN _ 3 (by decide) (by decide) (by decide)) ?_
        refine aw_if_eqB dX10_set_9 rfl (fun h_9 => absurd h_9 (not_not_intro (ix_yes rfl (by omega) (by decide)))) (fun h_9 => ?_)
        refine aw_iload_n dX10_set_12 rfl ?_
        refine aw_i2l dX10_set_13 ?_
        refine aw_lconst dX10_set_14 ?_
        refine aw_iload_n dX10_set_15 rfl ?_
        refine aw_if_neN dX10_set_16 rfl (by decide) (fun h_16 => ?_) (fun h_16 => absurd h_16 (by omega))
        refine aw_iload_n dX10_set_25 rfl ?_
        refine aw_ic (nI 1) dX10_set_26 (by decide) ?_
        refine aw_icmp_neN dX10_set_27 (b := 1) rfl rfl (by decide) (by decide) (fun h_27 => ?_) (fun h_27 => absurd h_27 (by omega))
        refine aw_ldc2 dX10_set_36 kl10_72 ?_
        refine csq3 dX10_set_39 km10_64 ok_X10_in (Nat.le_of_ble_eq_true rfl) ⟨Nat.le_of_ble_eq_true rfl, Nat.le_of_ble_eq_true rfl⟩ rfl rfl (ct_inN _ 6 (by decide) (by decide) (by decide)) ?_
        refine aw_if_neB dX10_set_42 rfl (fun h_42 => absurd h_42 (ix_no rfl h)) (fun h_42 => ?_)
        refine aw_bi (-2) dX10_set_45 (by decide) ?_
        exact aw_ireti dX10_set_47 (PoM.mk (by unfold sSet; rw [e]; dsimp only; rw [show limS 2 + 1 = 6 from rfl, e2]) hI (FrM.refl σ))
      · skip
        have hlk : limS 2 = 5 := rfl
        refine aw_iload_n dX10_set_0 rfl ?_
        refine aw_i2l dX10_set_1 ?_
        refine aw_lconst dX10_set_2 ?_
        refine aw_ldc2 dX10_set_3 kl10_62 ?_
        refine csq3 dX10_set_6 km10_64 ok_X10_in (Nat.le_of_ble_eq_true rfl) ⟨Nat.le_of_ble_eq_true rfl, Nat.le_of_ble_eq_true rfl⟩ rfl rfl (ct_inN _ 3 (by decide) (by decide) (by decide)) ?_
        refine aw_if_eqB dX10_set_9 rfl (fun h_9 => absurd h_9 (not_not_intro (ix_yes rfl (by omega) (by decide)))) (fun h_9 => ?_)
        refine aw_iload_n dX10_set_12 rfl ?_
        refine aw_i2l dX10_set_13 ?_
        refine aw_lconst dX10_set_14 ?_
        refine aw_iload_n dX10_set_15 rfl ?_
        refine aw_if_neN dX10_set_16 rfl (by decide) (fun h_16 => ?_) (fun h_16 => absurd h_16 (by omega))
        refine aw_iload_n dX10_set_25 rfl ?_
        refine aw_ic (nI 1) dX10_set_26 (by decide) ?_
        refine aw_icmp_neN dX10_set_27 (b := 1) rfl rfl (by decide) (by decide) (fun h_27 => ?_) (fun h_27 => absurd h_27 (by omega))
        refine aw_ldc2 dX10_set_36 kl10_72 ?_
        refine csq3 dX10_set_39 km10_64 ok_X10_in (Nat.le_of_ble_eq_true rfl) ⟨Nat.le_of_ble_eq_true rfl, Nat.le_of_ble_eq_true rfl⟩ rfl rfl (ct_inN _ 6 (by decide) (by decide) (by decide)) ?_
        refine aw_if_neB dX10_set_42 rfl (fun h_42 => ?_) (fun h_42 => absurd h_42 (not_not_intro (ix_yes rfl hv (by decide))))
        refine aw_aload_n dX10_set_48 rfl ?_
        refine gf10_how dX10_set_49 kf10_16 k_176 ?_
        refine aw_eqr (b := 179) rfl ?_
        refine aw_iload_n dX10_set_52 rfl ?_
        refine aw_ld (2) dX10_set_53 k_179 (rfl) (by omega) ?_
        refine aw_eq hs2 ?_
        refine aw_istore_n dX10_set_54 (Nat.le_of_ble_eq_true rfl) ?_
        refine aw_aload_n dX10_set_55 rfl ?_
        refine gf10_how dX10_set_56 kf10_16 k_176 ?_
        refine aw_eqr (b := 179) rfl ?_
        refine aw_iload_n dX10_set_59 rfl ?_
        refine aw_iload_n dX10_set_60 rfl ?_
        refine aw_sto (2) dX10_set_61 k_179 (rfl) (by omega) ?_
        refine aw_aload_n dX10_set_62 rfl ?_
        refine aw_ic (nI 0) dX10_set_63 (by decide) ?_
        refine pf10_isFound dX10_set_64 kf10_74 k_176 (by decide) ?_
        refine aw_iload_n dX10_set_67 rfl ?_
        exact aw_ireti dX10_set_68 (by
            refine InvM.pgJ hI (P := setP S.1 2 v) (PgS.mk9 ((uI_f (by decide)).trans hc) (fun p w h1 h2 => (congrFun (uA_n (by decide)) _).trans (hp p w h1 h2)) ((uI_f (by decide)).trans hcw) (fun p w h1 h2 => (congrFun (uA_n (by decide)) _).trans (hw9 p w h1 h2)) ((congrFun (uA_s _ _ _) 0).trans ((pk_un (by decide)).trans hs0)) ((congrFun (uA_s _ _ _) 1).trans ((pk_un (by decide)).trans hs1)) ((congrFun (uA_s _ _ _) 2).trans pk_us)) (hV.set (by show v ≤ _; omega)) (uI_s _ _ _ _) (fun f q h => uI_k h) (fun q h => uA_n (by omega)) (by unfold sSet; rw [e]; dsimp only; rw [show limS 2 + 1 = 6 from rfl, e2]; rfl))

set_option maxHeartbeats 4000000 in
set_option maxRecDepth 100000 in
theorem ct_addPiece {g : GG} {σ : SG} {c : Nat} (hc : σ.1 321 176 = nI c) (hlt : c < 24) (x1 x2 x3 x4 : Int32) : Ctv g yX10_addPiece cX10_addPiece 5 (rmm 0 0) [.ref (ad g 176), .int x1, .int x2, .int x3, .int x4] σ (fun σ' => σ' = (uI (uI σ.1 321 176 (nI (c + 1))) 325 176 (nI 0), uA σ.2.1 177 (upd (upd (upd (upd (σ.2.1 177) (4 * c) x1) (4 * c + 1) x2) (4 * c + 2) x3) (4 * c + 3) x4), σ.2.2)) := by
  refine ct_of (own := RX10) (lv := [some (.ref (ad g 176)), some (.int x1), some (.int x2), some (.int x3), some (.int x4)]) rfl (by decide) (Nat.le_of_ble_eq_true rfl) (by intro u hu; simp only [List.mem_cons, List.not_mem_nil, or_false] at hu; rcases hu with rfl | rfl | rfl | rfl | rfl <;> rfl) (lv_ok [.ref (ad g 176), .int x1, .int x2, .int x3, .int x4] 0) ?_
  have hl := l_177
  refine aw_aload_n dX10_addPiece_0 rfl ?_
  refine gf10_drawn dX10_addPiece_1 kf10_7 k_176 ?_
  refine aw_eqr (b := 177) rfl ?_
  refine aw_ic (nI 4) dX10_addPiece_4 (by decide) ?_
  refine aw_aload_n dX10_addPiece_5 rfl ?_
  refine gf10_drawnMany dX10_addPiece_6 kf10_80 k_176 ?_
  refine aw_eq hc ?_
  refine aw_imul dX10_addPiece_9 ?_
  refine aw_eq (show _ = nI (4 * c) by rw [pk_mul]) ?_
  refine aw_iload_n dX10_addPiece_10 rfl ?_
  refine aw_sto (4 * c) dX10_addPiece_11 k_177 (rfl) (by omega) ?_
  refine aw_aload_n dX10_addPiece_12 rfl ?_
  refine gf10_drawn dX10_addPiece_13 kf10_7 k_176 ?_
  refine aw_eqr (b := 177) rfl ?_
  refine aw_ic (nI 4) dX10_addPiece_16 (by decide) ?_
  refine aw_aload_n dX10_addPiece_17 rfl ?_
  refine gf10_drawnMany dX10_addPiece_18 kf10_80 k_176 ?_
  refine aw_eq hc ?_
  refine aw_imul dX10_addPiece_21 ?_
  refine aw_eq (show _ = nI (4 * c) by rw [pk_mul]) ?_
  refine aw_ic (nI 1) dX10_addPiece_22 (by decide) ?_
  refine aw_iadd dX10_addPiece_23 ?_
  refine aw_iload_n dX10_addPiece_24 rfl ?_
  refine aw_sto (4 * c + 1) dX10_addPiece_25 k_177 (by rw [nI_add]) (by omega) ?_
  refine aw_sg (show _ = (σ.1, uA σ.2.1 177 (upd (upd (σ.2.1 177) (4 * c) x1) (4 * c + 1) x2), σ.2.2) by rw [uA_s, uA_uA]) ?_
  refine aw_aload_n dX10_addPiece_26 rfl ?_
  refine gf10_drawn dX10_addPiece_27 kf10_7 k_176 ?_
  refine aw_eqr (b := 177) rfl ?_
  refine aw_ic (nI 4) dX10_addPiece_30 (by decide) ?_
  refine aw_aload_n dX10_addPiece_31 rfl ?_
  refine gf10_drawnMany dX10_addPiece_32 kf10_80 k_176 ?_
  refine aw_eq hc ?_
  refine aw_imul dX10_addPiece_35 ?_
  refine aw_eq (show _ = nI (4 * c) by rw [pk_mul]) ?_
  refine aw_ic (nI 2) dX10_addPiece_36 (by decide) ?_
  refine aw_iadd dX10_addPiece_37 ?_
  refine aw_iload_n dX10_addPiece_38 rfl ?_
  refine aw_sto (4 * c + 2) dX10_addPiece_39 k_177 (by rw [nI_add]) (by omega) ?_
  refine aw_sg (show _ = (σ.1, uA σ.2.1 177 (upd (upd (upd (σ.2.1 177) (4 * c) x1) (4 * c + 1) x2) (4 * c + 2) x3), σ.2.2) by rw [uA_s, uA_uA]) ?_
  refine aw_aload_n dX10_addPiece_40 rfl ?_
  refine gf10_drawn dX10_addPiece_41 kf10_7 k_176 ?_
  refine aw_eqr (b := 177) rfl ?_
  refine aw_ic (nI 4) dX10_addPiece_44 (by decide) ?_
  refine aw_aload_n dX10_addPiece_45 rfl ?_
  refine gf10_drawnMany dX10_addPiece_46 kf10_80 k_176 ?_
  refine aw_eq hc ?_
  refine aw_imul dX10_addPiece_49 ?_
  refine aw_eq (show _ = nI (4 * c) by rw [pk_mul]) ?_
  refine aw_ic (nI 3) dX10_addPiece_50 (by decide) ?_
  refine aw_iadd dX10_addPiece_51 ?_
  refine aw_iload dX10_addPiece_52 rfl ?_
  refine aw_sto (4 * c + 3) dX10_addPiece_54 k_177 (by rw [nI_add]) (by omega) ?_
  refine aw_sg (show _ = (σ.1, uA σ.2.1 177 (upd (upd (upd (upd (σ.2.1 177) (4 * c) x1) (4 * c + 1) x2) (4 * c + 2) x3) (4 * c + 3) x4), σ.2.2) by rw [uA_s, uA_uA]) ?_
  refine aw_aload_n dX10_addPiece_55 rfl ?_
  refine aw_dup dX10_addPiece_56 rfl ?_
  refine gf10_drawnMany dX10_addPiece_57 kf10_80 k_176 ?_
  refine aw_eq hc ?_
  refine aw_ic (nI 1) dX10_addPiece_60 (by decide) ?_
  refine aw_iadd dX10_addPiece_61 ?_
  refine aw_eq (show _ = nI (c + 1) by rw [nI_add]) ?_
  refine pf10_drawnMany dX10_addPiece_62 kf10_80 k_176 ?_
  refine aw_aload_n dX10_addPiece_65 rfl ?_
  refine aw_ic (nI 0) dX10_addPiece_66 (by decide) ?_
  refine pf10_isFound dX10_addPiece_67 kf10_74 k_176 (by decide) ?_
  exact aw_ret dX10_addPiece_70 (rfl)

set_option maxHeartbeats 4000000 in
set_option maxRecDepth 100000 in
theorem ctM_draw {g : GG} {σ : SG} {S : Sp} (hI : InvM σ S) (way at_ fr to : Int32) : Cti g yX10_draw cX10_draw 5 (some .int) (rmm 2 45) [.ref (ad g 176), .int way, .int at_, .int fr, .int to] σ (PoM σ (sDraw S way at_ fr to)) := by
  refine ct_of (own := RX10) (lv := [some (.ref (ad g 176)), some (.int way), some (.int at_), some (.int fr), some (.int to)]) rfl (by decide) (Nat.le_of_ble_eq_true rfl) (by intro u hu; simp only [List.mem_cons, List.not_mem_nil, or_false] at hu; rcases hu with rfl | rfl | rfl | rfl | rfl <;> rfl) (lv_ok [.ref (ad g 176), .int way, .int at_, .int fr, .int to] 0) ?_
  obtain ⟨⟨hc, hp, hcw, hw9, hs0, hs1, hs2⟩, hV, hIm, hFn⟩ := id hI
  have hl177 := l_177
  have hl178 := l_178
  have hl179 := l_179
  have hc24 := hV.1
  have hw20 := hV.2.2.1
  rcases ix_cases way (n := 2) (by decide) with ⟨h, e⟩ | ⟨w, hw, rfl, e⟩
  · skip
    refine aw_iload_n dX10_draw_0 rfl ?_
    refine aw_i2l dX10_draw_1 ?_
    refine aw_lconst dX10_draw_2 ?_
    refine aw_lconst dX10_draw_3 ?_
    refine csq3 dX10_draw_4 km10_64 ok_X10_in (Nat.le_of_ble_eq_true rfl) ⟨Nat.le_of_ble_eq_true rfl, Nat.le_of_ble_eq_true rfl⟩ rfl rfl (ct_inN _ 2 (by decide) (by decide) (by decide)) ?_
    refine aw_if_eqB dX10_draw_7 rfl (fun h_7 => ?_) (fun h_7 => absurd h_7 (ix_no rfl h))
    refine aw_bi (-2) dX10_draw_38 (by decide) ?_
    exact aw_ireti dX10_draw_40 (PoM.mk (by unfold sDraw dArg; rw [e]) hI (FrM.refl σ))
  · skip
    rcases ix_cases at_ (n := 100) (by decide) with ⟨h, e2⟩ | ⟨a, ha, rfl, e2⟩
    · skip
      refine aw_iload_n dX10_draw_0 rfl ?_
      refine aw_i2l dX10_draw_1 ?_
      refine aw_lconst dX10_draw_2 ?_
      refine aw_lconst dX10_draw_3 ?_
      refine csq3 dX10_draw_4 km10_64 ok_X10_in (Nat.le_of_ble_eq_true rfl) ⟨Nat.le_of_ble_eq_true rfl, Nat.le_of_ble_eq_true rfl⟩ rfl rfl (ct_inN _ 2 (by decide) (by decide) (by decide)) ?_
      refine aw_if_eqB dX10_draw_7 rfl (fun h_7 => absurd h_7 (not_not_intro (ix_yes rfl hw (by decide)))) (fun h_7 => ?_)
      refine aw_iload_n dX10_draw_10 rfl ?_
      refine csq1 dX10_draw_11 km10_84 ok_X10_isPlace (Nat.le_of_ble_eq_true rfl) ⟨Nat.le_of_ble_eq_true rfl, Nat.le_of_ble_eq_true rfl⟩ rfl rfl (ct_isPlaceM _) ?_
      refine aw_if_eqB dX10_draw_14 rfl (fun h_14 => ?_) (fun h_14 => absurd h_14 (ix_no rfl h))
      refine aw_bi (-2) dX10_draw_38 (by decide) ?_
      exact aw_ireti dX10_draw_40 (PoM.mk (by unfold sDraw dArg; rw [e, e2]) hI (FrM.refl σ))
    · skip
      rcases ix_cases fr (n := 100) (by decide) with ⟨h, e3⟩ | ⟨f, hf, rfl, e3⟩
      · skip
        refine aw_iload_n dX10_draw_0 rfl ?_
        refine aw_i2l dX10_draw_1 ?_
        refine aw_lconst dX10_draw_2 ?_
        refine aw_lconst dX10_draw_3 ?_
        refine csq3 dX10_draw_4 km10_64 ok_X10_in (Nat.le_of_ble_eq_true rfl) ⟨Nat.le_of_ble_eq_true rfl, Nat.le_of_ble_eq_true rfl⟩ rfl rfl (ct_inN _ 2 (by decide) (by decide) (by decide)) ?_
        refine aw_if_eqB dX10_draw_7 rfl (fun h_7 => absurd h_7 (not_not_intro (ix_yes rfl hw (by decide)))) (fun h_7 => ?_)
        refine aw_iload_n dX10_draw_10 rfl ?_
        refine csq1 dX10_draw_11 km10_84 ok_X10_isPlace (Nat.le_of_ble_eq_true rfl) ⟨Nat.le_of_ble_eq_true rfl, Nat.le_of_ble_eq_true rfl⟩ rfl rfl (ct_isPlaceM _) ?_
        refine aw_if_eqB dX10_draw_14 rfl (fun h_14 => absurd h_14 (not_not_intro (ix_yes rfl ha (by decide)))) (fun h_14 => ?_)
        refine aw_iload_n dX10_draw_17 rfl ?_
        refine csq1 dX10_draw_18 km10_84 ok_X10_isPlace (Nat.le_of_ble_eq_true rfl) ⟨Nat.le_of_ble_eq_true rfl, Nat.le_of_ble_eq_true rfl⟩ rfl rfl (ct_isPlaceM _) ?_
        refine aw_if_eqB dX10_draw_21 rfl (fun h_21 => ?_) (fun h_21 => absurd h_21 (ix_no rfl h))
        refine aw_bi (-2) dX10_draw_38 (by decide) ?_
        exact aw_ireti dX10_draw_40 (PoM.mk (by unfold sDraw dArg; rw [e, e2, e3]) hI (FrM.refl σ))
      · skip
        rcases ix_cases to (n := 100) (by decide) with ⟨h, e4⟩ | ⟨t, ht, rfl, e4⟩
        · skip
          refine aw_iload_n dX10_draw_0 rfl ?_
          refine aw_i2l dX10_draw_1 ?_
          refine aw_lconst dX10_draw_2 ?_
          refine aw_lconst dX10_draw_3 ?_
          refine csq3 dX10_draw_4 km10_64 ok_X10_in (Nat.le_of_ble_eq_true rfl) ⟨Nat.le_of_ble_eq_true rfl, Nat.le_of_ble_eq_true rfl⟩ rfl rfl (ct_inN _ 2 (by decide) (by decide) (by decide)) ?_
          refine aw_if_eqB dX10_draw_7 rfl (fun h_7 => absurd h_7 (not_not_intro (ix_yes rfl hw (by decide)))) (fun h_7 => ?_)
          refine aw_iload_n dX10_draw_10 rfl ?_
          refine csq1 dX10_draw_11 km10_84 ok_X10_isPlace (Nat.le_of_ble_eq_true rfl) ⟨Nat.le_of_ble_eq_true rfl, Nat.le_of_ble_eq_true rfl⟩ rfl rfl (ct_isPlaceM _) ?_
          refine aw_if_eqB dX10_draw_14 rfl (fun h_14 => absurd h_14 (not_not_intro (ix_yes rfl ha (by decide)))) (fun h_14 => ?_)
          refine aw_iload_n dX10_draw_17 rfl ?_
          refine csq1 dX10_draw_18 km10_84 ok_X10_isPlace (Nat.le_of_ble_eq_true rfl) ⟨Nat.le_of_ble_eq_true rfl, Nat.le_of_ble_eq_true rfl⟩ rfl rfl (ct_isPlaceM _) ?_
          refine aw_if_eqB dX10_draw_21 rfl (fun h_21 => absurd h_21 (not_not_intro (ix_yes rfl hf (by decide)))) (fun h_21 => ?_)
          refine aw_iload dX10_draw_24 rfl ?_
          refine csq1 dX10_draw_26 km10_84 ok_X10_isPlace (Nat.le_of_ble_eq_true rfl) ⟨Nat.le_of_ble_eq_true rfl, Nat.le_of_ble_eq_true rfl⟩ rfl rfl (ct_isPlaceM _) ?_
          refine aw_if_eqB dX10_draw_29 rfl (fun h_29 => ?_) (fun h_29 => absurd h_29 (ix_no rfl h))
          refine aw_bi (-2) dX10_draw_38 (by decide) ?_
          exact aw_ireti dX10_draw_40 (PoM.mk (by unfold sDraw dArg; rw [e, e2, e3, e4]) hI (FrM.refl σ))
        · skip
          by_cases hft : f < t
          · skip
            by_cases h24 : S.1.1 = 24
            · skip
              refine aw_iload_n dX10_draw_0 rfl ?_
              refine aw_i2l dX10_draw_1 ?_
              refine aw_lconst dX10_draw_2 ?_
              refine aw_lconst dX10_draw_3 ?_
              refine csq3 dX10_draw_4 km10_64 ok_X10_in (Nat.le_of_ble_eq_true rfl) ⟨Nat.le_of_ble_eq_true rfl, Nat.le_of_ble_eq_true rfl⟩ rfl rfl (ct_inN _ 2 (by decide) (by decide) (by decide)) ?_
              refine aw_if_eqB dX10_draw_7 rfl (fun h_7 => absurd h_7 (not_not_intro (ix_yes rfl hw (by decide)))) (fun h_7 => ?_)
              refine aw_iload_n dX10_draw_10 rfl ?_
              refine csq1 dX10_draw_11 km10_84 ok_X10_isPlace (Nat.le_of_ble_eq_true rfl) ⟨Nat.le_of_ble_eq_true rfl, Nat.le_of_ble_eq_true rfl⟩ rfl rfl (ct_isPlaceM _) ?_
              refine aw_if_eqB dX10_draw_14 rfl (fun h_14 => absurd h_14 (not_not_intro (ix_yes rfl ha (by decide)))) (fun h_14 => ?_)
              refine aw_iload_n dX10_draw_17 rfl ?_
              refine csq1 dX10_draw_18 km10_84 ok_X10_isPlace (Nat.le_of_ble_eq_true rfl) ⟨Nat.le_of_ble_eq_true rfl, Nat.le_of_ble_eq_true rfl⟩ rfl rfl (ct_isPlaceM _) ?_
              refine aw_if_eqB dX10_draw_21 rfl (fun h_21 => absurd h_21 (not_not_intro (ix_yes rfl hf (by decide)))) (fun h_21 => ?_)
              refine aw_iload dX10_draw_24 rfl ?_
              refine csq1 dX10_draw_26 km10_84 ok_X10_isPlace (Nat.le_of_ble_eq_true rfl) ⟨Nat.le_of_ble_eq_true rfl, Nat.le_of_ble_eq_true rfl⟩ rfl rfl (ct_isPlaceM _) ?_
              refine aw_if_eqB dX10_draw_29 rfl (fun h_29 => absurd h_29 (not_not_intro (ix_yes rfl ht (by decide)))) (fun h_29 => ?_)
              refine aw_iload_n dX10_draw_32 rfl ?_
              refine aw_iload dX10_draw_33 rfl ?_
              refine aw_icmp_ltN dX10_draw_35 rfl rfl (by omega) (by omega) (fun h_35 => ?_) (fun h_35 => absurd h_35 (by omega))
              refine aw_aload_n dX10_draw_41 rfl ?_
              refine gf10_drawnMany dX10_draw_42 kf10_80 k_176 ?_
              refine aw_eq hc ?_
              refine aw_bi (nI 24) dX10_draw_45 (by decide) ?_
              refine aw_icmp_neN dX10_draw_47 rfl (b := 24) rfl (by omega) (by omega) (fun h_47 => absurd h_47 (by omega)) (fun h_47 => ?_)
              refine aw_bi (-4) dX10_draw_50 (by decide) ?_
              exact aw_ireti dX10_draw_52 (PoM.mk (by unfold sDraw dArg; rw [e, e2, e3, e4]; dsimp only; rw [if_pos hft]; dsimp only; rw [if_pos h24]) hI (FrM.refl σ))
            · skip
              refine aw_iload_n dX10_draw_0 rfl ?_
              refine aw_i2l dX10_draw_1 ?_
              refine aw_lconst dX10_draw_2 ?_
              refine aw_lconst dX10_draw_3 ?_
              refine csq3 dX10_draw_4 km10_64 ok_X10_in (Nat.le_of_ble_eq_true rfl) ⟨Nat.le_of_ble_eq_true rfl, Nat.le_of_ble_eq_true rfl⟩ rfl rfl (ct_inN _ 2 (by decide) (by decide) (by decide)) ?_
              refine aw_if_eqB dX10_draw_7 rfl (fun h_7 => absurd h_7 (not_not_intro (ix_yes rfl hw (by decide)))) (fun h_7 => ?_)
              refine aw_iload_n dX10_draw_10 rfl ?_
              refine csq1 dX10_draw_11 km10_84 ok_X10_isPlace (Nat.le_of_ble_eq_true rfl) ⟨Nat.le_of_ble_eq_true rfl, Nat.le_of_ble_eq_true rfl⟩ rfl rfl (ct_isPlaceM _) ?_
              refine aw_if_eqB dX10_draw_14 rfl (fun h_14 => absurd h_14 (not_not_intro (ix_yes rfl ha (by decide)))) (fun h_14 => ?_)
              refine aw_iload_n dX10_draw_17 rfl ?_
              refine csq1 dX10_draw_18 km10_84 ok_X10_isPlace (Nat.le_of_ble_eq_true rfl) ⟨Nat.le_of_ble_eq_true rfl, Nat.le_of_ble_eq_true rfl⟩ rfl rfl (ct_isPlaceM _) ?_
              refine aw_if_eqB dX10_draw_21 rfl (fun h_21 => absurd h_21 (not_not_intro (ix_yes rfl hf (by decide)))) (fun h_21 => ?_)
              refine aw_iload dX10_draw_24 rfl ?_
              refine csq1 dX10_draw_26 km10_84 ok_X10_isPlace (Nat.le_of_ble_eq_true rfl) ⟨Nat.le_of_ble_eq_true rfl, Nat.le_of_ble_eq_true rfl⟩ rfl rfl (ct_isPlaceM _) ?_
              refine aw_if_eqB dX10_draw_29 rfl (fun h_29 => absurd h_29 (not_not_intro (ix_yes rfl ht (by decide)))) (fun h_29 => ?_)
              refine aw_iload_n dX10_draw_32 rfl ?_
              refine aw_iload dX10_draw_33 rfl ?_
              refine aw_icmp_ltN dX10_draw_35 rfl rfl (by omega) (by omega) (fun h_35 => ?_) (fun h_35 => absurd h_35 (by omega))
              refine aw_aload_n dX10_draw_41 rfl ?_
              refine gf10_drawnMany dX10_draw_42 kf10_80 k_176 ?_
              refine aw_eq hc ?_
              refine aw_bi (nI 24) dX10_draw_45 (by decide) ?_
              refine aw_icmp_neN dX10_draw_47 rfl (b := 24) rfl (by omega) (by omega) (fun h_47 => ?_) (fun h_47 => absurd h_47 (by omega))
              refine aw_aload_n dX10_draw_53 rfl ?_
              refine aw_iload_n dX10_draw_54 rfl ?_
              refine aw_iload_n dX10_draw_55 rfl ?_
              refine aw_iload_n dX10_draw_56 rfl ?_
              refine aw_iload dX10_draw_57 rfl ?_
              refine cvv4 dX10_draw_59 km10_88 ok_X10_addPiece rfl rfl (by decide) k_176 (Nat.le_of_ble_eq_true rfl) ⟨Nat.le_of_ble_eq_true rfl, Nat.le_of_ble_eq_true rfl⟩ rfl rfl (ct_addPiece hc (by omega) _ _ _ _) ?_
              intro σ1 hp_59
              subst hp_59
              refine aw_aload_n dX10_draw_62 rfl ?_
              refine gf10_drawnMany dX10_draw_63 kf10_80 k_176 ?_
              refine aw_eq ((uI_f (by decide)).trans (uI_s _ _ _ _)) ?_
              exact aw_ireti dX10_draw_66 (by
                  refine InvM.pgJ hI (P := addP S.1 (four w a f t)) (PgS.mk9 ((uI_f (by decide)).trans (uI_s _ _ _ _)) (fun p x h1 h2 => (congrFun (uA_s _ _ _) _).trans (dAdd hp (four w a f t) p x h1 h2)) ((uI_f (by decide)).trans ((uI_f (by decide)).trans hcw)) (fun p w h1 h2 => (congrFun (uA_n (by decide)) _).trans (hw9 p w h1 h2)) ((congrFun (uA_n (by decide)) _).trans hs0) ((congrFun (uA_n (by decide)) _).trans hs1) ((congrFun (uA_n (by decide)) _).trans hs2)) (hV.add (by omega) (four_le (by omega) (by omega) (by omega) (by omega)) (by show w ≤ 1; omega) hft) (uI_s _ _ _ _) (fun f q h => (uI_k h).trans (uI_k h)) (fun q h => uA_n (by omega)) (by unfold sDraw dArg; rw [e, e2, e3, e4]; dsimp only; rw [if_pos hft]; dsimp only; rw [if_neg h24]))
          · skip
            refine aw_iload_n dX10_draw_0 rfl ?_
            refine aw_i2l dX10_draw_1 ?_
            refine aw_lconst dX10_draw_2 ?_
            refine aw_lconst dX10_draw_3 ?_
            refine csq3 dX10_draw_4 km10_64 ok_X10_in (Nat.le_of_ble_eq_true rfl) ⟨Nat.le_of_ble_eq_true rfl, Nat.le_of_ble_eq_true rfl⟩ rfl rfl (ct_inN _ 2 (by decide) (by decide) (by decide)) ?_
            refine aw_if_eqB dX10_draw_7 rfl (fun h_7 => absurd h_7 (not_not_intro (ix_yes rfl hw (by decide)))) (fun h_7 => ?_)
            refine aw_iload_n dX10_draw_10 rfl ?_
            refine csq1 dX10_draw_11 km10_84 ok_X10_isPlace (Nat.le_of_ble_eq_true rfl) ⟨Nat.le_of_ble_eq_true rfl, Nat.le_of_ble_eq_true rfl⟩ rfl rfl (ct_isPlaceM _) ?_
            refine aw_if_eqB dX10_draw_14 rfl (fun h_14 => absurd h_14 (not_not_intro (ix_yes rfl ha (by decide)))) (fun h_14 => ?_)
            refine aw_iload_n dX10_draw_17 rfl ?_
            refine csq1 dX10_draw_18 km10_84 ok_X10_isPlace (Nat.le_of_ble_eq_true rfl) ⟨Nat.le_of_ble_eq_true rfl, Nat.le_of_ble_eq_true rfl⟩ rfl rfl (ct_isPlaceM _) ?_
            refine aw_if_eqB dX10_draw_21 rfl (fun h_21 => absurd h_21 (not_not_intro (ix_yes rfl hf (by decide)))) (fun h_21 => ?_)
            refine aw_iload dX10_draw_24 rfl ?_
            refine csq1 dX10_draw_26 km10_84 ok_X10_isPlace (Nat.le_of_ble_eq_true rfl) ⟨Nat.le_of_ble_eq_true rfl, Nat.le_of_ble_eq_true rfl⟩ rfl rfl (ct_isPlaceM _) ?_
            refine aw_if_eqB dX10_draw_29 rfl (fun h_29 => absurd h_29 (not_not_intro (ix_yes rfl ht (by decide)))) (fun h_29 => ?_)
            refine aw_iload_n dX10_draw_32 rfl ?_
            refine aw_iload dX10_draw_33 rfl ?_
            refine aw_icmp_ltN dX10_draw_35 rfl rfl (by omega) (by omega) (fun h_35 => absurd h_35 (by omega)) (fun h_35 => ?_)
            refine aw_bi (-2) dX10_draw_38 (by decide) ?_
            exact aw_ireti dX10_draw_40 (PoM.mk (by unfold sDraw dArg; rw [e, e2, e3, e4]; dsimp only; rw [if_neg hft]) hI (FrM.refl σ))

set_option maxHeartbeats 4000000 in
set_option maxRecDepth 100000 in
theorem ctM_erase {g : GG} {σ : SG} {S : Sp} (hI : InvM σ S) (x : Int32) : Cti g yX10_erase cX10_erase 3 (some .int) (rmm 1 25) [.ref (ad g 176), .int x] σ (PoM σ (sErase S x)) := by
  refine ct_of (own := RX10) (lv := [some (.ref (ad g 176)), some (.int x), none]) rfl (by decide) (Nat.le_of_ble_eq_true rfl) (by intro u hu; simp only [List.mem_cons, List.not_mem_nil, or_false] at hu; rcases hu with rfl | rfl <;> rfl) (lv_ok [.ref (ad g 176), .int x] 1) ?_
  obtain ⟨⟨hc, hp, hcw, hw9, hs0, hs1, hs2⟩, hV, hIm, hFn⟩ := id hI
  have hl177 := l_177
  have hl178 := l_178
  have hl179 := l_179
  have hc24 := hV.1
  have hw20 := hV.2.2.1
  rcases ix_cases x (n := S.1.1) (by omega) with ⟨h, e⟩ | ⟨k, hk, rfl, e⟩
  · skip
    refine aw_iload_n dX10_erase_0 rfl ?_
    refine aw_i2l dX10_erase_1 ?_
    refine aw_lconst dX10_erase_2 ?_
    refine aw_aload_n dX10_erase_3 rfl ?_
    refine gf10_drawnMany dX10_erase_4 kf10_80 k_176 ?_
    refine aw_eq hc ?_
    refine aw_ic (nI 1) dX10_erase_7 (by decide) ?_
    refine aw_isub dX10_erase_8 ?_
    refine aw_i2l dX10_erase_9 ?_
    refine csq3 dX10_erase_10 km10_64 ok_X10_in (Nat.le_of_ble_eq_true rfl) ⟨Nat.le_of_ble_eq_true rfl, Nat.le_of_ble_eq_true rfl⟩ rfl rfl (ct_inN _ (S.1.1) (by decide) (i64_m (by omega)) (by omega)) ?_
    refine aw_if_neB dX10_erase_13 rfl (fun h_13 => absurd h_13 (ix_no rfl h)) (fun h_13 => ?_)
    refine aw_ic (-1) dX10_erase_16 (by decide) ?_
    exact aw_ireti dX10_erase_17 (PoM.mk (by unfold sErase; rw [e]) hI (FrM.refl σ))
  · skip
    refine aw_iload_n dX10_erase_0 rfl ?_
    refine aw_i2l dX10_erase_1 ?_
    refine aw_lconst dX10_erase_2 ?_
    refine aw_aload_n dX10_erase_3 rfl ?_
    refine gf10_drawnMany dX10_erase_4 kf10_80 k_176 ?_
    refine aw_eq hc ?_
    refine aw_ic (nI 1) dX10_erase_7 (by decide) ?_
    refine aw_isub dX10_erase_8 ?_
    refine aw_i2l dX10_erase_9 ?_
    refine csq3 dX10_erase_10 km10_64 ok_X10_in (Nat.le_of_ble_eq_true rfl) ⟨Nat.le_of_ble_eq_true rfl, Nat.le_of_ble_eq_true rfl⟩ rfl rfl (ct_inN _ (S.1.1) (by decide) (i64_m (by omega)) (by omega)) ?_
    refine aw_if_neB dX10_erase_13 rfl (fun h_13 => ?_) (fun h_13 => absurd h_13 (not_not_intro (ix_yes rfl hk (by omega))))
    refine aw_aload_n dX10_erase_18 rfl ?_
    refine aw_dup dX10_erase_19 rfl ?_
    refine gf10_drawnMany dX10_erase_20 kf10_80 k_176 ?_
    refine aw_eq hc ?_
    refine aw_ic (nI 1) dX10_erase_23 (by decide) ?_
    refine aw_isub dX10_erase_24 ?_
    refine aw_eq (show _ = nI (S.1.1 - 1) from pk_sub (by omega)) ?_
    refine pf10_drawnMany dX10_erase_25 kf10_80 k_176 ?_
    refine aw_ic (nI 4) dX10_erase_28 (by decide) ?_
    refine aw_iload_n dX10_erase_29 rfl ?_
    refine aw_imul dX10_erase_30 ?_
    refine aw_eq (show _ = nI (4 * k) by rw [pk_mul]) ?_
    refine aw_istore_n dX10_erase_31 (Nat.le_of_ble_eq_true rfl) ?_
    refine for_up (fun i σ' => 4 * k ≤ i ∧ σ' = (uI σ.1 321 176 (nI (S.1.1 - 1)), uA σ.2.1 177 (sh4 (σ.2.1 177) (4 * k) i), σ.2.2)) (fun i => [some (.ref (ad g 176)), some (.int (nI k)), some (.int (nI i))]) (4 * (S.1.1 - 1)) ?_ ?_ (4 * k) _ (by omega) ⟨Nat.le_refl _, by rw [sh4_0, uA_same]⟩
    · rintro i σ2 hi ⟨hi2, rfl⟩ ih
      refine aw_iload_n dX10_erase_32 rfl ?_
      refine aw_ic (nI 4) dX10_erase_33 (by decide) ?_
      refine aw_aload_n dX10_erase_34 rfl ?_
      refine gf10_drawnMany dX10_erase_35 kf10_80 k_176 ?_
      refine aw_eq (uI_s _ _ _ _) ?_
      refine aw_imul dX10_erase_38 ?_
      refine aw_eq (show _ = nI (4 * (S.1.1 - 1)) by rw [pk_mul]) ?_
      refine aw_icmp_geN dX10_erase_39 rfl rfl (by omega) (by omega) (fun h_39 => absurd h_39 (by omega)) (fun h_39 => ?_)
      refine aw_aload_n dX10_erase_42 rfl ?_
      refine gf10_drawn dX10_erase_43 kf10_7 k_176 ?_
      refine aw_eqr (b := 177) rfl ?_
      refine aw_iload_n dX10_erase_46 rfl ?_
      refine aw_aload_n dX10_erase_47 rfl ?_
      refine gf10_drawn dX10_erase_48 kf10_7 k_176 ?_
      refine aw_eqr (b := 177) rfl ?_
      refine aw_iload_n dX10_erase_51 rfl ?_
      refine aw_ic (nI 4) dX10_erase_52 (by decide) ?_
      refine aw_iadd dX10_erase_53 ?_
      refine aw_eq (show _ = nI (i + 4) by rw [nI_add]) ?_
      refine aw_ld (i + 4) dX10_erase_54 k_177 (rfl) (by omega) ?_
      refine aw_sto (i) dX10_erase_55 k_177 (rfl) (by omega) ?_
      refine aw_inc (nI (i + 1)) dX10_erase_56 rfl (Nat.le_of_ble_eq_true rfl) (nI_1 i) ?_
      refine aw_goto dX10_erase_59 ?_
      exact ih _ ⟨by omega, by rw [uA_s, uA_uA, sh4_s hi2]⟩
    · rintro σ2 ⟨hi2, rfl⟩
      refine aw_iload_n dX10_erase_32 rfl ?_
      refine aw_ic (nI 4) dX10_erase_33 (by decide) ?_
      refine aw_aload_n dX10_erase_34 rfl ?_
      refine gf10_drawnMany dX10_erase_35 kf10_80 k_176 ?_
      refine aw_eq (uI_s _ _ _ _) ?_
      refine aw_imul dX10_erase_38 ?_
      refine aw_eq (show _ = nI (4 * (S.1.1 - 1)) by rw [pk_mul]) ?_
      refine aw_icmp_geN dX10_erase_39 rfl rfl (by omega) (by omega) (fun h_39 => ?_) (fun h_39 => absurd h_39 (by omega))
      refine aw_aload_n dX10_erase_62 rfl ?_
      refine aw_ic (nI 0) dX10_erase_63 (by decide) ?_
      refine pf10_isFound dX10_erase_64 kf10_74 k_176 (by decide) ?_
      refine aw_aload_n dX10_erase_67 rfl ?_
      refine gf10_drawnMany dX10_erase_68 kf10_80 k_176 ?_
      refine aw_eq ((uI_f (by decide)).trans (uI_s _ _ _ _)) ?_
      exact aw_ireti dX10_erase_71 (InvM.pgJ hI (P := remP S.1 k) (PgS.mk9 ((uI_f (by decide)).trans (uI_s _ _ _ _)) (fun p w h1 h2 => (congrFun (uA_s _ _ _) _).trans (dRem hp p w h1 h2)) ((uI_f (by decide)).trans ((uI_f (by decide)).trans hcw)) (fun p w h1 h2 => (congrFun (uA_n (by decide)) _).trans (hw9 p w h1 h2)) ((congrFun (uA_n (by decide)) _).trans hs0) ((congrFun (uA_n (by decide)) _).trans hs1) ((congrFun (uA_n (by decide)) _).trans hs2)) hV.rem (uI_s _ _ _ _) (fun f q h => (uI_k h).trans (uI_k h)) (fun q h => uA_n (by omega)) (by unfold sErase; rw [e]))

set_option maxHeartbeats 4000000 in
set_option maxRecDepth 100000 in
theorem ctM_strike {g : GG} {σ : SG} {S : Sp} (hI : InvM σ S) (x : Int32) : Cti g yX10_strike cX10_strike 3 (some .int) (rmm 1 25) [.ref (ad g 176), .int x] σ (PoM σ (sStrike S x)) := by
  refine ct_of (own := RX10) (lv := [some (.ref (ad g 176)), some (.int x), none]) rfl (by decide) (Nat.le_of_ble_eq_true rfl) (by intro u hu; simp only [List.mem_cons, List.not_mem_nil, or_false] at hu; rcases hu with rfl | rfl <;> rfl) (lv_ok [.ref (ad g 176), .int x] 1) ?_
  obtain ⟨⟨hc, hp, hcw, hw9, hs0, hs1, hs2⟩, hV, hIm, hFn⟩ := id hI
  have hl177 := l_177
  have hl178 := l_178
  have hl179 := l_179
  have hc24 := hV.1
  have hw20 := hV.2.2.1
  rcases ix_cases x (n := S.1.2.2.1) (by omega) with ⟨h, e⟩ | ⟨k, hk, rfl, e⟩
  · skip
    refine aw_iload_n dX10_strike_0 rfl ?_
    refine aw_i2l dX10_strike_1 ?_
    refine aw_lconst dX10_strike_2 ?_
    refine aw_aload_n dX10_strike_3 rfl ?_
    refine gf10_boxMany dX10_strike_4 kf10_92 k_176 ?_
    refine aw_eq hcw ?_
    refine aw_ic (nI 1) dX10_strike_7 (by decide) ?_
    refine aw_isub dX10_strike_8 ?_
    refine aw_i2l dX10_strike_9 ?_
    refine csq3 dX10_strike_10 km10_64 ok_X10_in (Nat.le_of_ble_eq_true rfl) ⟨Nat.le_of_ble_eq_true rfl, Nat.le_of_ble_eq_true rfl⟩ rfl rfl (ct_inN _ (S.1.2.2.1) (by decide) (i64_m (by omega)) (by omega)) ?_
    refine aw_if_neB dX10_strike_13 rfl (fun h_13 => absurd h_13 (ix_no rfl h)) (fun h_13 => ?_)
    refine aw_ic (-1) dX10_strike_16 (by decide) ?_
    exact aw_ireti dX10_strike_17 (PoM.mk (by unfold sStrike; rw [e]) hI (FrM.refl σ))
  · skip
    refine aw_iload_n dX10_strike_0 rfl ?_
    refine aw_i2l dX10_strike_1 ?_
    refine aw_lconst dX10_strike_2 ?_
    refine aw_aload_n dX10_strike_3 rfl ?_
    refine gf10_boxMany dX10_strike_4 kf10_92 k_176 ?_
    refine aw_eq hcw ?_
    refine aw_ic (nI 1) dX10_strike_7 (by decide) ?_
    refine aw_isub dX10_strike_8 ?_
    refine aw_i2l dX10_strike_9 ?_
    refine csq3 dX10_strike_10 km10_64 ok_X10_in (Nat.le_of_ble_eq_true rfl) ⟨Nat.le_of_ble_eq_true rfl, Nat.le_of_ble_eq_true rfl⟩ rfl rfl (ct_inN _ (S.1.2.2.1) (by decide) (i64_m (by omega)) (by omega)) ?_
    refine aw_if_neB dX10_strike_13 rfl (fun h_13 => ?_) (fun h_13 => absurd h_13 (not_not_intro (ix_yes rfl hk (by omega))))
    refine aw_aload_n dX10_strike_18 rfl ?_
    refine aw_dup dX10_strike_19 rfl ?_
    refine gf10_boxMany dX10_strike_20 kf10_92 k_176 ?_
    refine aw_eq hcw ?_
    refine aw_ic (nI 1) dX10_strike_23 (by decide) ?_
    refine aw_isub dX10_strike_24 ?_
    refine aw_eq (show _ = nI (S.1.2.2.1 - 1) from pk_sub (by omega)) ?_
    refine pf10_boxMany dX10_strike_25 kf10_92 k_176 ?_
    refine aw_ic (nI 4) dX10_strike_28 (by decide) ?_
    refine aw_iload_n dX10_strike_29 rfl ?_
    refine aw_imul dX10_strike_30 ?_
    refine aw_eq (show _ = nI (4 * k) by rw [pk_mul]) ?_
    refine aw_istore_n dX10_strike_31 (Nat.le_of_ble_eq_true rfl) ?_
    refine for_up (fun i σ' => 4 * k ≤ i ∧ σ' = (uI σ.1 323 176 (nI (S.1.2.2.1 - 1)), uA σ.2.1 178 (sh4 (σ.2.1 178) (4 * k) i), σ.2.2)) (fun i => [some (.ref (ad g 176)), some (.int (nI k)), some (.int (nI i))]) (4 * (S.1.2.2.1 - 1)) ?_ ?_ (4 * k) _ (by omega) ⟨Nat.le_refl _, by rw [sh4_0, uA_same]⟩
    · rintro i σ2 hi ⟨hi2, rfl⟩ ih
      refine aw_iload_n dX10_strike_32 rfl ?_
      refine aw_ic (nI 4) dX10_strike_33 (by decide) ?_
      refine aw_aload_n dX10_strike_34 rfl ?_
      refine gf10_boxMany dX10_strike_35 kf10_92 k_176 ?_
      refine aw_eq (uI_s _ _ _ _) ?_
      refine aw_imul dX10_strike_38 ?_
      refine aw_eq (show _ = nI (4 * (S.1.2.2.1 - 1)) by rw [pk_mul]) ?_
      refine aw_icmp_geN dX10_strike_39 rfl rfl (by omega) (by omega) (fun h_39 => absurd h_39 (by omega)) (fun h_39 => ?_)
      refine aw_aload_n dX10_strike_42 rfl ?_
      refine gf10_boxes dX10_strike_43 kf10_13 k_176 ?_
      refine aw_eqr (b := 178) rfl ?_
      refine aw_iload_n dX10_strike_46 rfl ?_
      refine aw_aload_n dX10_strike_47 rfl ?_
      refine gf10_boxes dX10_strike_48 kf10_13 k_176 ?_
      refine aw_eqr (b := 178) rfl ?_
      refine aw_iload_n dX10_strike_51 rfl ?_
      refine aw_ic (nI 4) dX10_strike_52 (by decide) ?_
      refine aw_iadd dX10_strike_53 ?_
      refine aw_eq (show _ = nI (i + 4) by rw [nI_add]) ?_
      refine aw_ld (i + 4) dX10_strike_54 k_178 (rfl) (by omega) ?_
      refine aw_sto (i) dX10_strike_55 k_178 (rfl) (by omega) ?_
      refine aw_inc (nI (i + 1)) dX10_strike_56 rfl (Nat.le_of_ble_eq_true rfl) (nI_1 i) ?_
      refine aw_goto dX10_strike_59 ?_
      exact ih _ ⟨by omega, by rw [uA_s, uA_uA, sh4_s hi2]⟩
    · rintro σ2 ⟨hi2, rfl⟩
      refine aw_iload_n dX10_strike_32 rfl ?_
      refine aw_ic (nI 4) dX10_strike_33 (by decide) ?_
      refine aw_aload_n dX10_strike_34 rfl ?_
      refine gf10_boxMany dX10_strike_35 kf10_92 k_176 ?_
      refine aw_eq (uI_s _ _ _ _) ?_
      refine aw_imul dX10_strike_38 ?_
      refine aw_eq (show _ = nI (4 * (S.1.2.2.1 - 1)) by rw [pk_mul]) ?_
      refine aw_icmp_geN dX10_strike_39 rfl rfl (by omega) (by omega) (fun h_39 => ?_) (fun h_39 => absurd h_39 (by omega))
      refine aw_aload_n dX10_strike_62 rfl ?_
      refine aw_ic (nI 0) dX10_strike_63 (by decide) ?_
      refine pf10_isFound dX10_strike_64 kf10_74 k_176 (by decide) ?_
      refine aw_aload_n dX10_strike_67 rfl ?_
      refine gf10_boxMany dX10_strike_68 kf10_92 k_176 ?_
      refine aw_eq ((uI_f (by decide)).trans (uI_s _ _ _ _)) ?_
      exact aw_ireti dX10_strike_71 (InvM.pgJ hI (P := remW S.1 k) (PgS.mk9 ((uI_f (by decide)).trans ((uI_f (by decide)).trans hc)) (fun p w h1 h2 => (congrFun (uA_n (by decide)) _).trans (hp p w h1 h2)) ((uI_f (by decide)).trans (uI_s _ _ _ _)) (fun p w h1 h2 => (congrFun (uA_s _ _ _) _).trans (dRem hw9 p w h1 h2)) ((congrFun (uA_n (by decide)) _).trans hs0) ((congrFun (uA_n (by decide)) _).trans hs1) ((congrFun (uA_n (by decide)) _).trans hs2)) hV.remW (uI_s _ _ _ _) (fun f q h => (uI_k h).trans (uI_k h)) (fun q h => uA_n (by omega)) (by unfold sStrike; rw [e]))

