/-- an int as a place below n -/
def ix (x : Int32) (n : Nat) : Option Nat := if x.toInt < 0 ∨ (n : Int) ≤ x.toInt then none else some x.toInt.toNat
theorem ix_some {k n : Nat} (h : k < n) (hn : n < 2 ^ 31) : ix (nI k) n = some k := by
  unfold ix
  rw [nI_toInt (by omega), if_neg (by omega)]
  rfl
theorem ix_cases (x : Int32) {n : Nat} (hn : n < 2 ^ 31) : ((x < 0 ∨ nI n ≤ x) ∧ ix x n = none) ∨ ∃ k, k < n ∧ x = nI k ∧ ix x n = some k := by
  rcases pk_ix x hn with h | h | ⟨j, hj, rfl⟩
  · refine Or.inl ⟨Or.inl h, ?_⟩
    unfold ix
    rw [Int32.lt_iff_toInt_lt, show (0 : Int32).toInt = 0 by decide] at h
    rw [if_pos (Or.inl h)]
  · refine Or.inl ⟨Or.inr h, ?_⟩
    unfold ix
    rw [Int32.le_iff_toInt_le, nI_toInt hn] at h
    rw [if_pos (Or.inr h)]
  · exact Or.inr ⟨j, hj, rfl, ix_some hj hn⟩
/-! a page: pieces, words, settings -/
abbrev Pg : Type := Nat × (Nat → Nat → Nat) × Nat × (Nat → Nat → Nat) × Nat × Nat × Nat
def PgV (P : Pg) : Prop := P.1 ≤ 24 ∧ (∀ p, p < P.1 → P.2.1 p 0 ≤ 1 ∧ P.2.1 p 2 < P.2.1 p 3) ∧ P.2.2.1 ≤ 20 ∧ P.2.2.2.2.1 ≤ 3 ∧ P.2.2.2.2.2.1 ≤ 9 ∧ P.2.2.2.2.2.2 ≤ 5 ∧ (∀ p w, P.2.1 p w ≤ 99) ∧ ∀ p w, P.2.2.2.1 p w ≤ 99
/-- the page object at o holds P -/
def PgR (σ : SG) (o : Nat) (P : Pg) : Prop := RowN σ (o + 1) P.1 P.2.1 ∧ RowN σ (o + 3) P.2.2.1 P.2.2.2.1 ∧ σ.2.1 (o + 5) 0 = nI P.2.2.2.2.1 ∧ σ.2.1 (o + 5) 1 = nI P.2.2.2.2.2.1 ∧ σ.2.1 (o + 5) 2 = nI P.2.2.2.2.2.2
def PgM (σ : SG) (o : Nat) : Prop := σ.1 161 (o + 1) = nI 24 ∧ σ.1 161 (o + 3) = nI 20
theorem PgR.keep {σ σ' : SG} {o : Nat} {P : Pg} (h : PgR σ o P) (h1 : σ'.1 162 (o + 1) = σ.1 162 (o + 1)) (h2 : σ'.1 162 (o + 3) = σ.1 162 (o + 3)) (h3 : σ'.2.1 (o + 2) = σ.2.1 (o + 2)) (h4 : σ'.2.1 (o + 4) = σ.2.1 (o + 4)) (h5 : σ'.2.1 (o + 5) = σ.2.1 (o + 5)) : PgR σ' o P := ⟨h.1.keep h1 h3, h.2.1.keep h2 h4, by rw [h5]; exact h.2.2.1, by rw [h5]; exact h.2.2.2.1, by rw [h5]; exact h.2.2.2.2⟩
theorem RowN.cp {σ : SG} {o o2 c : Nat} {v : Nat → Nat → Nat} (h : RowN σ o2 c v) (hk : kd o = 5) (hc : 4 * c ≤ ln (o + 1)) {I A : Nat → Nat → Int32} {π : Nat → Nat} (h1 : I 162 o = nI c) {f : Nat → Int32} (h2 : A (o + 1) = cp_ f (σ.2.1 (o2 + 1)) (4 * c)) : RowN (I, A, π) o c v := ⟨hk, h1, hc, fun p w hp hw => by
  show A (o + 1) (4 * p + w) = _ ∧ _
  rw [h2]
  unfold cp_
  rw [if_pos (by omega)]
  exact h.2.2.2 p w hp hw⟩
theorem kPage {o : Nat} (h : kd o = 3) : ln (o + 1 + 1) = 96 ∧ ln (o + 3 + 1) = 80 ∧ ln (o + 5) = 3 ∧ kd (o + 1) = 5 ∧ kd (o + 3) = 5 ∧ kd (o + 5) = 11 := kd_all (P := fun o => ln (o + 1 + 1) = 96 ∧ ln (o + 3 + 1) = 80 ∧ ln (o + 5) = 3 ∧ kd (o + 1) = 5 ∧ kd (o + 3) = 5 ∧ kd (o + 5) = 11) 3 (by decide) (by decide +kernel) h
theorem k3 {o : Nat} (h : kd o = 3) : o = 1 ∨ o = 8 ∨ o = 14 := kd_all (P := fun o => o = 1 ∨ o = 8 ∨ o = 14) 3 (by decide) (by decide +kernel) h
/-- nothing but the page object at o has changed -/
def PgF (σ : SG) (o : Nat) (σ' : SG) : Prop := σ'.2.2 = σ.2.2 ∧ (∀ f q, (f ≠ 162 ∨ (q ≠ o + 1 ∧ q ≠ o + 3)) → σ'.1 f q = σ.1 f q) ∧ ∀ q, (q < o ∨ o + 5 < q) → σ'.2.1 q = σ.2.1 q
set_option maxHeartbeats 4000000 in
set_option maxRecDepth 100000 in
theorem ct_Page_take {g : GG} {σ : SG} {o o2 : Nat} {P : Pg} (hk : kd o = 3) (hk2 : kd o2 = 3) (hne : o2 ≠ o) (hP : PgR σ o2 P) (hV : PgV P) (hM : PgM σ o) (hM2 : PgM σ o2) : Ctv g yX3_take cX3_take 3 (rmm 1 22) [.ref (ad g o), .ref (ad g o2)] σ (fun σ' => PgR σ' o P ∧ PgF σ o σ') := by
  refine ct_of (own := RX3) (lv := [some (.ref (ad g o)), some (.ref (ad g o2)), none]) rfl (by decide) (Nat.le_of_ble_eq_true rfl) (by intro u hu; simp only [List.mem_cons, List.not_mem_nil, or_false] at hu; rcases hu with rfl | rfl <;> rfl) (lv_ok [.ref (ad g o), .ref (ad g o2)] 1) ?_
  obtain ⟨a1, a2, a3, a4, a5, a6⟩ := kPage hk
  obtain ⟨b1, b2, b3, b4, b5, b6⟩ := kPage hk2
  have hoo := k3 hk
  have hoo2 := k3 hk2
  obtain ⟨q1, q2, q3, q4, q5⟩ := hP
  obtain ⟨v1, v2, v3, v4, v5, v6, v7, v8⟩ := hV
  refine aw_aload_n dX3_take_0 rfl ?_
  refine gf3_pieces dX3_take_1 kf3_14 hk ?_
  refine aw_aload_n dX3_take_4 rfl ?_
  refine gf3_pieces dX3_take_5 kf3_14 hk2 ?_
  refine cvv1 dX3_take_8 km3_35 ok_X5_take rfl rfl (by decide) (kf_3_pieces hk) (Nat.le_of_ble_eq_true rfl) ⟨Nat.le_of_ble_eq_true rfl, Nat.le_of_ble_eq_true rfl⟩ rfl rfl (ct_Rows_take (kf_3_pieces hk) (kf_3_pieces hk2) (by omega) (by rw [hM2.1]; exact hM.1.symm) q1.2.1 (by omega) q1.2.2.1) ?_
  intro σ1 hp_8
  subst hp_8
  refine aw_aload_n dX3_take_11 rfl ?_
  refine gf3_words dX3_take_12 kf3_20 hk ?_
  refine aw_aload_n dX3_take_15 rfl ?_
  refine gf3_words dX3_take_16 kf3_20 hk2 ?_
  refine cvv1 dX3_take_19 km3_35 ok_X5_take rfl rfl (by decide) (kf_3_words hk) (Nat.le_of_ble_eq_true rfl) ⟨Nat.le_of_ble_eq_true rfl, Nat.le_of_ble_eq_true rfl⟩ rfl rfl (ct_Rows_take (c := P.2.2.1) (kf_3_words hk) (kf_3_words hk2) (by omega) (by show (uI σ.1 162 (o + 1) (nI P.1)) 161 (o2 + 3) = (uI σ.1 162 (o + 1) (nI P.1)) 161 (o + 3); rw [uI_f (by decide), uI_f (by decide), hM2.2]; exact hM.2.symm) (by show (uI σ.1 162 (o + 1) (nI P.1)) 162 (o2 + 3) = _; rw [uI_o (by omega)]; exact q2.2.1) (by omega) q2.2.2.1) ?_
  intro σ2 hp_19
  subst hp_19
  dsimp only
  refine aw_sg (show _ = (uI (uI σ.1 162 (o + 1) (nI P.1)) 162 (o + 3) (nI P.2.2.1), uA (uA σ.2.1 (o + 1 + 1) (cp_ (σ.2.1 (o + 1 + 1)) (σ.2.1 (o2 + 1 + 1)) (4 * P.1))) (o + 3 + 1) (cp_ (σ.2.1 (o + 3 + 1)) (σ.2.1 (o2 + 3 + 1)) (4 * P.2.2.1)), σ.2.2) by rw [uA_n (show o + 3 + 1 ≠ o + 1 + 1 by omega), uA_n (show o2 + 3 + 1 ≠ o + 1 + 1 by omega)]) ?_
  generalize hI1 : uI (uI σ.1 162 (o + 1) (nI P.1)) 162 (o + 3) (nI P.2.2.1) = I1
  generalize hA1 : uA (uA σ.2.1 (o + 1 + 1) (cp_ (σ.2.1 (o + 1 + 1)) (σ.2.1 (o2 + 1 + 1)) (4 * P.1))) (o + 3 + 1) (cp_ (σ.2.1 (o + 3 + 1)) (σ.2.1 (o2 + 3 + 1)) (4 * P.2.2.1)) = A1
  refine aw_ic (nI 0) dX3_take_22 (by decide) ?_
  refine aw_istore_n dX3_take_23 (Nat.le_of_ble_eq_true rfl) ?_
  have hA1q : ∀ q, q ≠ o + 2 → q ≠ o + 4 → A1 q = σ.2.1 q := fun q h1 h2 => by rw [← hA1, uA_n (by omega), uA_n (by omega)]
  refine for_up (fun i σ' => σ' = (I1, uA A1 (o + 5) (cp_ (A1 (o + 5)) (A1 (o2 + 5)) i), σ.2.2)) (fun i => [some (.ref (ad g o)), some (.ref (ad g o2)), some (.int (nI i))]) 3 ?_ ?_ 0 _ (Nat.zero_le _) (by rw [cp_0, uA_same])
  · rintro i σ2 hi rfl ih
    refine aw_iload_n dX3_take_24 rfl ?_
    refine aw_firstS dX3_take_25 rfl ?_
    refine aw_firstL dX3_take_28 ?_
    refine aw_icmp_geN dX3_take_29 rfl (b := 3) rfl (by omega) (by omega) (fun h_29 => absurd h_29 (by omega)) (fun h_29 => ?_)
    refine aw_aload_n dX3_take_32 rfl ?_
    refine gf3_settings dX3_take_33 kf3_32 hk ?_
    refine aw_iload_n dX3_take_36 rfl ?_
    refine aw_aload_n dX3_take_37 rfl ?_
    refine gf3_settings dX3_take_38 kf3_32 hk2 ?_
    refine aw_iload_n dX3_take_41 rfl ?_
    refine aw_ld (i) dX3_take_42 (kf_3_settings hk2) (rfl) (by omega) ?_
    refine aw_eq (show _ = A1 (o2 + 5) i by rw [uA_n (by omega)]) ?_
    refine aw_sto (i) dX3_take_43 (kf_3_settings hk) (rfl) (by omega) ?_
    refine aw_inc (nI (i + 1)) dX3_take_44 rfl (Nat.le_of_ble_eq_true rfl) (nI_1 i) ?_
    refine aw_goto dX3_take_47 ?_
    exact ih _ (by rw [uA_s, uA_uA, cp_s])
  · rintro σ2 rfl
    refine aw_iload_n dX3_take_24 rfl ?_
    refine aw_firstS dX3_take_25 rfl ?_
    refine aw_firstL dX3_take_28 ?_
    refine aw_icmp_geN dX3_take_29 rfl (b := 3) rfl (by omega) (by omega) (fun h_29 => ?_) (fun h_29 => absurd h_29 (by omega))
    exact aw_ret dX3_take_50 (by
        have c5 : ∀ k, k < 3 → uA A1 (o + 5) (cp_ (A1 (o + 5)) (A1 (o2 + 5)) 3) (o + 5) k = σ.2.1 (o2 + 5) k := fun k hk9 => by
          rw [uA_s]
          unfold cp_
          rw [if_pos hk9, hA1q _ (by omega) (by omega)]
        refine ⟨⟨q1.cp a4 (by omega) (by rw [← hI1, uI_o (by omega), uI_s]) (f := σ.2.1 (o + 1 + 1)) ?_, q2.cp a5 (by omega) (by rw [← hI1, uI_s]) (f := σ.2.1 (o + 3 + 1)) ?_, (c5 0 (by decide)).trans q3, (c5 1 (by decide)).trans q4, (c5 2 (by decide)).trans q5⟩, rfl, fun f q h => ?_, fun q h => ?_⟩
        · rw [uA_n (by omega), ← hA1, uA_n (by omega), uA_s]
        · rw [uA_n (by omega), ← hA1, uA_s]
        · rw [← hI1]
          show (if _ then _ else (if _ then _ else _)) = _
          rw [if_neg (by omega), if_neg (by omega)]
        · show uA A1 (o + 5) _ q = _
          rw [uA_n (by omega)]
          exact hA1q q (by omega) (by omega))

