/-! a table, out of the rules of it -/
def tnr (inT : Nat → Bool) (R : Nat → Nat → Nat) (m : Nat) : Nat := (lnS inT R m).1 0 - 1
def tnc (inT : Nat → Bool) (R : Nat → Nat → Nat) (m : Nat) : Nat := (lnS inT R m).1 1 - 1
def tsd (inT : Nat → Bool) (R : Nat → Nat → Nat) (m rc : Nat) : Nat → Nat → Nat → Bool := fun w r c => anyB (fun k => inT k && hitN (lnS inT R m).2 rc (R k) w r c) m
def tlab (inT : Nat → Bool) (R : Nat → Nat → Nat) (m rc : Nat) : Nat → Nat := labF (tsd inT R m rc) (tnc inT R m) (tnr inT R m * tnc inT R m)
def tcc (inT : Nat → Bool) (R : Nat → Nat → Nat) (m rc : Nat) : Nat := cnt (tlab inT R m rc) (tnr inT R m * tnc inT R m)
def tfc (inT : Nat → Bool) (R : Nat → Nat → Nat) (m rc f : Nat) : Nat := cnt (tlab inT R m rc) (tlab inT R m rc f)
def tc0 (inT : Nat → Bool) (R : Nat → Nat → Nat) (m rc q j : Nat) : Nat := cFold (tnc inT R m) (tlab inT R m rc) (rsq (tlab inT R m rc) (tnr inT R m * tnc inT R m) q) (tnr inT R m * tnc inT R m) j
def tcv (inT : Nat → Bool) (R : Nat → Nat → Nat) (m rc : Nat) : Nat → Nat → Nat := kdO (fun q j => if j = 5 then kbC (tc0 inT R m rc) q else tc0 inT R m rc q j) (opB (tsd inT R m rc) (tnr inT R m) (tnc inT R m) (tfc inT R m rc))
def thd (inT : Nat → Bool) (R : Nat → Nat → Nat) (m rc : Nat) : Nat := hdsN (tnr inT R m) (tnc inT R m) (tfc inT R m rc) (tcv inT R m rc)
/-- the table at o is that of the rules inT -/
def TabOK (σ : SG) (o : Nat) (inT : Nat → Bool) (R : Nat → Nat → Nat) (m rc : Nat) : Prop := LinN σ (o + 1) (lnS inT R m).1 (lnS inT R m).2 ∧ SdN σ o (tnr inT R m) (tnc inT R m) (tsd inT R m rc) ∧ TaC σ o (tnr inT R m) (tnc inT R m) (tcc inT R m rc) (tfc inT R m rc) (tcv inT R m rc) ∧ σ.1 257 o = nI (ctB inT m) ∧ σ.1 267 o = nI (thd inT R m rc)
/-- there is room for the table at o -/
def CapOK (o : Nat) (inT : Nat → Bool) (R : Nat → Nat → Nat) (m : Nat) : Prop := (∀ w, w < 2 → cW inT R w m ≤ ln (o + 1 + 1 + 1 + w)) ∧ 2 ≤ (lnS inT R m).1 0 ∧ 2 ≤ (lnS inT R m).1 1 ∧ tnr inT R m ≤ 21 ∧ tnc inT R m ≤ 21 ∧ (tnr inT R m + 1) * tnc inT R m + tnr inT R m * (tnc inT R m + 1) ≤ ln (o + 6) ∧ tnr inT R m * tnc inT R m ≤ ln (o + 7)
theorem RsN.fr {σ : SG} {m : Nat} {R : Nat → Nat → Nat} (h : RsN σ m R) {J : Nat → Nat → Int32} (hJ : ∀ f q, (kd q = 6 ∨ q = 24) → J f q = σ.1 f q) {A : Nat → Nat → Int32} : RsN (J, A, σ.2.2) m R := by
  refine ⟨(hJ 226 24 (Or.inr rfl)).trans h.1, h.2.1, h.2.2.1, fun k hk => ⟨?_, (h.2.2.2 k hk).2⟩⟩
  have h6 : kd (25 + 1 + σ.2.2 k) = 6 := k_rule (h.2.2.1.1 k (by have := h.2.1; omega))
  have := (h.2.2.2 k hk).1
  unfold RuF at this ⊢
  simp only [hJ _ _ (Or.inl h6)]
  exact this
theorem NcP.tac {σ : SG} {o nr nc : Nat} {lab : Nat → Nat} {B : Nat → Nat → Int32} {L : Nat → Int32} (h : NcP σ o nc lab (nr * nc) B) (hF : Fo (nr * nc) lab L) {I : Nat → Nat → Int32} {π : Nat → Nat} (hT : TaD (I, B, π) o nr nc) (hc : I 263 o = nI (cnt lab (nr * nc))) : TaC (I, B, π) o nr nc (cnt lab (nr * nc)) (fun f => cnt lab (lab f)) (fun q j => cFold nc lab (rsq lab (nr * nc) q) (nr * nc) j) := by
  have hl7 := ln_t7 hT.1
  have hcap : nr * nc ≤ ln (o + 7) := hT.2.2.2.2.2.2.2.2
  have hn1 : 1 ≤ nc := hT.2.2.2.2.1
  have hr2 : nr ≤ 21 := hT.2.2.2.2.2.1
  have hc2 : nc ≤ 21 := hT.2.2.2.2.2.2.1
  refine ⟨hT, hc, cnt_le _ _, fun f hf => ⟨h.1 f hf, ?_⟩, fun q j hq hj => ?_⟩
  · have h1 := hF.le f hf
    exact cnt_lt (hF.idem f hf) (by omega)
  · obtain ⟨a1, a2, a3⟩ := rsq_ok hq
    have h1 := h.2.1 _ a1 a2 j hj
    rw [a3] at h1
    refine ⟨h1, ?_⟩
    have hb := cFold_B (nr := nr) hn1 a2 (nr * nc) a1 (Nat.le_refl _)
    dsimp only
    rcases (show j = 0 ∨ j = 1 ∨ j = 2 ∨ j = 3 ∨ j = 4 ∨ j = 5 ∨ j = 6 by omega) with rfl | rfl | rfl | rfl | rfl | rfl | rfl <;> omega
theorem TaC.fr {I A J B : Nat → Nat → Int32} {π π' : Nat → Nat} {o nr nc cc : Nat} {fc : Nat → Nat} {cv : Nat → Nat → Nat} (h : TaC (I, A, π) o nr nc cc fc cv) (h1 : J 258 o = I 258 o) (h2 : J 259 o = I 259 o) (h3 : J 263 o = I 263 o) (h4 : B (o + 7) = A (o + 7)) (h5 : ∀ j, j < 7 → B (o + 8 + 1 + j) = A (o + 8 + 1 + j)) : TaC (J, B, π') o nr nc cc fc cv := ⟨⟨h.1.1, h1.trans h.1.2.1, h2.trans h.1.2.2.1, h.1.2.2.2⟩, h3.trans h.2.1, h.2.2.1, fun f hf => by show B (o + 7) f = _ ∧ _; rw [h4]; exact h.2.2.2.1 f hf, fun q j hq hj => by show B (o + 8 + 1 + j) q = _ ∧ _; rw [h5 j hj]; exact h.2.2.2.2 q j hq hj⟩
set_option maxHeartbeats 4000000 in
set_option maxRecDepth 100000 in
theorem ct_Table_find {g : GG} {σ : SG} {o t m rc : Nat} {R : Nat → Nat → Nat} {inT : Nat → Bool} (hk : kd o = 8) (hR : RsN σ m R) (hway : ∀ k, k < m → R k 0 ≤ 1) (htb : ∀ k, k < m → (σ.1 200 (25 + 1 + σ.2.2 k) = nI t ↔ inT k = true)) (hcap : CapOK o inT R m) (hRi : Ris (lnS inT R m).1 (lnS inT R m).2) (hln : ∀ k, k < m → inT k = true → ∃ l, l < (lnS inT R m).1 (R k 0) ∧ (lnS inT R m).2 (R k 0) l = R k 1) (hrc : rc ≤ 5) : Ctv g yX8_find cX8_find 5 (rmm 3 76) [.ref (ad g o), .ref (ad g 24), .int (nI t), .int (nI rc), .ref (ad g 22)] σ (fun σ' => ∃ I B, σ' = (I, B, σ.2.2) ∧ (∀ f q, q ≠ o → I f q = σ.1 f q) ∧ (∀ q, q ≠ 23 → (q < o + 3 ∨ o + 15 < q) → B q = σ.2.1 q) ∧ TabOK (I, B, σ.2.2) o inT R m rc ∧ I 266 o = nI 0 ∧ I 265 o = nI 0) := by
  refine ct_of (own := RX8) (lv := [some (.ref (ad g o)), some (.ref (ad g 24)), some (.int (nI t)), some (.int (nI rc)), some (.ref (ad g 22))]) rfl (by decide) (Nat.le_of_ble_eq_true rfl) (by intro u hu; simp only [List.mem_cons, List.not_mem_nil, or_false] at hu; rcases hu with rfl | rfl | rfl | rfl | rfl <;> rfl) (lv_ok [.ref (ad g o), .ref (ad g 24), .int (nI t), .int (nI rc), .ref (ad g 22)] 0) ?_
  obtain ⟨hcw, h20, h21, hnr, hnc, hc6, hc7⟩ := hcap
  have ho : 50 < o := kd_all (P := fun o => 50 < o) 8 (by decide) (by decide +kernel) hk
  have hn0 : (lnS inT R m).1 0 = tnr inT R m + 1 := by unfold tnr; omega
  have hn1 : (lnS inT R m).1 1 = tnc inT R m + 1 := by unfold tnc; omega
  have hl7 := ln_t7 hk
  have hnr1 : 1 ≤ tnr inT R m := by omega
  have hnc1 : 1 ≤ tnc inT R m := by omega
  refine aw_aload_n dX8_find_0 rfl ?_
  refine aw_aload_n dX8_find_1 rfl ?_
  refine aw_iload_n dX8_find_2 rfl ?_
  refine cvv2 dX8_find_3 km8_42 ok_X8_takeLines rfl rfl (by decide) hk (Nat.le_of_ble_eq_true rfl) ⟨Nat.le_of_ble_eq_true rfl, Nat.le_of_ble_eq_true rfl⟩ rfl rfl (ct_takeLines hk hR hway htb hcw h20 h21 hnr hnc hc6 hc7) ?_
  intro σ1 hp_3
  obtain ⟨B1, rfl, hL, hB1⟩ := hp_3
  generalize hI1 : uI (uI (uI σ.1 257 o (nI (ctB inT m))) 258 o (nI ((lnS inT R m).1 0 - 1))) 259 o (nI ((lnS inT R m).1 1 - 1)) = I1 at hL ⊢
  have f1 : ∀ f q, q ≠ o → I1 f q = σ.1 f q := fun f q h => by rw [← hI1]; simp only [uI_o h]
  have e57 : I1 257 o = nI (ctB inT m) := by rw [← hI1]; simp [uI]
  have e58 : I1 258 o = nI (tnr inT R m) := by rw [← hI1]; simp [uI, tnr]
  have e59 : I1 259 o = nI (tnc inT R m) := by rw [← hI1]; simp [uI, tnc]
  have f6 : ∀ f q, (kd q = 6 ∨ q = 24) → I1 f q = σ.1 f q := fun f q h => f1 f q (fun e => by
    rcases h with h | h
    · rw [e, hk] at h
      exact absurd h (by decide)
    · omega)
  have hR1 : RsN (I1, B1, σ.2.2) m R := hR.fr f6
  have htb1 : ∀ k, k < m → (I1 200 (25 + 1 + σ.2.2 k) = nI t ↔ inT k = true) := fun k hk9 => by
    rw [f6 _ _ (Or.inl (k_rule (hR.2.2.1.1 k (by have := hR.2.1; omega))))]
    exact htb k hk9
  have hT1 : ∀ (B : Nat → Nat → Int32), TaD (I1, B, σ.2.2) o (tnr inT R m) (tnc inT R m) := fun _ => ⟨hk, e58, e59, hnr1, hnc1, hnr, hnc, hc6, hc7⟩
  refine aw_aload_n dX8_find_6 rfl ?_
  refine aw_aload_n dX8_find_7 rfl ?_
  refine aw_iload_n dX8_find_8 rfl ?_
  refine aw_iload_n dX8_find_9 rfl ?_
  refine cvv3 dX8_find_10 km8_46 ok_X8_markSides rfl rfl (by decide) hk (Nat.le_of_ble_eq_true rfl) ⟨Nat.le_of_ble_eq_true rfl, Nat.le_of_ble_eq_true rfl⟩ rfl rfl (ct_markSides (rc := rc) (hT1 B1) hR1 hway htb1 hL hn0 hn1 hRi hln hrc) ?_
  intro σ2 hp_10
  obtain ⟨S, rfl, hS⟩ := hp_10
  dsimp only at hS ⊢
  refine aw_aload_n dX8_find_13 rfl ?_
  refine aw_aload dX8_find_14 rfl ?_
  refine cvv1 dX8_find_16 km8_50 ok_X8_joinFields rfl rfl (by decide) hk (Nat.le_of_ble_eq_true rfl) ⟨Nat.le_of_ble_eq_true rfl, Nat.le_of_ble_eq_true rfl⟩ rfl rfl (ct_joinFields (sd := tsd inT R m rc) (hT1 _) hS) ?_
  intro σ3 hp_16
  obtain ⟨L, rfl, hF⟩ := hp_16
  dsimp only
  refine aw_aload_n dX8_find_19 rfl ?_
  refine aw_aload dX8_find_20 rfl ?_
  refine cvv1 dX8_find_22 km8_54 ok_X8_numberCells rfl rfl (by decide) hk (Nat.le_of_ble_eq_true rfl) ⟨Nat.le_of_ble_eq_true rfl, Nat.le_of_ble_eq_true rfl⟩ rfl rfl (ct_numberCells (lab := tlab inT R m rc) (hT1 _) (show Fo _ _ (uA (uA B1 (o + 6) S) 23 L 23) by rw [uA_s]; exact hF)) ?_
  intro σ4 hp_22
  obtain ⟨B4, rfl, hN⟩ := hp_22
  dsimp only at hN ⊢
  have hT4 : TaD (uI I1 263 o (nI (tcc inT R m rc)), B4, σ.2.2) o (tnr inT R m) (tnc inT R m) := ⟨hk, by simp [uI, e58], by simp [uI, e59], hnr1, hnc1, hnr, hnc, hc6, hc7⟩
  have hC4 := hN.tac hF hT4 (uI_s _ _ _ _)
  have hNf : ∀ q, q ≠ o + 7 → (q < o + 9 ∨ o + 15 < q) → B4 q = uA (uA B1 (o + 6) S) 23 L q := hN.2.2
  have hSf : ∀ w r c, sdIn (tnr inT R m) (tnc inT R m) w r c → S (sidx (tnr inT R m) (tnc inT R m) w r c) = (if tsd inT R m rc w r c = true then 1 else 0) := fun w r c hi => by
    have h9 := hS w r c hi
    change uA B1 (o + 6) S (o + 6) _ = _ at h9
    rw [uA_s] at h9
    exact h9
  refine aw_aload_n dX8_find_25 rfl ?_
  refine cvv0 dX8_find_26 km8_57 ok_X8_markBroken rfl rfl (by decide) hk (Nat.le_of_ble_eq_true rfl) ⟨Nat.le_of_ble_eq_true rfl, Nat.le_of_ble_eq_true rfl⟩ rfl rfl (ct_markBroken hC4) ?_
  intro σ5 hp_26
  obtain ⟨S5, rfl, hC5⟩ := hp_26
  dsimp only at hC5 ⊢
  have hB6 : B4 (o + 6) = S := by rw [hNf (o + 6) (by omega) (by omega), uA_n (by omega), uA_s]
  refine aw_aload_n dX8_find_29 rfl ?_
  refine cvv0 dX8_find_30 km8_60 ok_X8_markOpen rfl rfl (by decide) hk (Nat.le_of_ble_eq_true rfl) ⟨Nat.le_of_ble_eq_true rfl, Nat.le_of_ble_eq_true rfl⟩ rfl rfl (ct_markOpen (sd := tsd inT R m rc) hC5 (fun w r c hi => by show uA _ _ _ (o + 6) _ = _; rw [uA_n (by omega), hB6]; exact hSf w r c hi)) ?_
  intro σ6 hp_30
  obtain ⟨S6, rfl, hC6⟩ := hp_30
  dsimp only at hC6 ⊢
  rw [uA_uA] at hC6 ⊢
  have hC7 : TaC (uI I1 263 o (nI (tcc inT R m rc)), uA B4 (o + 8 + 1 + 5) S6, σ.2.2) o (tnr inT R m) (tnc inT R m) (tcc inT R m rc) (tfc inT R m rc) (tcv inT R m rc) := hC6
  refine aw_aload_n dX8_find_33 rfl ?_
  refine aw_aload_n dX8_find_34 rfl ?_
  refine cqi0 dX8_find_35 km8_63 ok_X8_countHeads rfl rfl (by decide) hk (Nat.le_of_ble_eq_true rfl) ⟨Nat.le_of_ble_eq_true rfl, Nat.le_of_ble_eq_true rfl⟩ rfl rfl (ct_countHeads hC7) ?_
  refine pf8_heads dX8_find_38 kf8_67 hk ?_
  refine aw_aload_n dX8_find_41 rfl ?_
  refine aw_ic (nI 0) dX8_find_42 (by decide) ?_
  refine pf8_words dX8_find_43 kf8_71 hk ?_
  refine aw_aload_n dX8_find_46 rfl ?_
  refine aw_ic (nI 0) dX8_find_47 (by decide) ?_
  refine pf8_missedCount dX8_find_48 kf8_74 hk ?_
  exact aw_ret dX8_find_51 (by
      have hB : ∀ q, q ≠ 23 → (q < o + 3 ∨ o + 15 < q) → uA B4 (o + 8 + 1 + 5) S6 q = σ.2.1 q := fun q h1 h2 => by
        rw [uA_n (by omega), hNf q (by omega) (by omega), uA_n (by omega), uA_n (by omega)]
        exact hB1 q (by omega)
      have hB2 : ∀ q, o + 3 ≤ q → q ≤ o + 5 → uA B4 (o + 8 + 1 + 5) S6 q = B1 q := fun q h1 h2 => by
        rw [uA_n (by omega), hNf q (by omega) (by omega), uA_n (by omega), uA_n (by omega)]
      refine ⟨_, _, rfl, fun f q h => ?_, hB, ⟨?_, ?_, ?_, ?_, ?_⟩, ?_, ?_⟩
      · simp only [uI_o h]
        exact f1 f q h
      · exact hL.keep (hB2 (o + 1 + 4) (by omega) (by omega)) (fun w hw => hB2 _ (by omega) (by omega))
      · intro w r c hi
        show uA _ _ _ (o + 6) _ = _
        rw [uA_n (by omega), hB6]
        exact hSf w r c hi
      · exact hC7.fr (by simp [uI]) (by simp [uI]) (by simp [uI, tcc]) rfl (fun _ _ => rfl)
      · simp [uI, e57]
      · simp [uI, thd]
      · simp [uI]
      · simp [uI])

