/-- the lines a, a + 1 .. (n of them) of a way in a cell that are missed, in order -/
def misL (kc : Nat → Bool) (q w a : Nat) : Nat → List (Nat × Nat × Nat)
  | 0 => []
  | n + 1 => misL kc q w a n ++ (if kc (a + n) = true then [(q, w, a + n)] else [])
theorem misL_le (kc : Nat → Bool) (q w a : Nat) : ∀ n, (misL kc q w a n).length ≤ n
  | 0 => Nat.le_refl _
  | n + 1 => by
    have := misL_le kc q w a n
    unfold misL
    rw [List.length_append]
    split <;> simp <;> omega
/-- only what is missed has changed -/
def MiF (σ : SG) (o : Nat) (σ' : SG) (l : List (Nat × Nat × Nat)) : Prop := ∃ J B, σ' = (J, B, σ.2.2) ∧ (∀ f p, (f ≠ 265 ∨ p ≠ o) → J f p = σ.1 f p) ∧ (∀ p, (p < o + 17 ∨ o + 19 < p) → B p = σ.2.1 p) ∧ MiN (J, B, σ.2.2) o l
theorem MiF.tac {σ σ' : SG} {o nr nc cc : Nat} {l : List (Nat × Nat × Nat)} {fc : Nat → Nat} {cv : Nat → Nat → Nat} (h : MiF σ o σ' l) (hC : TaC σ o nr nc cc fc cv) : TaC σ' o nr nc cc fc cv := by
  obtain ⟨J, B, rfl, h1, h2, -⟩ := h
  exact TaC.fr (I := σ.1) (A := σ.2.1) (π := σ.2.2) hC (h1 _ _ (Or.inl (by decide))) (h1 _ _ (Or.inl (by decide))) (h1 _ _ (Or.inl (by decide))) (h2 _ (by omega)) (fun j hj => h2 _ (by omega))
theorem MiF.lin {σ σ' : SG} {o : Nat} {l : List (Nat × Nat × Nat)} {n : Nat → Nat} {pl : Nat → Nat → Nat} (h : MiF σ o σ' l) (hL : LinN σ (o + 1) n pl) : LinN σ' (o + 1) n pl := by
  obtain ⟨J, B, rfl, h1, h2, -⟩ := h
  exact hL.keep (h2 _ (by omega)) (fun w hw => h2 _ (by omega))
theorem MiF.trans {σ σ' σ'' : SG} {o : Nat} {l l' : List (Nat × Nat × Nat)} (h : MiF σ o σ' l) (h' : MiF σ' o σ'' l') : MiF σ o σ'' l' := by
  obtain ⟨J, B, rfl, h1, h2, -⟩ := h
  obtain ⟨J2, B2, rfl, h3, h4, h5⟩ := h'
  exact ⟨J2, B2, rfl, fun f p q => (h3 f p q).trans (h1 f p q), fun p q => (h4 p q).trans (h2 p q), h5⟩
theorem ho8 {o : Nat} (h : kd o = 8) : 51 < o ∧ o + 19 < 172 := kd_all (P := fun o => 51 < o ∧ o + 19 < 172) 8 (by decide) (by decide +kernel) h
/-- what the words of a page are to a table: in which table and cell each is -/
def WdN (σ : SG) (c : Nat) (wd : Nat → Nat → Nat) (t : Nat) (inn : Nat → Nat → Bool) : Prop := RowN σ 4 c wd ∧ σ.1 131 172 = nI c ∧ c ≤ 20 ∧ ∀ q x, q < 999 → x < c → ((σ.2.1 173 x = nI t ∧ σ.2.1 174 x = nI q) ↔ inn q x = true)
theorem MiF.wdn {σ σ' : SG} {o c t : Nat} {l : List (Nat × Nat × Nat)} {wd : Nat → Nat → Nat} {inn : Nat → Nat → Bool} (h : MiF σ o σ' l) (hk : kd o = 8) (hW : WdN σ c wd t inn) : WdN σ' c wd t inn := by
  obtain ⟨J, B, rfl, h1, h2, -⟩ := h
  have ho := ho8 hk
  refine ⟨hW.1.keep (h1 162 4 (Or.inl (by decide))) (h2 _ (by omega)), (h1 131 172 (Or.inl (by decide))).trans hW.2.1, hW.2.2.1, fun q x hq9 hx => ?_⟩
  show (B 173 x = nI t ∧ B 174 x = nI q) ↔ _
  rw [h2 173 (by omega), h2 174 (by omega)]
  exact hW.2.2.2 q x hq9 hx
theorem ct_keepClear {g : GG} {σ : SG} {c p t q w : Nat} {wd : Nat → Nat → Nat} {inn : Nat → Nat → Bool} (hW : WdN σ c wd t inn) (hp : p ≤ 99) (hw : w < 2) (hq9 : q < 999) : Cti g yX4_keepClear cX4_keepClear 11 (some .boolean) (rmm 1 23) [.ref (ad g 172), .ref (ad g 4), .int (nI t), .int (nI q), .int (nI w), .int (nI p)] σ (fun r σ' => r = (if kcN wd (inn q) c w p = true then 1 else 0) ∧ σ' = σ) := by
  rcases (show w = 0 ∨ w = 1 by omega) with rfl | rfl
  · exact ct_keepClear0 hW.1 hW.2.1 hW.2.2.1 hp (nI t) (nI q) (fun x hx => hW.2.2.2 q x hq9 hx)
  · exact ct_keepClear1 hW.1 hW.2.1 hW.2.2.1 hp (nI t) (nI q) (fun x hx => hW.2.2.2 q x hq9 hx)
set_option maxHeartbeats 4000000 in
set_option maxRecDepth 100000 in
theorem ct_findMissedIn {g : GG} {σ : SG} {o nr nc cc q w t c : Nat} {fc n : Nat → Nat} {cv pl wd : Nat → Nat → Nat} {inn : Nat → Nat → Bool} {l : List (Nat × Nat × Nat)} (hC : TaC σ o nr nc cc fc cv) (hL : LinN σ (o + 1) n pl) (hW : WdN σ c wd t inn) (hq : q < cc) (hw : w < 2) (hsp : cv q w + cv q (2 + w) ≤ n w - 1) (hsp1 : 1 ≤ cv q (2 + w)) (hM : MiN σ o l) (hroom : l.length + (cv q (2 + w) - 1) ≤ ln (o + 7)) : Ctv g yX8_findMissedIn cX8_findMissedIn 9 (rmm 2 53) [.ref (ad g o), .int (nI q), .int (nI w), .ref (ad g 4), .ref (ad g 172), .int (nI t)] σ (fun σ' => MiF σ o σ' (l ++ misL (fun l => kcN wd (inn q) c w (pl w l)) q w (cv q w + 1) (cv q (2 + w) - 1))) := by
  refine ct_of (own := RX8) (lv := [some (.ref (ad g o)), some (.int (nI q)), some (.int (nI w)), some (.ref (ad g 4)), some (.ref (ad g 172)), some (.int (nI t)), none, none, none]) rfl (by decide) (Nat.le_of_ble_eq_true rfl) (by intro u hu; simp only [List.mem_cons, List.not_mem_nil, or_false] at hu; rcases hu with rfl | rfl | rfl | rfl | rfl | rfl <;> rfl) (lv_ok [.ref (ad g o), .int (nI q), .int (nI w), .ref (ad g 4), .ref (ad g 172), .int (nI t)] 3) ?_
  have hC0 := hC
  obtain ⟨hT0, hcc, hccl, hfc, hcv⟩ := hC
  have hk := hT0.1
  have hl8 := (ln_t8 hk).1
  have hl7 := ln_t7 hk
  have ew := (ln_t9 hk (show w < 7 by omega)).1
  have ew2 := (ln_t9 hk (show 2 + w < 7 by omega)).1
  have hcap : nr * nc ≤ ln (o + 7) := hT0.2.2.2.2.2.2.2.2
  obtain ⟨v1, b1⟩ := hcv q w hq (by omega)
  obtain ⟨v2, b2⟩ := hcv q (2 + w) hq (by omega)
  have hlr := (hL.2 w hw).2.1
  have hlr2 := ln_row2 (kf_8_lines hk) hw
  refine aw_aload_n dX8_findMissedIn_0 rfl ?_
  refine gf8_cells dX8_findMissedIn_1 kf8_36 hk ?_
  refine aw_ic (nI 0) dX8_findMissedIn_4 (by decide) ?_
  refine aw_iload_n dX8_findMissedIn_5 rfl ?_
  refine aw_iadd dX8_findMissedIn_6 ?_
  refine aw_eq (show _ = nI w by rw [nI_add, Nat.zero_add]) ?_
  refine aw_ald16 (w) dX8_findMissedIn_7 (kf_8_cells hk) (rfl) (by omega) ?_
  refine aw_iload_n dX8_findMissedIn_8 rfl ?_
  refine aw_ld (q) dX8_findMissedIn_9 (ln_t9 hk (show w < 7 by omega)).2 (rfl) (by omega) ?_
  refine aw_eq v1 ?_
  refine aw_istore dX8_findMissedIn_10 (Nat.le_of_ble_eq_true rfl) ?_
  refine aw_iload dX8_findMissedIn_12 rfl ?_
  refine aw_aload_n dX8_findMissedIn_14 rfl ?_
  refine gf8_cells dX8_findMissedIn_15 kf8_36 hk ?_
  refine aw_ic (nI 2) dX8_findMissedIn_18 (by decide) ?_
  refine aw_iload_n dX8_findMissedIn_19 rfl ?_
  refine aw_iadd dX8_findMissedIn_20 ?_
  refine aw_eq (nI_add 2 w) ?_
  refine aw_ald16 (2 + w) dX8_findMissedIn_21 (kf_8_cells hk) (rfl) (by omega) ?_
  refine aw_iload_n dX8_findMissedIn_22 rfl ?_
  refine aw_ld (q) dX8_findMissedIn_23 (ln_t9 hk (show 2 + w < 7 by omega)).2 (rfl) (by omega) ?_
  refine aw_eq v2 ?_
  refine aw_iadd dX8_findMissedIn_24 ?_
  refine aw_eq (nI_add _ _) ?_
  refine aw_istore dX8_findMissedIn_25 (Nat.le_of_ble_eq_true rfl) ?_
  refine aw_iload dX8_findMissedIn_27 rfl ?_
  refine aw_ic (nI 1) dX8_findMissedIn_29 (by decide) ?_
  refine aw_iadd dX8_findMissedIn_30 ?_
  refine aw_eq (nI_1 _) ?_
  refine aw_istore dX8_findMissedIn_31 (Nat.le_of_ble_eq_true rfl) ?_
  refine for_up (fun i σ' => MiF σ o σ' (l ++ misL (fun l => kcN wd (inn q) c w (pl w l)) q w (cv q w + 1) i)) (fun i => [some (.ref (ad g o)), some (.int (nI q)), some (.int (nI w)), some (.ref (ad g 4)), some (.ref (ad g 172)), some (.int (nI t)), some (.int (nI (cv q w))), some (.int (nI (cv q w + cv q (2 + w)))), some (.int (nI (cv q w + 1 + i)))]) (cv q (2 + w) - 1) ?_ ?_ 0 σ (Nat.zero_le _) ⟨σ.1, σ.2.1, rfl, fun _ _ _ => rfl, fun _ _ => rfl, by rw [show misL (fun l => kcN wd (inn q) c w (pl w l)) q w (cv q w + 1) 0 = [] from rfl, List.append_nil]; exact hM⟩
  · rintro i σ2 hi hF ih
    have hL2 := hF.lin hL
    have hW2 := hF.wdn hk hW
    have hml := misL_le (fun l => kcN wd (inn q) c w (pl w l)) q w (cv q w + 1) i
    have hpl := ((hL2.2 w hw).2.2 (cv q w + 1 + i) (by omega)).2
    refine aw_iload dX8_findMissedIn_33 rfl ?_
    refine aw_iload dX8_findMissedIn_35 rfl ?_
    refine aw_icmp_geN dX8_findMissedIn_37 rfl rfl (by omega) (by omega) (fun h_37 => absurd h_37 (by omega)) (fun h_37 => ?_)
    refine aw_aload dX8_findMissedIn_40 rfl ?_
    refine aw_aload_n dX8_findMissedIn_42 rfl ?_
    refine aw_iload dX8_findMissedIn_43 rfl ?_
    refine aw_iload_n dX8_findMissedIn_45 rfl ?_
    refine aw_iload_n dX8_findMissedIn_46 rfl ?_
    refine aw_aload_n dX8_findMissedIn_47 rfl ?_
    refine gf8_lines dX8_findMissedIn_48 kf8_20 hk ?_
    refine aw_iload_n dX8_findMissedIn_51 rfl ?_
    refine aw_iload dX8_findMissedIn_52 rfl ?_
    refine cqi2 dX8_findMissedIn_54 km8_131 ok_X2_placeOf rfl rfl (by decide) (kf_8_lines hk) (Nat.le_of_ble_eq_true rfl) ⟨Nat.le_of_ble_eq_true rfl, Nat.le_of_ble_eq_true rfl⟩ rfl rfl (ct_Lines_placeOf (k := cv q w + 1 + i) hL2 hw (by omega)) ?_
    refine cqi5 dX8_findMissedIn_57 km8_185 ok_X4_keepClear rfl rfl (by decide) k_172 (Nat.le_of_ble_eq_true rfl) ⟨Nat.le_of_ble_eq_true rfl, Nat.le_of_ble_eq_true rfl⟩ rfl rfl (ct_keepClear (q := q) hW2 hpl hw (by omega)) ?_
    refine aw_if_eqB dX8_findMissedIn_60 rfl (fun h_60 => ?_) (fun h_60 => ?_)
    · skip
      refine aw_inc (nI (cv q w + 1 + (i + 1))) dX8_findMissedIn_71 rfl (Nat.le_of_ble_eq_true rfl) (nI_1 _) ?_
      refine aw_goto dX8_findMissedIn_74 ?_
      refine ih _ ?_
      have e : misL (fun l => kcN wd (inn q) c w (pl w l)) q w (cv q w + 1) (i + 1) = misL (fun l => kcN wd (inn q) c w (pl w l)) q w (cv q w + 1) i ++ [] := by
        show _ ++ (if _ then _ else _) = _
        rw [if_neg h_60]
      rw [e, List.append_nil]
      exact hF
    · skip
      refine aw_aload_n dX8_findMissedIn_63 rfl ?_
      refine aw_iload_n dX8_findMissedIn_64 rfl ?_
      refine aw_iload_n dX8_findMissedIn_65 rfl ?_
      refine aw_iload dX8_findMissedIn_66 rfl ?_
      obtain ⟨J, B, rfl, g1, g2, g3⟩ := id hF
      refine cvv3 dX8_findMissedIn_68 km8_191 ok_X8_addMissed rfl rfl (by decide) hk (Nat.le_of_ble_eq_true rfl) ⟨Nat.le_of_ble_eq_true rfl, Nat.le_of_ble_eq_true rfl⟩ rfl rfl (ct_addMissed (q := q) (w := w) (li := cv q w + 1 + i) hk g3 (by rw [List.length_append]; omega)) ?_
      intro σ3 hp_68
      obtain ⟨B3, rfl, g4, g5⟩ := hp_68
      have hF3 : MiF (J, B, σ.2.2) o (uI J 265 o (nI ((l ++ misL (fun l => kcN wd (inn q) c w (pl w l)) q w (cv q w + 1) i).length + 1)), B3, σ.2.2) ((l ++ misL (fun l => kcN wd (inn q) c w (pl w l)) q w (cv q w + 1) i) ++ [(q, w, cv q w + 1 + i)]) := ⟨_, _, rfl, fun f p h => by unfold uI; rw [if_neg (by omega)], g5, g4⟩
      refine aw_inc (nI (cv q w + 1 + (i + 1))) dX8_findMissedIn_71 rfl (Nat.le_of_ble_eq_true rfl) (nI_1 _) ?_
      refine aw_goto dX8_findMissedIn_74 ?_
      refine ih _ ?_
      have e : misL (fun l => kcN wd (inn q) c w (pl w l)) q w (cv q w + 1) (i + 1) = misL (fun l => kcN wd (inn q) c w (pl w l)) q w (cv q w + 1) i ++ [(q, w, cv q w + 1 + i)] := by
        show _ ++ (if _ then _ else _) = _
        rw [if_pos h_60]
      rw [e, ← List.append_assoc]
      exact hF.trans hF3
  · rintro σ2 hF
    refine aw_iload dX8_findMissedIn_33 rfl ?_
    refine aw_iload dX8_findMissedIn_35 rfl ?_
    refine aw_icmp_geN dX8_findMissedIn_37 rfl rfl (by omega) (by omega) (fun h_37 => ?_) (fun h_37 => absurd h_37 (by omega))
    exact aw_ret dX8_findMissedIn_77 (hF)

/-- all that is missed in the cells below n -/
def misC (wd : Nat → Nat → Nat) (inn : Nat → Nat → Bool) (c : Nat) (pl cv : Nat → Nat → Nat) : Nat → List (Nat × Nat × Nat)
  | 0 => []
  | q + 1 => if cv q 5 = 0 then (misC wd inn c pl cv q ++ misL (fun l => kcN wd (inn q) c 1 (pl 1 l)) q 1 (cv q 1 + 1) (cv q 3 - 1)) ++ misL (fun l => kcN wd (inn q) c 0 (pl 0 l)) q 0 (cv q 0 + 1) (cv q 2 - 1) else misC wd inn c pl cv q
def misM (cv : Nat → Nat → Nat) : Nat → Nat
  | 0 => 0
  | q + 1 => misM cv q + (if cv q 5 = 0 then (cv q 3 - 1) + (cv q 2 - 1) else 0)
theorem misM_mono (cv : Nat → Nat → Nat) {a b : Nat} (h : a ≤ b) : misM cv a ≤ misM cv b := by
  induction b with
  | zero => rw [show a = 0 by omega]; exact Nat.le_refl _
  | succ b ih =>
    rcases Nat.lt_or_ge a (b + 1) with q | q
    · have := ih (by omega)
      show misM cv a ≤ misM cv b + _
      omega
    · rw [show a = b + 1 by omega]; exact Nat.le_refl _
theorem misC_le (wd : Nat → Nat → Nat) (inn : Nat → Nat → Bool) (c : Nat) (pl cv : Nat → Nat → Nat) : ∀ q, (misC wd inn c pl cv q).length ≤ misM cv q
  | 0 => Nat.le_refl _
  | q + 1 => by
    have ih := misC_le wd inn c pl cv q
    have h1 := misL_le (fun l => kcN wd (inn q) c 1 (pl 1 l)) q 1 (cv q 1 + 1) (cv q 3 - 1)
    have h0 := misL_le (fun l => kcN wd (inn q) c 0 (pl 0 l)) q 0 (cv q 0 + 1) (cv q 2 - 1)
    unfold misC misM
    split
    · rw [List.length_append, List.length_append]
      omega
    · omega
set_option maxHeartbeats 4000000 in
set_option maxRecDepth 100000 in
theorem ct_findMissed {g : GG} {σ : SG} {o nr nc cc t c : Nat} {fc n : Nat → Nat} {cv pl wd : Nat → Nat → Nat} {inn : Nat → Nat → Bool} (hC : TaC σ o nr nc cc fc cv) (hL : LinN σ (o + 1) n pl) (hW : WdN σ c wd t inn) (hsp : ∀ q w, q < cc → w < 2 → cv q w + cv q (2 + w) ≤ n w - 1 ∧ 1 ≤ cv q (2 + w)) (hM : MiN σ o []) (hroom : misM cv cc ≤ ln (o + 7)) : Ctv g yX8_findMissed cX8_findMissed 5 (rmm 3 81) [.ref (ad g o), .ref (ad g 4), .ref (ad g 172), .int (nI t)] σ (fun σ' => MiF σ o σ' (misC wd inn c pl cv cc)) := by
  refine ct_of (own := RX8) (lv := [some (.ref (ad g o)), some (.ref (ad g 4)), some (.ref (ad g 172)), some (.int (nI t)), none]) rfl (by decide) (Nat.le_of_ble_eq_true rfl) (by intro u hu; simp only [List.mem_cons, List.not_mem_nil, or_false] at hu; rcases hu with rfl | rfl | rfl | rfl <;> rfl) (lv_ok [.ref (ad g o), .ref (ad g 4), .ref (ad g 172), .int (nI t)] 1) ?_
  have hC0 := hC
  have hcc := hC.2.1
  have hccl := hC.2.2.1
  have hk := hC.1.1
  have hl8 := (ln_t8 hk).1
  have hl7 := ln_t7 hk
  have e95 := (ln_t9 hk (show 5 < 7 by decide)).1
  have hcap : nr * nc ≤ ln (o + 7) := hC.1.2.2.2.2.2.2.2.2
  refine aw_ic (nI 0) dX8_findMissed_0 (by decide) ?_
  refine aw_istore dX8_findMissed_1 (Nat.le_of_ble_eq_true rfl) ?_
  refine for_up (fun i σ' => MiF σ o σ' (misC wd inn c pl cv i)) (fun i => [some (.ref (ad g o)), some (.ref (ad g 4)), some (.ref (ad g 172)), some (.int (nI t)), some (.int (nI i))]) cc ?_ ?_ 0 σ (Nat.zero_le _) ⟨σ.1, σ.2.1, rfl, fun _ _ _ => rfl, fun _ _ => rfl, hM⟩
  · rintro q σ2 hi hF ih
    have hC2 := hF.tac hC
    have hL2 := hF.lin hL
    have hW2 := hF.wdn hk hW
    obtain ⟨v5, b5⟩ := hC2.2.2.2.2 q 5 hi (by decide)
    have hmm := misM_mono cv (show q + 1 ≤ cc by omega)
    have hmc := misC_le wd inn c pl cv q
    have hms : misM cv (q + 1) = misM cv q + (if cv q 5 = 0 then (cv q 3 - 1) + (cv q 2 - 1) else 0) := rfl
    have hM2 : MiN σ2 o (misC wd inn c pl cv q) := by obtain ⟨J, B, rfl, -, -, h⟩ := id hF; exact h
    have hs1 := hsp q 1 hi (by decide)
    have hs0 := hsp q 0 hi (by decide)
    have hcc2 := hC2.2.1
    refine aw_iload dX8_findMissed_3 rfl ?_
    refine aw_aload_n dX8_findMissed_5 rfl ?_
    refine gf8_cellCount dX8_findMissed_6 kf8_149 hk ?_
    refine aw_eq hcc2 ?_
    refine aw_icmp_geN dX8_findMissed_9 rfl rfl (by omega) (by omega) (fun h_9 => absurd h_9 (by omega)) (fun h_9 => ?_)
    refine aw_aload_n dX8_findMissed_12 rfl ?_
    refine gf8_cells dX8_findMissed_13 kf8_36 hk ?_
    refine aw_ic (nI 5) dX8_findMissed_16 (by decide) ?_
    refine aw_ald16 (5) dX8_findMissed_17 (kf_8_cells hk) (rfl) (by omega) ?_
    refine aw_iload dX8_findMissed_18 rfl ?_
    refine aw_ld (q) dX8_findMissed_20 (ln_t9 hk (show 5 < 7 by decide)).2 (rfl) (by omega) ?_
    refine aw_eq v5 ?_
    refine aw_if_neN dX8_findMissed_21 rfl (by omega) (fun h_21 => ?_) (fun h_21 => ?_)
    · skip
      refine aw_inc (nI (q + 1)) dX8_findMissed_44 rfl (Nat.le_of_ble_eq_true rfl) (nI_1 q) ?_
      refine aw_goto dX8_findMissed_47 ?_
      refine ih _ ?_
      have e : misC wd inn c pl cv (q + 1) = misC wd inn c pl cv q := if_neg h_21
      rw [e]
      exact hF
    · skip
      refine aw_aload_n dX8_findMissed_24 rfl ?_
      refine aw_iload dX8_findMissed_25 rfl ?_
      refine aw_ic (nI 1) dX8_findMissed_27 (by decide) ?_
      refine aw_aload_n dX8_findMissed_28 rfl ?_
      refine aw_aload_n dX8_findMissed_29 rfl ?_
      refine aw_iload_n dX8_findMissed_30 rfl ?_
      rw [if_pos h_21] at hms
      refine cvv5 dX8_findMissed_31 km8_181 ok_X8_findMissedIn rfl rfl (by decide) hk (Nat.le_of_ble_eq_true rfl) ⟨Nat.le_of_ble_eq_true rfl, Nat.le_of_ble_eq_true rfl⟩ rfl rfl (ct_findMissedIn (q := q) (w := 1) hC2 hL2 hW2 hi (by decide) hs1.1 hs1.2 hM2 (by show _ + (cv q 3 - 1) ≤ _; omega)) ?_
      intro σ3 hp_31
      have h3 := misL_le (fun l => kcN wd (inn q) c 1 (pl 1 l)) q 1 (cv q 1 + 1) (cv q 3 - 1)
      have hM3 : MiN σ3 o (misC wd inn c pl cv q ++ misL (fun l => kcN wd (inn q) c 1 (pl 1 l)) q 1 (cv q 1 + 1) (cv q 3 - 1)) := by obtain ⟨J, B, rfl, -, -, h⟩ := id hp_31; exact h
      refine aw_aload_n dX8_findMissed_34 rfl ?_
      refine aw_iload dX8_findMissed_35 rfl ?_
      refine aw_ic (nI 0) dX8_findMissed_37 (by decide) ?_
      refine aw_aload_n dX8_findMissed_38 rfl ?_
      refine aw_aload_n dX8_findMissed_39 rfl ?_
      refine aw_iload_n dX8_findMissed_40 rfl ?_
      refine cvv5 dX8_findMissed_41 km8_181 ok_X8_findMissedIn rfl rfl (by decide) hk (Nat.le_of_ble_eq_true rfl) ⟨Nat.le_of_ble_eq_true rfl, Nat.le_of_ble_eq_true rfl⟩ rfl rfl (ct_findMissedIn (q := q) (w := 0) (hp_31.tac hC2) (hp_31.lin hL2) (hp_31.wdn hk hW2) hi (by decide) hs0.1 hs0.2 hM3 (by rw [List.length_append]; show _ + (cv q 2 - 1) ≤ _; omega)) ?_
      intro σ4 hp_41
      refine aw_inc (nI (q + 1)) dX8_findMissed_44 rfl (Nat.le_of_ble_eq_true rfl) (nI_1 q) ?_
      refine aw_goto dX8_findMissed_47 ?_
      refine ih _ ?_
      have e : misC wd inn c pl cv (q + 1) = _ := if_pos h_21
      rw [e]
      exact (hF.trans hp_31).trans hp_41
  · rintro σ2 hF
    have hcc2 := (hF.tac hC).2.1
    refine aw_iload dX8_findMissed_3 rfl ?_
    refine aw_aload_n dX8_findMissed_5 rfl ?_
    refine gf8_cellCount dX8_findMissed_6 kf8_149 hk ?_
    refine aw_eq hcc2 ?_
    refine aw_icmp_geN dX8_findMissed_9 rfl rfl (by omega) (by omega) (fun h_9 => ?_) (fun h_9 => absurd h_9 (by omega))
    exact aw_ret dX8_findMissed_50 (hF)

set_option maxHeartbeats 4000000 in
set_option maxRecDepth 100000 in
theorem ct_drawMissed {g : GG} {σ : SG} {o nr nc cc k q w li c : Nat} {fc n : Nat → Nat} {cv pl : Nat → Nat → Nat} {l : List (Nat × Nat × Nat)} (hC : TaC σ o nr nc cc fc cv) (hL : LinN σ (o + 1) n pl) (hM : MiN σ o l) (hln : l.length ≤ ln (o + 7)) (hke : l[k]? = some (q, w, li)) (hq : q < cc) (hw : w < 2) (hli : li < n w) (hsp : cv q (1 - w) + cv q (2 + (1 - w)) < n (1 - w)) (hc : σ.1 162 2 = nI c) (hcl : 4 * c + 4 ≤ ln (2 + 1)) (hm : σ.1 162 2 < σ.1 161 2) : Ctv g yX8_drawMissed cX8_drawMissed 9 (rmm 2 45) [.ref (ad g o), .int (nI k), .ref (ad g 2)] σ (fun σ' => σ' = (uI σ.1 162 2 (nI (c + 1)), uA σ.2.1 (2 + 1) (upd (upd (upd (upd (σ.2.1 (2 + 1)) (4 * c) (nI w)) (4 * c + 1) (nI (pl w li))) (4 * c + 2) (nI (pl (1 - w) (cv q (1 - w))))) (4 * c + 3) (nI (pl (1 - w) (cv q (1 - w) + cv q (2 + (1 - w)))))), σ.2.2)) := by
  refine ct_of (own := RX8) (lv := [some (.ref (ad g o)), some (.int (nI k)), some (.ref (ad g 2)), none, none, none, none, none, none]) rfl (by decide) (Nat.le_of_ble_eq_true rfl) (by intro u hu; simp only [List.mem_cons, List.not_mem_nil, or_false] at hu; rcases hu with rfl | rfl | rfl <;> rfl) (lv_ok [.ref (ad g o), .int (nI k), .ref (ad g 2)] 6) ?_
  have hC0 := hC
  obtain ⟨hT0, hcc, hccl, hfc, hcv⟩ := hC
  have hk := hT0.1
  have hl8 := (ln_t8 hk).1
  have hl7 := ln_t7 hk
  have hl16 := (ln_t8 hk).2
  have f0 := (ln_t17 hk (show 0 < 3 by decide)).1
  have f1 := (ln_t17 hk (show 1 < 3 by decide)).1
  have f2 := (ln_t17 hk (show 2 < 3 by decide)).1
  have ew := (ln_t9 hk (show 1 - w < 7 by omega)).1
  have ew2 := (ln_t9 hk (show 2 + (1 - w) < 7 by omega)).1
  have hcap : nr * nc ≤ ln (o + 7) := hT0.2.2.2.2.2.2.2.2
  obtain ⟨m0, m1, m2⟩ := hM.2 k _ hke
  dsimp only at m0 m1 m2
  have hkl := (List.getElem?_eq_some_iff.mp hke).1
  obtain ⟨v1, b1⟩ := hcv q (1 - w) hq (by omega)
  obtain ⟨v2, b2⟩ := hcv q (2 + (1 - w)) hq (by omega)
  refine aw_aload_n dX8_drawMissed_0 rfl ?_
  refine gf8_missedLines dX8_drawMissed_1 kf8_39 hk ?_
  refine aw_ic (nI 0) dX8_drawMissed_4 (by decide) ?_
  refine aw_ald16 (0) dX8_drawMissed_5 (kf_8_missedLines hk) (rfl) (by omega) ?_
  refine aw_iload_n dX8_drawMissed_6 rfl ?_
  refine aw_ld (k) dX8_drawMissed_7 (ln_t17 hk (show 0 < 3 by decide)).2 (rfl) (by omega) ?_
  refine aw_eq m0 ?_
  refine aw_istore_n dX8_drawMissed_8 (Nat.le_of_ble_eq_true rfl) ?_
  refine aw_aload_n dX8_drawMissed_9 rfl ?_
  refine gf8_missedLines dX8_drawMissed_10 kf8_39 hk ?_
  refine aw_ic (nI 1) dX8_drawMissed_13 (by decide) ?_
  refine aw_ald16 (1) dX8_drawMissed_14 (kf_8_missedLines hk) (rfl) (by omega) ?_
  refine aw_iload_n dX8_drawMissed_15 rfl ?_
  refine aw_ld (k) dX8_drawMissed_16 (ln_t17 hk (show 1 < 3 by decide)).2 (rfl) (by omega) ?_
  refine aw_eq m1 ?_
  refine aw_istore dX8_drawMissed_17 (Nat.le_of_ble_eq_true rfl) ?_
  refine aw_aload_n dX8_drawMissed_19 rfl ?_
  refine gf8_lines dX8_drawMissed_20 kf8_20 hk ?_
  refine aw_iload dX8_drawMissed_23 rfl ?_
  refine aw_aload_n dX8_drawMissed_25 rfl ?_
  refine gf8_missedLines dX8_drawMissed_26 kf8_39 hk ?_
  refine aw_ic (nI 2) dX8_drawMissed_29 (by decide) ?_
  refine aw_ald16 (2) dX8_drawMissed_30 (kf_8_missedLines hk) (rfl) (by omega) ?_
  refine aw_iload_n dX8_drawMissed_31 rfl ?_
  refine aw_ld (k) dX8_drawMissed_32 (ln_t17 hk (show 2 < 3 by decide)).2 (rfl) (by omega) ?_
  refine aw_eq m2 ?_
  refine cqi2 dX8_drawMissed_33 km8_131 ok_X2_placeOf rfl rfl (by decide) (kf_8_lines hk) (Nat.le_of_ble_eq_true rfl) ⟨Nat.le_of_ble_eq_true rfl, Nat.le_of_ble_eq_true rfl⟩ rfl rfl (ct_Lines_placeOf (k := li) hL hw hli) ?_
  refine aw_istore dX8_drawMissed_36 (Nat.le_of_ble_eq_true rfl) ?_
  refine aw_ic (nI 1) dX8_drawMissed_38 (by decide) ?_
  refine aw_iload dX8_drawMissed_39 rfl ?_
  refine aw_isub dX8_drawMissed_41 ?_
  refine aw_eq (show _ = nI (1 - w) from pk_sub (by omega)) ?_
  refine aw_istore dX8_drawMissed_42 (Nat.le_of_ble_eq_true rfl) ?_
  refine aw_aload_n dX8_drawMissed_44 rfl ?_
  refine gf8_cells dX8_drawMissed_45 kf8_36 hk ?_
  refine aw_ic (nI 0) dX8_drawMissed_48 (by decide) ?_
  refine aw_iload dX8_drawMissed_49 rfl ?_
  refine aw_iadd dX8_drawMissed_51 ?_
  refine aw_eq (show _ = nI (1 - w) by rw [nI_add, Nat.zero_add]) ?_
  refine aw_ald16 (1 - w) dX8_drawMissed_52 (kf_8_cells hk) (rfl) (by omega) ?_
  refine aw_iload_n dX8_drawMissed_53 rfl ?_
  refine aw_ld (q) dX8_drawMissed_54 (ln_t9 hk (show 1 - w < 7 by omega)).2 (rfl) (by omega) ?_
  refine aw_eq v1 ?_
  refine aw_istore dX8_drawMissed_55 (Nat.le_of_ble_eq_true rfl) ?_
  refine aw_iload dX8_drawMissed_57 rfl ?_
  refine aw_aload_n dX8_drawMissed_59 rfl ?_
  refine gf8_cells dX8_drawMissed_60 kf8_36 hk ?_
  refine aw_ic (nI 2) dX8_drawMissed_63 (by decide) ?_
  refine aw_iload dX8_drawMissed_64 rfl ?_
  refine aw_iadd dX8_drawMissed_66 ?_
  refine aw_eq (nI_add 2 (1 - w)) ?_
  refine aw_ald16 (2 + (1 - w)) dX8_drawMissed_67 (kf_8_cells hk) (rfl) (by omega) ?_
  refine aw_iload_n dX8_drawMissed_68 rfl ?_
  refine aw_ld (q) dX8_drawMissed_69 (ln_t9 hk (show 2 + (1 - w) < 7 by omega)).2 (rfl) (by omega) ?_
  refine aw_eq v2 ?_
  refine aw_iadd dX8_drawMissed_70 ?_
  refine aw_eq (nI_add _ _) ?_
  refine aw_istore dX8_drawMissed_71 (Nat.le_of_ble_eq_true rfl) ?_
  refine aw_aload_n dX8_drawMissed_73 rfl ?_
  refine aw_iload dX8_drawMissed_74 rfl ?_
  refine aw_iload dX8_drawMissed_76 rfl ?_
  refine aw_aload_n dX8_drawMissed_78 rfl ?_
  refine gf8_lines dX8_drawMissed_79 kf8_20 hk ?_
  refine aw_iload dX8_drawMissed_82 rfl ?_
  refine aw_iload dX8_drawMissed_84 rfl ?_
  refine cqi2 dX8_drawMissed_86 km8_131 ok_X2_placeOf rfl rfl (by decide) (kf_8_lines hk) (Nat.le_of_ble_eq_true rfl) ⟨Nat.le_of_ble_eq_true rfl, Nat.le_of_ble_eq_true rfl⟩ rfl rfl (ct_Lines_placeOf (k := cv q (1 - w)) hL (by omega) (by omega)) ?_
  refine aw_aload_n dX8_drawMissed_89 rfl ?_
  refine gf8_lines dX8_drawMissed_90 kf8_20 hk ?_
  refine aw_iload dX8_drawMissed_93 rfl ?_
  refine aw_iload dX8_drawMissed_95 rfl ?_
  refine cqi2 dX8_drawMissed_97 km8_131 ok_X2_placeOf rfl rfl (by decide) (kf_8_lines hk) (Nat.le_of_ble_eq_true rfl) ⟨Nat.le_of_ble_eq_true rfl, Nat.le_of_ble_eq_true rfl⟩ rfl rfl (ct_Lines_placeOf (k := cv q (1 - w) + cv q (2 + (1 - w))) hL (by omega) (by omega)) ?_
  refine cvv4 dX8_drawMissed_100 km8_194 ok_X5_add rfl rfl (by decide) k_2 (Nat.le_of_ble_eq_true rfl) ⟨Nat.le_of_ble_eq_true rfl, Nat.le_of_ble_eq_true rfl⟩ rfl rfl (ct_Rows_add k_2 hc hcl hm _ _ _ _) ?_
  intro σ3 hp_100
  exact aw_ret dX8_drawMissed_103 (hp_100)

