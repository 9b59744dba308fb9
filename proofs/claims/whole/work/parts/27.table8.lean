/-- open above or below in a column; at the left or at the right in a row -/
def opC (sd : Nat → Nat → Nat → Bool) (nr nc : Nat) (fc : Nat → Nat) (q c : Nat) : Bool := (!sd 0 0 c && decide (fc (0 * nc + c) = q)) || (!sd 0 nr c && decide (fc ((nr - 1) * nc + c) = q))
def opR (sd : Nat → Nat → Nat → Bool) (nc : Nat) (fc : Nat → Nat) (q r : Nat) : Bool := (!sd 1 r 0 && decide (fc (r * nc + 0) = q)) || (!sd 1 r nc && decide (fc (r * nc + (nc - 1)) = q))
def opB (sd : Nat → Nat → Nat → Bool) (nr nc : Nat) (fc : Nat → Nat) (q : Nat) : Bool := anyB (opC sd nr nc fc q) nc || anyB (opR sd nc fc q) nr
/-- the kinds, with those open that p says -/
def kdO (cv : Nat → Nat → Nat) (p : Nat → Bool) (q j : Nat) : Nat := if j = 5 then (if p q = true then 2 else cv q 5) else cv q j
theorem TaC.open_ {σ : SG} {o nr nc cc : Nat} {fc : Nat → Nat} {cv : Nat → Nat → Nat} {p : Nat → Bool} {S : Nat → Int32} (h : TaC (σ.1, uA σ.2.1 (o + 8 + 1 + 5) S, σ.2.2) o nr nc cc fc (kdO cv p)) {q : Nat} {d : Bool} : TaC (σ.1, uA σ.2.1 (o + 8 + 1 + 5) (if d = true then S else upd S q (nI 2)), σ.2.2) o nr nc cc fc (kdO cv (fun z => p z || (!d && decide (q = z)))) := by
  refine ⟨h.1, h.2.1, h.2.2.1, fun f hf => ?_, fun z j hz hj => ?_⟩
  · have := h.2.2.2.1 f hf
    dsimp only at this
    rw [uA_n (by omega)] at this
    show uA _ _ _ (o + 7) f = _ ∧ _
    rw [uA_n (by omega)]
    exact this
  · have := h.2.2.2.2 z j hz hj
    dsimp only at this
    show uA _ _ _ (o + 8 + 1 + j) z = _ ∧ _
    by_cases e : j = 5
    · subst e
      rw [uA_s] at this ⊢
      cases d with
      | true => simpa [kdO] using this
      | false =>
        by_cases e2 : z = q
        · subst e2
          simp [kdO, pk_us]
        · have e3 : ¬ q = z := fun w => e2 w.symm
          simp [kdO, e3, pk_un e2] at this ⊢
          exact this
    · rw [uA_n (by omega)] at this ⊢
      simpa [kdO, e] using this
theorem TaC.cong {σ : SG} {o nr nc cc : Nat} {fc : Nat → Nat} {cv cv' : Nat → Nat → Nat} (h : TaC σ o nr nc cc fc cv) (e : ∀ q j, q < cc → j < 7 → cv q j = cv' q j) : TaC σ o nr nc cc fc cv' := ⟨h.1, h.2.1, h.2.2.1, h.2.2.2.1, fun q j hq hj => by rw [← e q j hq hj]; exact h.2.2.2.2 q j hq hj⟩
theorem kdO_cong {cv : Nat → Nat → Nat} {p p' : Nat → Bool} {q j : Nat} (e : p q = p' q) : kdO cv p q j = kdO cv p' q j := by
  unfold kdO
  rw [e]
set_option maxHeartbeats 4000000 in
set_option maxRecDepth 100000 in
theorem ct_markOpen {g : GG} {σ : SG} {o nr nc cc : Nat} {fc : Nat → Nat} {cv : Nat → Nat → Nat} (hC : TaC σ o nr nc cc fc cv) {sd : Nat → Nat → Nat → Bool} (hS : SdN σ o nr nc sd) : Ctv g yX8_markOpen cX8_markOpen 2 (rmm 2 50) [.ref (ad g o)] σ (fun σ' => ∃ S, σ' = (σ.1, uA σ.2.1 (o + 8 + 1 + 5) S, σ.2.2) ∧ TaC σ' o nr nc cc fc (kdO cv (opB sd nr nc fc))) := by
  refine ct_of (own := RX8) (lv := [some (.ref (ad g o)), none]) rfl (by decide) (Nat.le_of_ble_eq_true rfl) (by intro u hu; simp only [List.mem_cons, List.not_mem_nil, or_false] at hu; rcases hu with rfl <;> rfl) (lv_ok [.ref (ad g o)] 1) ?_
  have hC0 := hC
  obtain ⟨hT0, hcc, hccl, hfc, hcv⟩ := hC
  obtain ⟨hk, hr, hc, r1, c1, r2, c2, cap6, cap7⟩ := id hT0
  have hl7 := ln_t7 hk
  have hl8 := (ln_t8 hk).1
  
  refine aw_ic (nI 0) dX8_markOpen_0 (by decide) ?_
  refine aw_istore_n dX8_markOpen_1 (Nat.le_of_ble_eq_true rfl) ?_
  refine for_up (fun c σ' => ∃ S, σ' = (σ.1, uA σ.2.1 (o + 8 + 1 + 5) S, σ.2.2) ∧ TaC σ' o nr nc cc fc (kdO cv (fun q => anyB (opC sd nr nc fc q) c))) (fun i => [some (.ref (ad g o)), some (.int (nI i))]) nc ?_ ?_ 0 _ (Nat.zero_le _) ⟨σ.2.1 (o + 8 + 1 + 5), by rw [uA_same], hC0.cong (fun q j hq hj => by unfold kdO anyB; split <;> simp_all)⟩
  · rintro c σ2 hi ⟨S, rfl, hD⟩ ih
    refine aw_iload_n dX8_markOpen_2 rfl ?_
    refine aw_aload_n dX8_markOpen_3 rfl ?_
    refine gf8_columns dX8_markOpen_4 kf8_113 hk ?_
    refine aw_eq hc ?_
    refine aw_icmp_geN dX8_markOpen_7 rfl rfl (by omega) (by omega) (fun h_7 => absurd h_7 (by omega)) (fun h_7 => ?_)
    refine aw_aload_n dX8_markOpen_10 rfl ?_
    refine aw_aload_n dX8_markOpen_11 rfl ?_
    refine aw_ic (nI 0) dX8_markOpen_12 (by decide) ?_
    refine aw_ic (nI 0) dX8_markOpen_13 (by decide) ?_
    refine aw_iload_n dX8_markOpen_14 rfl ?_
    refine cqi3 dX8_markOpen_15 km8_143 ok_X8_hasRuled rfl rfl (by decide) hk (Nat.le_of_ble_eq_true rfl) ⟨Nat.le_of_ble_eq_true rfl, Nat.le_of_ble_eq_true rfl⟩ rfl rfl (ct_hasRuled (sd := sd) (w := 0) (r := 0) (c := c) (show TaD _ o nr nc from hT0) (fun w r c hi => by show uA _ (o + 8 + 1 + 5) _ (o + 6) _ = _; rw [uA_n (by omega)]; exact hS w r c hi) (Or.inl ⟨rfl, by omega, by omega⟩)) ?_
    refine aw_aload_n dX8_markOpen_18 rfl ?_
    refine aw_ic (nI 0) dX8_markOpen_19 (by decide) ?_
    refine aw_iload_n dX8_markOpen_20 rfl ?_
    refine cqi2 dX8_markOpen_21 km8_163 ok_X8_cellOf rfl rfl (by decide) hk (Nat.le_of_ble_eq_true rfl) ⟨Nat.le_of_ble_eq_true rfl, Nat.le_of_ble_eq_true rfl⟩ rfl rfl (ct_cellOf hD (r := 0) (c := c) (by omega) (by omega)) ?_
    refine cvv2 dX8_markOpen_24 km8_166 ok_X8_openUnless rfl rfl (by decide) hk (Nat.le_of_ble_eq_true rfl) ⟨Nat.le_of_ble_eq_true rfl, Nat.le_of_ble_eq_true rfl⟩ rfl rfl (ct_openUnless (d := sd 0 0 c) hD (hfc _ (rc_lt (show 0 < nr by omega) (show c < nc by omega))).2) ?_
    intro σ hp_24
    subst hp_24
    dsimp only
    refine aw_sg (show _ = (σ.1, uA σ.2.1 (o + 8 + 1 + 5) (if sd 0 0 c = true then S else upd S (fc (0 * nc + c)) (nI 2)), σ.2.2) by rw [uA_s, uA_uA]) ?_
    have hDx := hD.open_ (q := fc (0 * nc + c)) (d := sd 0 0 c)
    generalize hSx : (if sd 0 0 c = true then S else upd S (fc (0 * nc + c)) (nI 2)) = Sx at hDx ⊢
    refine aw_aload_n dX8_markOpen_27 rfl ?_
    refine aw_aload_n dX8_markOpen_28 rfl ?_
    refine aw_ic (nI 0) dX8_markOpen_29 (by decide) ?_
    refine aw_aload_n dX8_markOpen_30 rfl ?_
    refine gf8_rows dX8_markOpen_31 kf8_110 hk ?_
    refine aw_eq hr ?_
    refine aw_iload_n dX8_markOpen_34 rfl ?_
    refine cqi3 dX8_markOpen_35 km8_143 ok_X8_hasRuled rfl rfl (by decide) hk (Nat.le_of_ble_eq_true rfl) ⟨Nat.le_of_ble_eq_true rfl, Nat.le_of_ble_eq_true rfl⟩ rfl rfl (ct_hasRuled (sd := sd) (w := 0) (r := nr) (c := c) (show TaD _ o nr nc from hT0) (fun w r c hi => by show uA _ (o + 8 + 1 + 5) _ (o + 6) _ = _; rw [uA_n (by omega)]; exact hS w r c hi) (Or.inl ⟨rfl, by omega, by omega⟩)) ?_
    refine aw_aload_n dX8_markOpen_38 rfl ?_
    refine aw_aload_n dX8_markOpen_39 rfl ?_
    refine gf8_rows dX8_markOpen_40 kf8_110 hk ?_
    refine aw_eq hr ?_
    refine aw_ic (nI 1) dX8_markOpen_43 (by decide) ?_
    refine aw_isub dX8_markOpen_44 ?_
    refine aw_eq (show _ = nI (nr - 1) from pk_sub (by omega)) ?_
    refine aw_iload_n dX8_markOpen_45 rfl ?_
    refine cqi2 dX8_markOpen_46 km8_163 ok_X8_cellOf rfl rfl (by decide) hk (Nat.le_of_ble_eq_true rfl) ⟨Nat.le_of_ble_eq_true rfl, Nat.le_of_ble_eq_true rfl⟩ rfl rfl (ct_cellOf hDx (r := (nr - 1)) (c := c) (by omega) (by omega)) ?_
    refine cvv2 dX8_markOpen_49 km8_166 ok_X8_openUnless rfl rfl (by decide) hk (Nat.le_of_ble_eq_true rfl) ⟨Nat.le_of_ble_eq_true rfl, Nat.le_of_ble_eq_true rfl⟩ rfl rfl (ct_openUnless (d := sd 0 nr c) hDx (hfc _ (rc_lt (show (nr - 1) < nr by omega) (show c < nc by omega))).2) ?_
    intro σx hp_49
    subst hp_49
    dsimp only
    refine aw_sg (show _ = (σ.1, uA σ.2.1 (o + 8 + 1 + 5) (if sd 0 nr c = true then Sx else upd Sx (fc ((nr - 1) * nc + c)) (nI 2)), σ.2.2) by rw [uA_s, uA_uA]) ?_
    have hDxx := hDx.open_ (q := fc ((nr - 1) * nc + c)) (d := sd 0 nr c)
    generalize hSxx : (if sd 0 nr c = true then Sx else upd Sx (fc ((nr - 1) * nc + c)) (nI 2)) = Sxx at hDxx ⊢
    refine aw_inc (nI (c + 1)) dX8_markOpen_52 rfl (Nat.le_of_ble_eq_true rfl) (nI_1 c) ?_
    refine aw_goto dX8_markOpen_55 ?_
    exact ih _ ⟨_, rfl, hDxx.cong (fun q j hq hj => kdO_cong (by rw [Bool.or_assoc]; rfl))⟩
  · rintro σ2 ⟨S, rfl, hD⟩
    refine aw_iload_n dX8_markOpen_2 rfl ?_
    refine aw_aload_n dX8_markOpen_3 rfl ?_
    refine gf8_columns dX8_markOpen_4 kf8_113 hk ?_
    refine aw_eq hc ?_
    refine aw_icmp_geN dX8_markOpen_7 rfl rfl (by omega) (by omega) (fun h_7 => ?_) (fun h_7 => absurd h_7 (by omega))
    refine aw_ic (nI 0) dX8_markOpen_58 (by decide) ?_
    refine aw_istore_n dX8_markOpen_59 (Nat.le_of_ble_eq_true rfl) ?_
    refine for_up (fun r σ' => ∃ S, σ' = (σ.1, uA σ.2.1 (o + 8 + 1 + 5) S, σ.2.2) ∧ TaC σ' o nr nc cc fc (kdO cv (fun q => anyB (opC sd nr nc fc q) nc || anyB (opR sd nc fc q) r))) (fun i => [some (.ref (ad g o)), some (.int (nI i))]) nr ?_ ?_ 0 _ (Nat.zero_le _) ⟨S, rfl, hD.cong (fun q j hq hj => kdO_cong (by simp [anyB]))⟩
    · rintro r σ2 hi ⟨S, rfl, hD⟩ ih
      refine aw_iload_n dX8_markOpen_60 rfl ?_
      refine aw_aload_n dX8_markOpen_61 rfl ?_
      refine gf8_rows dX8_markOpen_62 kf8_110 hk ?_
      refine aw_eq hr ?_
      refine aw_icmp_geN dX8_markOpen_65 rfl rfl (by omega) (by omega) (fun h_65 => absurd h_65 (by omega)) (fun h_65 => ?_)
      refine aw_aload_n dX8_markOpen_68 rfl ?_
      refine aw_aload_n dX8_markOpen_69 rfl ?_
      refine aw_ic (nI 1) dX8_markOpen_70 (by decide) ?_
      refine aw_iload_n dX8_markOpen_71 rfl ?_
      refine aw_ic (nI 0) dX8_markOpen_72 (by decide) ?_
      refine cqi3 dX8_markOpen_73 km8_143 ok_X8_hasRuled rfl rfl (by decide) hk (Nat.le_of_ble_eq_true rfl) ⟨Nat.le_of_ble_eq_true rfl, Nat.le_of_ble_eq_true rfl⟩ rfl rfl (ct_hasRuled (sd := sd) (w := 1) (r := r) (c := 0) (show TaD _ o nr nc from hT0) (fun w r c hi => by show uA _ (o + 8 + 1 + 5) _ (o + 6) _ = _; rw [uA_n (by omega)]; exact hS w r c hi) (Or.inr ⟨rfl, by omega, by omega⟩)) ?_
      refine aw_aload_n dX8_markOpen_76 rfl ?_
      refine aw_iload_n dX8_markOpen_77 rfl ?_
      refine aw_ic (nI 0) dX8_markOpen_78 (by decide) ?_
      refine cqi2 dX8_markOpen_79 km8_163 ok_X8_cellOf rfl rfl (by decide) hk (Nat.le_of_ble_eq_true rfl) ⟨Nat.le_of_ble_eq_true rfl, Nat.le_of_ble_eq_true rfl⟩ rfl rfl (ct_cellOf hD (r := r) (c := 0) (by omega) (by omega)) ?_
      refine cvv2 dX8_markOpen_82 km8_166 ok_X8_openUnless rfl rfl (by decide) hk (Nat.le_of_ble_eq_true rfl) ⟨Nat.le_of_ble_eq_true rfl, Nat.le_of_ble_eq_true rfl⟩ rfl rfl (ct_openUnless (d := sd 1 r 0) hD (hfc _ (rc_lt (show r < nr by omega) (show 0 < nc by omega))).2) ?_
      intro σ hp_82
      subst hp_82
      dsimp only
      refine aw_sg (show _ = (σ.1, uA σ.2.1 (o + 8 + 1 + 5) (if sd 1 r 0 = true then S else upd S (fc (r * nc + 0)) (nI 2)), σ.2.2) by rw [uA_s, uA_uA]) ?_
      have hDx := hD.open_ (q := fc (r * nc + 0)) (d := sd 1 r 0)
      generalize hSx : (if sd 1 r 0 = true then S else upd S (fc (r * nc + 0)) (nI 2)) = Sx at hDx ⊢
      refine aw_aload_n dX8_markOpen_85 rfl ?_
      refine aw_aload_n dX8_markOpen_86 rfl ?_
      refine aw_ic (nI 1) dX8_markOpen_87 (by decide) ?_
      refine aw_iload_n dX8_markOpen_88 rfl ?_
      refine aw_aload_n dX8_markOpen_89 rfl ?_
      refine gf8_columns dX8_markOpen_90 kf8_113 hk ?_
      refine aw_eq hc ?_
      refine cqi3 dX8_markOpen_93 km8_143 ok_X8_hasRuled rfl rfl (by decide) hk (Nat.le_of_ble_eq_true rfl) ⟨Nat.le_of_ble_eq_true rfl, Nat.le_of_ble_eq_true rfl⟩ rfl rfl (ct_hasRuled (sd := sd) (w := 1) (r := r) (c := nc) (show TaD _ o nr nc from hT0) (fun w r c hi => by show uA _ (o + 8 + 1 + 5) _ (o + 6) _ = _; rw [uA_n (by omega)]; exact hS w r c hi) (Or.inr ⟨rfl, by omega, by omega⟩)) ?_
      refine aw_aload_n dX8_markOpen_96 rfl ?_
      refine aw_iload_n dX8_markOpen_97 rfl ?_
      refine aw_aload_n dX8_markOpen_98 rfl ?_
      refine gf8_columns dX8_markOpen_99 kf8_113 hk ?_
      refine aw_eq hc ?_
      refine aw_ic (nI 1) dX8_markOpen_102 (by decide) ?_
      refine aw_isub dX8_markOpen_103 ?_
      refine aw_eq (show _ = nI (nc - 1) from pk_sub (by omega)) ?_
      refine cqi2 dX8_markOpen_104 km8_163 ok_X8_cellOf rfl rfl (by decide) hk (Nat.le_of_ble_eq_true rfl) ⟨Nat.le_of_ble_eq_true rfl, Nat.le_of_ble_eq_true rfl⟩ rfl rfl (ct_cellOf hDx (r := r) (c := (nc - 1)) (by omega) (by omega)) ?_
      refine cvv2 dX8_markOpen_107 km8_166 ok_X8_openUnless rfl rfl (by decide) hk (Nat.le_of_ble_eq_true rfl) ⟨Nat.le_of_ble_eq_true rfl, Nat.le_of_ble_eq_true rfl⟩ rfl rfl (ct_openUnless (d := sd 1 r nc) hDx (hfc _ (rc_lt (show r < nr by omega) (show (nc - 1) < nc by omega))).2) ?_
      intro σx hp_107
      subst hp_107
      dsimp only
      refine aw_sg (show _ = (σ.1, uA σ.2.1 (o + 8 + 1 + 5) (if sd 1 r nc = true then Sx else upd Sx (fc (r * nc + (nc - 1))) (nI 2)), σ.2.2) by rw [uA_s, uA_uA]) ?_
      have hDxx := hDx.open_ (q := fc (r * nc + (nc - 1))) (d := sd 1 r nc)
      generalize hSxx : (if sd 1 r nc = true then Sx else upd Sx (fc (r * nc + (nc - 1))) (nI 2)) = Sxx at hDxx ⊢
      refine aw_inc (nI (r + 1)) dX8_markOpen_110 rfl (Nat.le_of_ble_eq_true rfl) (nI_1 r) ?_
      refine aw_goto dX8_markOpen_113 ?_
      exact ih _ ⟨_, rfl, hDxx.cong (fun q j hq hj => kdO_cong (by rw [Bool.or_assoc, Bool.or_assoc]; rfl))⟩
    · rintro σ2 ⟨S, rfl, hD⟩
      refine aw_iload_n dX8_markOpen_60 rfl ?_
      refine aw_aload_n dX8_markOpen_61 rfl ?_
      refine gf8_rows dX8_markOpen_62 kf8_110 hk ?_
      refine aw_eq hr ?_
      refine aw_icmp_geN dX8_markOpen_65 rfl rfl (by omega) (by omega) (fun h_65 => ?_) (fun h_65 => absurd h_65 (by omega))
      exact aw_ret dX8_markOpen_116 (⟨S, rfl, hD⟩)

def telT (I : Nat → Nat → Int32) (o wh k : Nat) : Int32 := if k = 0 then I 258 o else if k = 1 then I 259 o else if k = 2 then I 263 o else if k = 3 then I 257 o else if k = 4 then I 266 o else if k = 5 then I 267 o else if k = 6 then I 265 o else nI wh
set_option maxHeartbeats 4000000 in
set_option maxRecDepth 100000 in
theorem ct_Table_tell {g : GG} {σ : SG} {o nr nc cc : Nat} {fc : Nat → Nat} {cv : Nat → Nat → Nat} (hC : TaC σ o nr nc cc fc cv) (what : Int32) : Cti g yX8_tell cX8_tell 2 (some .int) (rmm 1 22) [.ref (ad g o), .int what] σ (fun r σ' => (((what.toInt < 0 ∨ 7 < what.toInt) ∧ r = -2) ∨ ∃ k, k < 8 ∧ what = nI k ∧ r = telT σ.1 o (ctB (fun q => decide (cv q 5 = 0)) cc) k) ∧ σ' = σ) := by
  refine ct_of (own := RX8) (lv := [some (.ref (ad g o)), some (.int what)]) rfl (by decide) (Nat.le_of_ble_eq_true rfl) (by intro u hu; simp only [List.mem_cons, List.not_mem_nil, or_false] at hu; rcases hu with rfl | rfl <;> rfl) (lv_ok [.ref (ad g o), .int what] 0) ?_
  rcases sw8 what with h | ⟨k, hk8, rfl⟩
  · refine aw_iload_n dX8_tell_0 rfl ?_
    refine aw_tout dX8_tell_1 h (tgt := 88) (by decide) ?_
    refine aw_bi (-2) dX8_tell_88 (by decide) ?_
    exact aw_ireti dX8_tell_90 ⟨Or.inl ⟨h, rfl⟩, rfl⟩
  · refine aw_iload_n dX8_tell_0 rfl ?_
    rcases (show k = 0 ∨ k = 1 ∨ k = 2 ∨ k = 3 ∨ k = 4 ∨ k = 5 ∨ k = 6 ∨ k = 7 by omega) with rfl | rfl | rfl | rfl | rfl | rfl | rfl | rfl
    · refine aw_tin dX8_tell_1 (tgt := 48) (off := 47) (by decide) (by decide) (by decide +kernel) (by decide) ?_
      refine aw_aload_n dX8_tell_48 rfl ?_
      refine gf8_rows dX8_tell_49 kf8_110 hC.1.1 ?_
      exact aw_ireti dX8_tell_52 ⟨Or.inr ⟨0, by decide, rfl, rfl⟩, rfl⟩
    · refine aw_tin dX8_tell_1 (tgt := 53) (off := 52) (by decide) (by decide) (by decide +kernel) (by decide) ?_
      refine aw_aload_n dX8_tell_53 rfl ?_
      refine gf8_columns dX8_tell_54 kf8_113 hC.1.1 ?_
      exact aw_ireti dX8_tell_57 ⟨Or.inr ⟨1, by decide, rfl, rfl⟩, rfl⟩
    · refine aw_tin dX8_tell_1 (tgt := 58) (off := 57) (by decide) (by decide) (by decide +kernel) (by decide) ?_
      refine aw_aload_n dX8_tell_58 rfl ?_
      refine gf8_cellCount dX8_tell_59 kf8_149 hC.1.1 ?_
      exact aw_ireti dX8_tell_62 ⟨Or.inr ⟨2, by decide, rfl, rfl⟩, rfl⟩
    · refine aw_tin dX8_tell_1 (tgt := 63) (off := 62) (by decide) (by decide) (by decide +kernel) (by decide) ?_
      refine aw_aload_n dX8_tell_63 rfl ?_
      refine gf8_rules dX8_tell_64 kf8_80 hC.1.1 ?_
      exact aw_ireti dX8_tell_67 ⟨Or.inr ⟨3, by decide, rfl, rfl⟩, rfl⟩
    · refine aw_tin dX8_tell_1 (tgt := 68) (off := 67) (by decide) (by decide) (by decide +kernel) (by decide) ?_
      refine aw_aload_n dX8_tell_68 rfl ?_
      refine gf8_words dX8_tell_69 kf8_71 hC.1.1 ?_
      exact aw_ireti dX8_tell_72 ⟨Or.inr ⟨4, by decide, rfl, rfl⟩, rfl⟩
    · refine aw_tin dX8_tell_1 (tgt := 73) (off := 72) (by decide) (by decide) (by decide +kernel) (by decide) ?_
      refine aw_aload_n dX8_tell_73 rfl ?_
      refine gf8_heads dX8_tell_74 kf8_67 hC.1.1 ?_
      exact aw_ireti dX8_tell_77 ⟨Or.inr ⟨5, by decide, rfl, rfl⟩, rfl⟩
    · refine aw_tin dX8_tell_1 (tgt := 78) (off := 77) (by decide) (by decide) (by decide +kernel) (by decide) ?_
      refine aw_aload_n dX8_tell_78 rfl ?_
      refine gf8_missedCount dX8_tell_79 kf8_74 hC.1.1 ?_
      exact aw_ireti dX8_tell_82 ⟨Or.inr ⟨6, by decide, rfl, rfl⟩, rfl⟩
    · refine aw_tin dX8_tell_1 (tgt := 83) (off := 82) (by decide) (by decide) (by decide +kernel) (by decide) ?_
      refine aw_aload_n dX8_tell_83 rfl ?_
      refine cqi0 dX8_tell_84 km8_199 ok_X8_countWhole rfl rfl (by decide) hC.1.1 (Nat.le_of_ble_eq_true rfl) ⟨Nat.le_of_ble_eq_true rfl, Nat.le_of_ble_eq_true rfl⟩ rfl rfl (ct_countWhole hC) ?_
      exact aw_ireti dX8_tell_87 ⟨Or.inr ⟨7, by decide, rfl, rfl⟩, rfl⟩


