theorem rc_div {n r c : Nat} (h : c < n) : (r * n + c) / n = r := by rw [Nat.mul_comm, Nat.mul_add_div (by omega), Nat.div_eq_of_lt h, Nat.add_zero]
theorem rc_mod {n r c : Nat} (h : c < n) : (r * n + c) % n = c := by rw [Nat.mul_comm, Nat.mul_add_mod, Nat.mod_eq_of_lt h]
/-- a field is joined to its left, then to that above it -/
def stepF (sd : Nat → Nat → Nat → Bool) (nc : Nat) (l : Nat → Nat) (f r c : Nat) : Nat → Nat :=
  if 0 < r ∧ ¬ sd 0 r c = true then joinL (if 0 < c ∧ ¬ sd 1 r c = true then joinL l f (f - 1) else l) f (f - nc) else (if 0 < c ∧ ¬ sd 1 r c = true then joinL l f (f - 1) else l)
def labF (sd : Nat → Nat → Nat → Bool) (nc : Nat) : Nat → (Nat → Nat)
  | 0 => fun k => k
  | f + 1 => stepF sd nc (labF sd nc f) f (f / nc) (f % nc)
theorem labF_rc {sd : Nat → Nat → Nat → Bool} {nc r c : Nat} (h : c < nc) : labF sd nc (r * nc + c + 1) = stepF sd nc (labF sd nc (r * nc + c)) (r * nc + c) r c := by
  show stepF sd nc _ _ ((r * nc + c) / nc) ((r * nc + c) % nc) = _
  rw [rc_div h, rc_mod h]
set_option maxHeartbeats 4000000 in
set_option maxRecDepth 100000 in
theorem ct_joinFields {g : GG} {σ : SG} {o nr nc : Nat} {sd : Nat → Nat → Nat → Bool} (hT : TaD σ o nr nc) (hS : SdN σ o nr nc sd) : Ctv g yX8_joinFields cX8_joinFields 5 (rmm 2 50) [.ref (ad g o), .ref (ad g 22)] σ (fun σ' => ∃ L, σ' = (σ.1, uA σ.2.1 23 L, σ.2.2) ∧ Fo (nr * nc) (labF sd nc (nr * nc)) L) := by
  refine ct_of (own := RX8) (lv := [some (.ref (ad g o)), some (.ref (ad g 22)), none, none, none]) rfl (by decide) (Nat.le_of_ble_eq_true rfl) (by intro u hu; simp only [List.mem_cons, List.not_mem_nil, or_false] at hu; rcases hu with rfl | rfl <;> rfl) (lv_ok [.ref (ad g o), .ref (ad g 22)] 3) ?_
  have hT0 := hT
  obtain ⟨hk, hr, hc, r1, c1, r2, c2, cap6, cap7⟩ := hT
  have hl7 := ln_t7 hk
  have hl23 := l_23
  have hne23 : o + 6 ≠ 23 := fun e => by
    have : o = 17 := by omega
    rw [this, k_17] at hk
    exact absurd hk (by decide)
  refine aw_aload_n dX8_joinFields_0 rfl ?_
  refine aw_aload_n dX8_joinFields_1 rfl ?_
  refine gf8_rows dX8_joinFields_2 kf8_110 hk ?_
  refine aw_eq hr ?_
  refine aw_aload_n dX8_joinFields_5 rfl ?_
  refine gf8_columns dX8_joinFields_6 kf8_113 hk ?_
  refine aw_eq hc ?_
  refine aw_imul dX8_joinFields_9 ?_
  refine aw_eq (pk_mul nr nc) ?_
  refine cvv1 dX8_joinFields_10 km8_138 ok_X1_part rfl rfl (by decide) k_22 (Nat.le_of_ble_eq_true rfl) ⟨Nat.le_of_ble_eq_true rfl, Nat.le_of_ble_eq_true rfl⟩ rfl rfl (ct_Groups_part (c := nr * nc) k_22 (by omega)) ?_
  intro σ1 hp_10
  subst hp_10
  refine aw_ic (nI 0) dX8_joinFields_13 (by decide) ?_
  refine aw_istore_n dX8_joinFields_14 (Nat.le_of_ble_eq_true rfl) ?_
  refine for_wf (fun nn σ' lv => ∃ r, nn + r = nr ∧ ∃ L x y, σ' = (σ.1, uA σ.2.1 23 L, σ.2.2) ∧ Fo (nr * nc) (labF sd nc (r * nc)) L ∧ lv = [some (.ref (ad g o)), some (.ref (ad g 22)), some (.int (nI r)), x, y]) ?_ nr _ _ ⟨0, by omega, _, _, _, rfl, ?_, rfl⟩
  rotate_left
  · rw [Nat.zero_mul]
    exact Fo.part (fun k hk => by unfold cp_; rw [if_pos hk])
  rintro nn σ2 lv2 ⟨r, hn, L, x, y, rfl, hF, rfl⟩ ih
  refine aw_iload_n dX8_joinFields_15 rfl ?_
  refine aw_aload_n dX8_joinFields_16 rfl ?_
  refine gf8_rows dX8_joinFields_17 kf8_110 hk ?_
  refine aw_eq hr ?_
  refine aw_icmp_geN dX8_joinFields_20 rfl rfl (by omega) (by omega) (fun h_20 => ?_) (fun h_20 => ?_)
  · skip
    exact aw_ret dX8_joinFields_106 (by
        have e : r = nr := by omega
        subst e
        exact ⟨L, rfl, hF⟩)
  · skip
    refine aw_ic (nI 0) dX8_joinFields_23 (by decide) ?_
    refine aw_istore_n dX8_joinFields_24 (Nat.le_of_ble_eq_true rfl) ?_
    refine for_wf (fun nn σ' lv => ∃ c, nn + c = nc ∧ ∃ L x, σ' = (σ.1, uA σ.2.1 23 L, σ.2.2) ∧ Fo (nr * nc) (labF sd nc (r * nc + c)) L ∧ lv = [some (.ref (ad g o)), some (.ref (ad g 22)), some (.int (nI r)), some (.int (nI c)), x]) ?_ nc _ _ ⟨0, by omega, L, _, rfl, hF, rfl⟩
    rintro nn2 σ3 lv3 ⟨c, hn2, L, x, rfl, hF, rfl⟩ ih2
    by_cases hlast : nc ≤ c
    · have e : c = nc := by omega
      subst e
      refine aw_iload_n dX8_joinFields_25 rfl ?_
      refine aw_aload_n dX8_joinFields_26 rfl ?_
      refine gf8_columns dX8_joinFields_27 kf8_113 hk ?_
      refine aw_eq hc ?_
      refine aw_icmp_geN dX8_joinFields_30 rfl rfl (by omega) (by omega) (fun h_30 => ?_) (fun h_30 => absurd h_30 (by omega))
      refine aw_inc (nI (r + 1)) dX8_joinFields_100 rfl (Nat.le_of_ble_eq_true rfl) (nI_1 r) ?_
      refine aw_goto dX8_joinFields_103 ?_
      exact ih (nn - 1) _ _ (by omega) ⟨r + 1, by omega, L, _, _, rfl, by rw [Nat.succ_mul]; exact hF, rfl⟩
    refine aw_iload_n dX8_joinFields_25 rfl ?_
    refine aw_aload_n dX8_joinFields_26 rfl ?_
    refine gf8_columns dX8_joinFields_27 kf8_113 hk ?_
    refine aw_eq hc ?_
    refine aw_icmp_geN dX8_joinFields_30 rfl rfl (by omega) (by omega) (fun h_30 => absurd h_30 (by omega)) (fun h_30 => ?_)
    refine aw_iload_n dX8_joinFields_33 rfl ?_
    refine aw_aload_n dX8_joinFields_34 rfl ?_
    have hcn : c < nc := h_30
    have hfl := rc_lt (show r < nr by omega) hcn
    refine gf8_columns dX8_joinFields_35 kf8_113 hk ?_
    refine aw_eq hc ?_
    refine aw_imul dX8_joinFields_38 ?_
    refine aw_eq (pk_mul r nc) ?_
    refine aw_iload_n dX8_joinFields_39 rfl ?_
    refine aw_iadd dX8_joinFields_40 ?_
    refine aw_eq (nI_add _ _) ?_
    refine aw_istore dX8_joinFields_41 (Nat.le_of_ble_eq_true rfl) ?_
    refine aw_iload_n dX8_joinFields_43 rfl ?_
    refine aw_if_leN dX8_joinFields_44 rfl (by omega) (fun h_44 => ?_) (fun h_44 => ?_)
    · skip
      refine aw_iload_n dX8_joinFields_67 rfl ?_
      refine aw_if_leN dX8_joinFields_68 rfl (by omega) (fun h_68 => ?_) (fun h_68 => ?_)
      · skip
        refine aw_inc (nI (c + 1)) dX8_joinFields_94 rfl (Nat.le_of_ble_eq_true rfl) (nI_1 c) ?_
        refine aw_goto dX8_joinFields_97 ?_
        refine ih2 (nn2 - 1) _ _ (by omega) ⟨c + 1, by omega, L, _, by simp only [uA_uA], ?_, rfl⟩
        show Fo (nr * nc) (labF sd nc (r * nc + c + 1)) _
        rw [labF_rc hcn]
        unfold stepF
        rw [if_neg (show ¬ (0 < r ∧ ¬ sd 0 r c = true) from fun z => absurd z.1 (by omega)), if_neg (show ¬ (0 < c ∧ ¬ sd 1 r c = true) from fun z => absurd z.1 (by omega))]
        exact hF
      · skip
        refine aw_aload_n dX8_joinFields_71 rfl ?_
        refine aw_ic (nI 0) dX8_joinFields_72 (by decide) ?_
        refine aw_iload_n dX8_joinFields_73 rfl ?_
        refine aw_iload_n dX8_joinFields_74 rfl ?_
        refine cqi3 dX8_joinFields_75 km8_143 ok_X8_hasRuled rfl rfl (by decide) hk (Nat.le_of_ble_eq_true rfl) ⟨Nat.le_of_ble_eq_true rfl, Nat.le_of_ble_eq_true rfl⟩ rfl rfl (ct_hasRuled (w := 0) (r := r) (c := c) (sd := sd) (show TaD _ o nr nc from hT0) (fun w r c hi => by simp only [uA_uA]; show uA _ 23 _ (o + 6) _ = _; rw [uA_n hne23]; exact hS w r c hi) (Or.inl ⟨rfl, by omega, by omega⟩)) ?_
        refine aw_if_neB dX8_joinFields_78 rfl (fun h_78 => ?_) (fun h_78 => ?_)
        · skip
          refine aw_inc (nI (c + 1)) dX8_joinFields_94 rfl (Nat.le_of_ble_eq_true rfl) (nI_1 c) ?_
          refine aw_goto dX8_joinFields_97 ?_
          refine ih2 (nn2 - 1) _ _ (by omega) ⟨c + 1, by omega, L, _, by simp only [uA_uA], ?_, rfl⟩
          show Fo (nr * nc) (labF sd nc (r * nc + c + 1)) _
          rw [labF_rc hcn]
          unfold stepF
          rw [if_neg (show ¬ (0 < r ∧ ¬ sd 0 r c = true) from fun z => z.2 h_78), if_neg (show ¬ (0 < c ∧ ¬ sd 1 r c = true) from fun z => absurd z.1 (by omega))]
          exact hF
        · skip
          refine aw_aload_n dX8_joinFields_81 rfl ?_
          refine aw_iload dX8_joinFields_82 rfl ?_
          refine aw_iload dX8_joinFields_84 rfl ?_
          refine aw_aload_n dX8_joinFields_86 rfl ?_
          refine gf8_columns dX8_joinFields_87 kf8_113 hk ?_
          refine aw_eq hc ?_
          refine aw_isub dX8_joinFields_90 ?_
          refine aw_eq (show _ = nI (r * nc + c - nc) from pk_sub (by have := Nat.mul_le_mul_right nc h_68; omega)) ?_
          refine cvv2 dX8_joinFields_91 km8_146 ok_X1_join rfl rfl (by decide) k_22 (Nat.le_of_ble_eq_true rfl) ⟨Nat.le_of_ble_eq_true rfl, Nat.le_of_ble_eq_true rfl⟩ rfl rfl (ct_Groups_join (n := nr * nc) (a := r * nc + c) (b := r * nc + c - nc) k_22 (show Fo _ _ _ by simp only [uA]; exact hF) (by omega) (by omega) (by omega)) ?_
          intro σ5 hp_91
          obtain ⟨M2, rfl, hM2⟩ := hp_91
          refine aw_inc (nI (c + 1)) dX8_joinFields_94 rfl (Nat.le_of_ble_eq_true rfl) (nI_1 c) ?_
          refine aw_goto dX8_joinFields_97 ?_
          refine ih2 (nn2 - 1) _ _ (by omega) ⟨c + 1, by omega, M2, _, by simp only [uA_uA], ?_, rfl⟩
          show Fo (nr * nc) (labF sd nc (r * nc + c + 1)) _
          rw [labF_rc hcn]
          unfold stepF
          rw [if_pos (show (0 < r ∧ ¬ sd 0 r c = true) from ⟨h_68, h_78⟩), if_neg (show ¬ (0 < c ∧ ¬ sd 1 r c = true) from fun z => absurd z.1 (by omega))]
          exact hM2
    · skip
      refine aw_aload_n dX8_joinFields_47 rfl ?_
      refine aw_ic (nI 1) dX8_joinFields_48 (by decide) ?_
      refine aw_iload_n dX8_joinFields_49 rfl ?_
      refine aw_iload_n dX8_joinFields_50 rfl ?_
      refine cqi3 dX8_joinFields_51 km8_143 ok_X8_hasRuled rfl rfl (by decide) hk (Nat.le_of_ble_eq_true rfl) ⟨Nat.le_of_ble_eq_true rfl, Nat.le_of_ble_eq_true rfl⟩ rfl rfl (ct_hasRuled (w := 1) (r := r) (c := c) (sd := sd) (show TaD _ o nr nc from hT0) (fun w r c hi => by show uA _ 23 _ (o + 6) _ = _; rw [uA_n hne23]; exact hS w r c hi) (Or.inr ⟨rfl, by omega, by omega⟩)) ?_
      refine aw_if_neB dX8_joinFields_54 rfl (fun h_54 => ?_) (fun h_54 => ?_)
      · skip
        refine aw_iload_n dX8_joinFields_67 rfl ?_
        refine aw_if_leN dX8_joinFields_68 rfl (by omega) (fun h_68 => ?_) (fun h_68 => ?_)
        · skip
          refine aw_inc (nI (c + 1)) dX8_joinFields_94 rfl (Nat.le_of_ble_eq_true rfl) (nI_1 c) ?_
          refine aw_goto dX8_joinFields_97 ?_
          refine ih2 (nn2 - 1) _ _ (by omega) ⟨c + 1, by omega, L, _, by simp only [uA_uA], ?_, rfl⟩
          show Fo (nr * nc) (labF sd nc (r * nc + c + 1)) _
          rw [labF_rc hcn]
          unfold stepF
          rw [if_neg (show ¬ (0 < r ∧ ¬ sd 0 r c = true) from fun z => absurd z.1 (by omega)), if_neg (show ¬ (0 < c ∧ ¬ sd 1 r c = true) from fun z => z.2 h_54)]
          exact hF
        · skip
          refine aw_aload_n dX8_joinFields_71 rfl ?_
          refine aw_ic (nI 0) dX8_joinFields_72 (by decide) ?_
          refine aw_iload_n dX8_joinFields_73 rfl ?_
          refine aw_iload_n dX8_joinFields_74 rfl ?_
          refine cqi3 dX8_joinFields_75 km8_143 ok_X8_hasRuled rfl rfl (by decide) hk (Nat.le_of_ble_eq_true rfl) ⟨Nat.le_of_ble_eq_true rfl, Nat.le_of_ble_eq_true rfl⟩ rfl rfl (ct_hasRuled (w := 0) (r := r) (c := c) (sd := sd) (show TaD _ o nr nc from hT0) (fun w r c hi => by simp only [uA_uA]; show uA _ 23 _ (o + 6) _ = _; rw [uA_n hne23]; exact hS w r c hi) (Or.inl ⟨rfl, by omega, by omega⟩)) ?_
          refine aw_if_neB dX8_joinFields_78 rfl (fun h_78 => ?_) (fun h_78 => ?_)
          · skip
            refine aw_inc (nI (c + 1)) dX8_joinFields_94 rfl (Nat.le_of_ble_eq_true rfl) (nI_1 c) ?_
            refine aw_goto dX8_joinFields_97 ?_
            refine ih2 (nn2 - 1) _ _ (by omega) ⟨c + 1, by omega, L, _, by simp only [uA_uA], ?_, rfl⟩
            show Fo (nr * nc) (labF sd nc (r * nc + c + 1)) _
            rw [labF_rc hcn]
            unfold stepF
            rw [if_neg (show ¬ (0 < r ∧ ¬ sd 0 r c = true) from fun z => z.2 h_78), if_neg (show ¬ (0 < c ∧ ¬ sd 1 r c = true) from fun z => z.2 h_54)]
            exact hF
          · skip
            refine aw_aload_n dX8_joinFields_81 rfl ?_
            refine aw_iload dX8_joinFields_82 rfl ?_
            refine aw_iload dX8_joinFields_84 rfl ?_
            refine aw_aload_n dX8_joinFields_86 rfl ?_
            refine gf8_columns dX8_joinFields_87 kf8_113 hk ?_
            refine aw_eq hc ?_
            refine aw_isub dX8_joinFields_90 ?_
            refine aw_eq (show _ = nI (r * nc + c - nc) from pk_sub (by have := Nat.mul_le_mul_right nc h_68; omega)) ?_
            refine cvv2 dX8_joinFields_91 km8_146 ok_X1_join rfl rfl (by decide) k_22 (Nat.le_of_ble_eq_true rfl) ⟨Nat.le_of_ble_eq_true rfl, Nat.le_of_ble_eq_true rfl⟩ rfl rfl (ct_Groups_join (n := nr * nc) (a := r * nc + c) (b := r * nc + c - nc) k_22 (show Fo _ _ _ by simp only [uA]; exact hF) (by omega) (by omega) (by omega)) ?_
            intro σ5 hp_91
            obtain ⟨M2, rfl, hM2⟩ := hp_91
            refine aw_inc (nI (c + 1)) dX8_joinFields_94 rfl (Nat.le_of_ble_eq_true rfl) (nI_1 c) ?_
            refine aw_goto dX8_joinFields_97 ?_
            refine ih2 (nn2 - 1) _ _ (by omega) ⟨c + 1, by omega, M2, _, by simp only [uA_uA], ?_, rfl⟩
            show Fo (nr * nc) (labF sd nc (r * nc + c + 1)) _
            rw [labF_rc hcn]
            unfold stepF
            rw [if_pos (show (0 < r ∧ ¬ sd 0 r c = true) from ⟨h_68, h_78⟩), if_neg (show ¬ (0 < c ∧ ¬ sd 1 r c = true) from fun z => z.2 h_54)]
            exact hM2
      · skip
        refine aw_aload_n dX8_joinFields_57 rfl ?_
        refine aw_iload dX8_joinFields_58 rfl ?_
        refine aw_iload dX8_joinFields_60 rfl ?_
        refine aw_ic (nI 1) dX8_joinFields_62 (by decide) ?_
        refine aw_isub dX8_joinFields_63 ?_
        refine aw_eq (show _ = nI (r * nc + c - 1) from pk_sub (by omega)) ?_
        refine cvv2 dX8_joinFields_64 km8_146 ok_X1_join rfl rfl (by decide) k_22 (Nat.le_of_ble_eq_true rfl) ⟨Nat.le_of_ble_eq_true rfl, Nat.le_of_ble_eq_true rfl⟩ rfl rfl (ct_Groups_join (n := nr * nc) (a := r * nc + c) (b := r * nc + c - 1) k_22 (show Fo _ _ _ by simp only [uA]; exact hF) (by omega) (by omega) (by omega)) ?_
        intro σ4 hp_64
        obtain ⟨M1, rfl, hM1⟩ := hp_64
        refine aw_iload_n dX8_joinFields_67 rfl ?_
        refine aw_if_leN dX8_joinFields_68 rfl (by omega) (fun h_68 => ?_) (fun h_68 => ?_)
        · skip
          refine aw_inc (nI (c + 1)) dX8_joinFields_94 rfl (Nat.le_of_ble_eq_true rfl) (nI_1 c) ?_
          refine aw_goto dX8_joinFields_97 ?_
          refine ih2 (nn2 - 1) _ _ (by omega) ⟨c + 1, by omega, M1, _, by simp only [uA_uA], ?_, rfl⟩
          show Fo (nr * nc) (labF sd nc (r * nc + c + 1)) _
          rw [labF_rc hcn]
          unfold stepF
          rw [if_neg (show ¬ (0 < r ∧ ¬ sd 0 r c = true) from fun z => absurd z.1 (by omega)), if_pos (show (0 < c ∧ ¬ sd 1 r c = true) from ⟨h_44, h_54⟩)]
          exact hM1
        · skip
          refine aw_aload_n dX8_joinFields_71 rfl ?_
          refine aw_ic (nI 0) dX8_joinFields_72 (by decide) ?_
          refine aw_iload_n dX8_joinFields_73 rfl ?_
          refine aw_iload_n dX8_joinFields_74 rfl ?_
          refine cqi3 dX8_joinFields_75 km8_143 ok_X8_hasRuled rfl rfl (by decide) hk (Nat.le_of_ble_eq_true rfl) ⟨Nat.le_of_ble_eq_true rfl, Nat.le_of_ble_eq_true rfl⟩ rfl rfl (ct_hasRuled (w := 0) (r := r) (c := c) (sd := sd) (show TaD _ o nr nc from hT0) (fun w r c hi => by simp only [uA_uA]; show uA _ 23 _ (o + 6) _ = _; rw [uA_n hne23]; exact hS w r c hi) (Or.inl ⟨rfl, by omega, by omega⟩)) ?_
          refine aw_if_neB dX8_joinFields_78 rfl (fun h_78 => ?_) (fun h_78 => ?_)
          · skip
            refine aw_inc (nI (c + 1)) dX8_joinFields_94 rfl (Nat.le_of_ble_eq_true rfl) (nI_1 c) ?_
            refine aw_goto dX8_joinFields_97 ?_
            refine ih2 (nn2 - 1) _ _ (by omega) ⟨c + 1, by omega, M1, _, by simp only [uA_uA], ?_, rfl⟩
            show Fo (nr * nc) (labF sd nc (r * nc + c + 1)) _
            rw [labF_rc hcn]
            unfold stepF
            rw [if_neg (show ¬ (0 < r ∧ ¬ sd 0 r c = true) from fun z => z.2 h_78), if_pos (show (0 < c ∧ ¬ sd 1 r c = true) from ⟨h_44, h_54⟩)]
            exact hM1
          · skip
            refine aw_aload_n dX8_joinFields_81 rfl ?_
            refine aw_iload dX8_joinFields_82 rfl ?_
            refine aw_iload dX8_joinFields_84 rfl ?_
            refine aw_aload_n dX8_joinFields_86 rfl ?_
            refine gf8_columns dX8_joinFields_87 kf8_113 hk ?_
            refine aw_eq hc ?_
            refine aw_isub dX8_joinFields_90 ?_
            refine aw_eq (show _ = nI (r * nc + c - nc) from pk_sub (by have := Nat.mul_le_mul_right nc h_68; omega)) ?_
            refine cvv2 dX8_joinFields_91 km8_146 ok_X1_join rfl rfl (by decide) k_22 (Nat.le_of_ble_eq_true rfl) ⟨Nat.le_of_ble_eq_true rfl, Nat.le_of_ble_eq_true rfl⟩ rfl rfl (ct_Groups_join (n := nr * nc) (a := r * nc + c) (b := r * nc + c - nc) k_22 (show Fo _ _ _ by simp only [uA]; exact hM1) (by omega) (by omega) (by omega)) ?_
            intro σ5 hp_91
            obtain ⟨M2, rfl, hM2⟩ := hp_91
            refine aw_inc (nI (c + 1)) dX8_joinFields_94 rfl (Nat.le_of_ble_eq_true rfl) (nI_1 c) ?_
            refine aw_goto dX8_joinFields_97 ?_
            refine ih2 (nn2 - 1) _ _ (by omega) ⟨c + 1, by omega, M2, _, by simp only [uA_uA], ?_, rfl⟩
            show Fo (nr * nc) (labF sd nc (r * nc + c + 1)) _
            rw [labF_rc hcn]
            unfold stepF
            rw [if_pos (show (0 < r ∧ ¬ sd 0 r c = true) from ⟨h_68, h_78⟩), if_pos (show (0 < c ∧ ¬ sd 1 r c = true) from ⟨h_44, h_54⟩)]
            exact hM2

