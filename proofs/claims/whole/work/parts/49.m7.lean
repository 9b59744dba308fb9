/-- what the reference holds of a table's rules and lines -/
def TbF (σ : SG) (t m rc nr nc : Nat) (inT : Nat → Bool) (R : Nat → Nat → Nat) : Prop := (σ.1 328 176 = nI m ∧ (∀ r k, r < m → k < 6 → σ.2.1 181 (7 * r + k) = nI (R r k)) ∧ (∀ r k, r < m → k < 6 → R r k ≤ 99) ∧ m ≤ 24 ∧ (∀ r, r < m → (σ.2.1 181 (7 * r + 6) = nI t ↔ inT r = true))) ∧ (σ.2.1 179 2 = nI rc ∧ rc ≤ 5 ∧ t < 6) ∧ ((lnS inT R m).1 0 = nr + 1 ∧ (lnS inT R m).1 1 = nc + 1) ∧ ((1 ≤ nr ∧ nr ≤ 21) ∧ (1 ≤ nc ∧ nc ≤ 21)) ∧ (∀ w l, (lnS inT R m).2 w l ≤ 99) ∧ (∀ w l, w < 2 → l < (lnS inT R m).1 w → σ.2.1 183 (44 * t + 22 * w + l) = nI ((lnS inT R m).2 w l)) ∧ σ.2.1 184 (2 * t + 0) = nI (nr + 1) ∧ σ.2.1 184 (2 * t + 1) = nI (nc + 1)
theorem TbF.keep {σ : SG} {J B : Nat → Nat → Int32} {π : Nat → Nat} {t m rc nr nc : Nat} {inT : Nat → Bool} {R : Nat → Nat → Nat} (h : TbF σ t m rc nr nc inT R) (hJ : J 328 176 = σ.1 328 176) (h1 : B 179 = σ.2.1 179) (h2 : B 181 = σ.2.1 181) (h3 : B 183 = σ.2.1 183) (h4 : B 184 = σ.2.1 184) : TbF (J, B, π) t m rc nr nc inT R := by
  unfold TbF at h ⊢
  rw [show ((J, B, π) : SG).1 = J from rfl, show ((J, B, π) : SG).2.1 = B from rfl, hJ, h1, h2, h3, h4]
  exact h
section RUF
variable {g : GG} {σ : SG} {t m rc nr nc : Nat} {inT : Nat → Bool} {R : Nat → Nat → Nat}
theorem ct_ruledF (h : TbF σ t m rc nr nc inT R) {w r c : Nat} (hi : sdIn nr nc w r c) : Cti g yX10_isRuled cX10_isRuled 6 (some .boolean) (rmm 2 50) [.ref (ad g 176), .int (nI t), .int (nI w), .int (nI r), .int (nI c)] σ (fun x σ' => x = (if tsd inT R m rc w r c = true then 1 else 0) ∧ σ' = σ) := ct_isRuled h.1.1 h.1.2.1 h.1.2.2.1 h.1.2.2.2.1 h.1.2.2.2.2 h.2.1.1 h.2.1.2.1 h.2.1.2.2 h.2.2.1 ⟨h.2.2.2.1.1.2, h.2.2.2.1.2.2⟩ h.2.2.2.2.1 h.2.2.2.2.2.1 hi
theorem ct_rowsF (h : TbF σ t m rc nr nc inT R) : Cti g yX10_rowsOf cX10_rowsOf 2 (some .int) (rmm 0 0) [.ref (ad g 176), .int (nI t)] σ (fun x σ' => x = nI (nr + 1 - 1) ∧ σ' = σ) := ct_rowsOf h.2.1.2.2 h.2.2.2.2.2.2.1 (by omega)
theorem ct_columnsF (h : TbF σ t m rc nr nc inT R) : Cti g yX10_columnsOf cX10_columnsOf 2 (some .int) (rmm 0 0) [.ref (ad g 176), .int (nI t)] σ (fun x σ' => x = nI (nc + 1 - 1) ∧ σ' = σ) := ct_columnsOf h.2.1.2.2 h.2.2.2.2.2.2.2 (by omega)
end RUF
theorem u5 {h : Nat → Int32} {b : Nat} (w : Nat → Nat) : ∃ h', upd (upd (upd (upd (upd h b (nI (w 0))) (b + 1) (nI (w 1))) (b + 2) (nI (w 2))) (b + 3) (nI (w 3))) (b + 4) (nI (w 4)) = h' ∧ (∀ j, j < 5 → h' (b + j) = nI (w j)) ∧ ∀ x, (x < b ∨ b + 5 ≤ x) → h' x = h x := by
  refine ⟨_, rfl, fun j hj => ?_, fun x hx => ?_⟩
  · rcases (by omega : j = 0 ∨ j = 1 ∨ j = 2 ∨ j = 3 ∨ j = 4) with rfl | rfl | rfl | rfl | rfl
    · rw [pk_un (by omega), pk_un (by omega), pk_un (by omega), pk_un (by omega)]
      exact pk_us
    · rw [pk_un (by omega), pk_un (by omega), pk_un (by omega), pk_us]
    · rw [pk_un (by omega), pk_un (by omega), pk_us]
    · rw [pk_un (by omega), pk_us]
    · rw [pk_us]
  · rw [pk_un (by omega), pk_un (by omega), pk_un (by omega), pk_un (by omega), pk_un (by omega)]
/-- a field taken into a cell, as the reference does it -/
def wwC (v : Nat → Nat) (r c j : Nat) : Nat := if j = 0 then min (v 0) r else if j = 1 then min (v 1) c else if j = 2 then max (v 0 + v 2) (r + 1) - min (v 0) r else if j = 3 then max (v 1 + v 3) (c + 1) - min (v 1) c else v 4 + 1
theorem ww_wv {v : Nat → Nat} {r c : Nat} (h0 : v 0 ≤ r) (h2 : v 0 + v 2 ≤ r + 1) {j : Nat} (hj : j < 5) : wwC v r c j = wvC v r c j := by
  have hs := wv_sum v r c
  have h1 : wvC v r c 1 = min (v 1) c := rfl
  rcases (by omega : j = 0 ∨ j = 1 ∨ j = 2 ∨ j = 3 ∨ j = 4) with rfl | rfl | rfl | rfl | rfl
  · show min (v 0) r = v 0
    omega
  · rfl
  · show max (v 0 + v 2) (r + 1) - min (v 0) r = r - v 0 + 1
    omega
  · show max (v 1 + v 3) (c + 1) - min (v 1) c = _
    omega
  · rfl
set_option maxHeartbeats 4000000 in
set_option maxRecDepth 100000 in
theorem ct_addField0 {g : GG} {σ : SG} {q r c : Nat} (hq : q < 121) (hr : r < 999) (hc : c < 999) (h4 : σ.2.1 188 (6 * q + 4) = nI 0) : Ctv g yX10_addField cX10_addField 8 (rmm 1 21) [.ref (ad g 176), .int (nI q), .int (nI r), .int (nI c)] σ (fun σ' => ∃ h, σ' = (σ.1, uA σ.2.1 188 h, σ.2.2) ∧ (∀ j, j < 5 → h (6 * q + j) = nI (bvC r c j)) ∧ ∀ x, (x < 6 * q ∨ 6 * q + 5 ≤ x) → h x = σ.2.1 188 x) := by
  refine ct_of (own := RX10) (lv := [some (.ref (ad g 176)), some (.int (nI q)), some (.int (nI r)), some (.int (nI c)), none, none, none, none]) rfl (by decide) (Nat.le_of_ble_eq_true rfl) (by intro u hu; simp only [List.mem_cons, List.not_mem_nil, or_false] at hu; rcases hu with rfl | rfl | rfl | rfl <;> rfl) (lv_ok [.ref (ad g 176), .int (nI q), .int (nI r), .int (nI c)] 4) ?_
  have hl188 := l_188
  refine aw_bi (nI 6) dX10_addField_0 (by decide) ?_
  refine aw_iload_n dX10_addField_2 rfl ?_
  refine aw_imul dX10_addField_3 ?_
  refine aw_eq (show _ = nI (6 * q) by rw [pk_mul]) ?_
  refine aw_istore dX10_addField_4 (Nat.le_of_ble_eq_true rfl) ?_
  refine aw_aload_n dX10_addField_6 rfl ?_
  refine gf10_cells dX10_addField_7 kf10_43 k_176 ?_
  refine aw_eqr (b := 188) rfl ?_
  refine aw_iload dX10_addField_10 rfl ?_
  refine aw_ld (6 * q) dX10_addField_12 k_188 (rfl) (by omega) ?_
  refine aw_aload_n dX10_addField_13 rfl ?_
  refine gf10_cells dX10_addField_14 kf10_43 k_176 ?_
  refine aw_eqr (b := 188) rfl ?_
  refine aw_iload dX10_addField_17 rfl ?_
  refine aw_ic (nI 2) dX10_addField_19 (by decide) ?_
  refine aw_iadd dX10_addField_20 ?_
  refine aw_ld (6 * q + 2) dX10_addField_21 k_188 (by rw [nI_add]) (by omega) ?_
  refine aw_iadd dX10_addField_22 ?_
  refine aw_istore dX10_addField_23 (Nat.le_of_ble_eq_true rfl) ?_
  refine aw_aload_n dX10_addField_25 rfl ?_
  refine gf10_cells dX10_addField_26 kf10_43 k_176 ?_
  refine aw_eqr (b := 188) rfl ?_
  refine aw_iload dX10_addField_29 rfl ?_
  refine aw_ic (nI 1) dX10_addField_31 (by decide) ?_
  refine aw_iadd dX10_addField_32 ?_
  refine aw_ld (6 * q + 1) dX10_addField_33 k_188 (by rw [nI_add]) (by omega) ?_
  refine aw_aload_n dX10_addField_34 rfl ?_
  refine gf10_cells dX10_addField_35 kf10_43 k_176 ?_
  refine aw_eqr (b := 188) rfl ?_
  refine aw_iload dX10_addField_38 rfl ?_
  refine aw_ic (nI 3) dX10_addField_40 (by decide) ?_
  refine aw_iadd dX10_addField_41 ?_
  refine aw_ld (6 * q + 3) dX10_addField_42 k_188 (by rw [nI_add]) (by omega) ?_
  refine aw_iadd dX10_addField_43 ?_
  refine aw_istore dX10_addField_44 (Nat.le_of_ble_eq_true rfl) ?_
  refine aw_aload_n dX10_addField_46 rfl ?_
  refine gf10_cells dX10_addField_47 kf10_43 k_176 ?_
  refine aw_eqr (b := 188) rfl ?_
  refine aw_iload dX10_addField_50 rfl ?_
  refine aw_ic (nI 4) dX10_addField_52 (by decide) ?_
  refine aw_iadd dX10_addField_53 ?_
  refine aw_ld (6 * q + 4) dX10_addField_54 k_188 (by rw [nI_add]) (by omega) ?_
  refine aw_eq (h4) ?_
  refine aw_if_neN dX10_addField_55 (a := 0) rfl (by decide) (fun h_55 => absurd h_55 (by omega)) (fun h_55 => ?_)
  refine aw_ic (nI 1) dX10_addField_58 (by decide) ?_
  refine aw_goto dX10_addField_59 ?_
  refine aw_istore dX10_addField_63 (Nat.le_of_ble_eq_true rfl) ?_
  refine aw_aload_n dX10_addField_65 rfl ?_
  refine gf10_cells dX10_addField_66 kf10_43 k_176 ?_
  refine aw_eqr (b := 188) rfl ?_
  refine aw_iload dX10_addField_69 rfl ?_
  refine aw_iload dX10_addField_71 rfl ?_
  refine aw_if_eq dX10_addField_73 (fun h => absurd h (by decide)) (fun _ => ?_)
  refine aw_iload_n dX10_addField_76 rfl ?_
  refine aw_goto dX10_addField_77 ?_
  refine aw_sto (6 * q) dX10_addField_91 k_188 (rfl) (by omega) ?_
  refine aw_aload_n dX10_addField_92 rfl ?_
  refine gf10_cells dX10_addField_93 kf10_43 k_176 ?_
  refine aw_eqr (b := 188) rfl ?_
  refine aw_iload dX10_addField_96 rfl ?_
  refine aw_ic (nI 1) dX10_addField_98 (by decide) ?_
  refine aw_iadd dX10_addField_99 ?_
  refine aw_iload dX10_addField_100 rfl ?_
  refine aw_if_eq dX10_addField_102 (fun h => absurd h (by decide)) (fun _ => ?_)
  refine aw_iload_n dX10_addField_105 rfl ?_
  refine aw_goto dX10_addField_106 ?_
  refine aw_sto (6 * q + 1) dX10_addField_122 k_188 (by rw [nI_add]) (by omega) ?_
  refine aw_sg (show _ = (σ.1, uA σ.2.1 188 (upd (upd (σ.2.1 188) (6 * q) (nI r)) (6 * q + 1) (nI c)), σ.2.2) by rw [uA_s, uA_uA]) ?_
  refine aw_aload_n dX10_addField_123 rfl ?_
  refine gf10_cells dX10_addField_124 kf10_43 k_176 ?_
  refine aw_eqr (b := 188) rfl ?_
  refine aw_iload dX10_addField_127 rfl ?_
  refine aw_ic (nI 2) dX10_addField_129 (by decide) ?_
  refine aw_iadd dX10_addField_130 ?_
  refine aw_iload dX10_addField_131 rfl ?_
  refine aw_if_eq dX10_addField_133 (fun h => absurd h (by decide)) (fun _ => ?_)
  refine aw_iload_n dX10_addField_136 rfl ?_
  refine aw_ic (nI 1) dX10_addField_137 (by decide) ?_
  refine aw_iadd dX10_addField_138 ?_
  refine aw_eq (nI_add _ _) ?_
  refine aw_goto dX10_addField_139 ?_
  refine aw_aload_n dX10_addField_150 rfl ?_
  refine gf10_cells dX10_addField_151 kf10_43 k_176 ?_
  refine aw_eqr (b := 188) rfl ?_
  refine aw_iload dX10_addField_154 rfl ?_
  refine aw_ld (6 * q) dX10_addField_156 k_188 (rfl) (by omega) ?_
  refine aw_eq (sB ((pk_un (by omega)).trans pk_us)) ?_
  refine aw_isub dX10_addField_157 ?_
  refine aw_eq (show _ = nI 1 from (pk_sub (by omega)).trans (congrArg nI (by omega))) ?_
  refine aw_sto (6 * q + 2) dX10_addField_158 k_188 (by rw [nI_add]) (by omega) ?_
  refine aw_sg (show _ = (σ.1, uA σ.2.1 188 (upd (upd (upd (σ.2.1 188) (6 * q) (nI r)) (6 * q + 1) (nI c)) (6 * q + 2) (nI 1)), σ.2.2) by rw [uA_s, uA_uA]) ?_
  refine aw_aload_n dX10_addField_159 rfl ?_
  refine gf10_cells dX10_addField_160 kf10_43 k_176 ?_
  refine aw_eqr (b := 188) rfl ?_
  refine aw_iload dX10_addField_163 rfl ?_
  refine aw_ic (nI 3) dX10_addField_165 (by decide) ?_
  refine aw_iadd dX10_addField_166 ?_
  refine aw_iload dX10_addField_167 rfl ?_
  refine aw_if_eq dX10_addField_169 (fun h => absurd h (by decide)) (fun _ => ?_)
  refine aw_iload_n dX10_addField_172 rfl ?_
  refine aw_ic (nI 1) dX10_addField_173 (by decide) ?_
  refine aw_iadd dX10_addField_174 ?_
  refine aw_eq (nI_add _ _) ?_
  refine aw_goto dX10_addField_175 ?_
  refine aw_aload_n dX10_addField_186 rfl ?_
  refine gf10_cells dX10_addField_187 kf10_43 k_176 ?_
  refine aw_eqr (b := 188) rfl ?_
  refine aw_iload dX10_addField_190 rfl ?_
  refine aw_ic (nI 1) dX10_addField_192 (by decide) ?_
  refine aw_iadd dX10_addField_193 ?_
  refine aw_ld (6 * q + 1) dX10_addField_194 k_188 (by rw [nI_add]) (by omega) ?_
  refine aw_eq (sB ((pk_un (by omega)).trans pk_us)) ?_
  refine aw_isub dX10_addField_195 ?_
  refine aw_eq (show _ = nI 1 from (pk_sub (by omega)).trans (congrArg nI (by omega))) ?_
  refine aw_sto (6 * q + 3) dX10_addField_196 k_188 (by rw [nI_add]) (by omega) ?_
  refine aw_sg (show _ = (σ.1, uA σ.2.1 188 (upd (upd (upd (upd (σ.2.1 188) (6 * q) (nI r)) (6 * q + 1) (nI c)) (6 * q + 2) (nI 1)) (6 * q + 3) (nI 1)), σ.2.2) by rw [uA_s, uA_uA]) ?_
  refine aw_aload_n dX10_addField_197 rfl ?_
  refine gf10_cells dX10_addField_198 kf10_43 k_176 ?_
  refine aw_eqr (b := 188) rfl ?_
  refine aw_iload dX10_addField_201 rfl ?_
  refine aw_ic (nI 4) dX10_addField_203 (by decide) ?_
  refine aw_iadd dX10_addField_204 ?_
  refine aw_dup2 dX10_addField_205 rfl rfl ?_
  refine aw_ld (6 * q + 4) dX10_addField_206 k_188 (by rw [nI_add]) (by omega) ?_
  refine aw_eq (sB ((pk_un (by omega)).trans ((pk_un (by omega)).trans ((pk_un (by omega)).trans ((pk_un (by omega)).trans (h4)))))) ?_
  refine aw_ic (nI 1) dX10_addField_207 (by decide) ?_
  refine aw_iadd dX10_addField_208 ?_
  refine aw_eq (show _ = nI (0 + 1) by rw [nI_add]) ?_
  refine aw_sto (6 * q + 4) dX10_addField_209 k_188 (by rw [nI_add]) (by omega) ?_
  refine aw_sg (show _ = (σ.1, uA σ.2.1 188 (upd (upd (upd (upd (upd (σ.2.1 188) (6 * q) (nI r)) (6 * q + 1) (nI c)) (6 * q + 2) (nI 1)) (6 * q + 3) (nI 1)) (6 * q + 4) (nI (0 + 1))), σ.2.2) by rw [uA_s, uA_uA]) ?_
  exact aw_ret dX10_addField_210 (by obtain ⟨h, e, e1, e2⟩ := @u5 (σ.2.1 188) (6 * q) (bvC r c); exact ⟨h, by rw [← e]; rfl, e1, e2⟩)

set_option maxHeartbeats 4000000 in
set_option maxRecDepth 100000 in
theorem ct_addField1 {g : GG} {σ : SG} {q r c : Nat} {v : Nat → Nat} (hq : q < 121) (hr : r < 999) (hc : c < 999) (hv : ∀ j, j < 5 → σ.2.1 188 (6 * q + j) = nI (v j)) (hv4 : 1 ≤ v 4) (hvb : ∀ j, j < 5 → v j ≤ 999) : Ctv g yX10_addField cX10_addField 8 (rmm 1 21) [.ref (ad g 176), .int (nI q), .int (nI r), .int (nI c)] σ (fun σ' => ∃ h, σ' = (σ.1, uA σ.2.1 188 h, σ.2.2) ∧ (∀ j, j < 5 → h (6 * q + j) = nI (wwC v r c j)) ∧ ∀ x, (x < 6 * q ∨ 6 * q + 5 ≤ x) → h x = σ.2.1 188 x) := by
  refine ct_of (own := RX10) (lv := [some (.ref (ad g 176)), some (.int (nI q)), some (.int (nI r)), some (.int (nI c)), none, none, none, none]) rfl (by decide) (Nat.le_of_ble_eq_true rfl) (by intro u hu; simp only [List.mem_cons, List.not_mem_nil, or_false] at hu; rcases hu with rfl | rfl | rfl | rfl <;> rfl) (lv_ok [.ref (ad g 176), .int (nI q), .int (nI r), .int (nI c)] 4) ?_
  have hl188 := l_188
  have b0 := hvb 0 (by decide)
  have b1 := hvb 1 (by decide)
  have b2 := hvb 2 (by decide)
  have b3 := hvb 3 (by decide)
  have b4 := hvb 4 (by decide)
  refine aw_bi (nI 6) dX10_addField_0 (by decide) ?_
  refine aw_iload_n dX10_addField_2 rfl ?_
  refine aw_imul dX10_addField_3 ?_
  refine aw_eq (show _ = nI (6 * q) by rw [pk_mul]) ?_
  refine aw_istore dX10_addField_4 (Nat.le_of_ble_eq_true rfl) ?_
  refine aw_aload_n dX10_addField_6 rfl ?_
  refine gf10_cells dX10_addField_7 kf10_43 k_176 ?_
  refine aw_eqr (b := 188) rfl ?_
  refine aw_iload dX10_addField_10 rfl ?_
  refine aw_ld (6 * q) dX10_addField_12 k_188 (rfl) (by omega) ?_
  refine aw_eq (hv 0 (by decide)) ?_
  refine aw_aload_n dX10_addField_13 rfl ?_
  refine gf10_cells dX10_addField_14 kf10_43 k_176 ?_
  refine aw_eqr (b := 188) rfl ?_
  refine aw_iload dX10_addField_17 rfl ?_
  refine aw_ic (nI 2) dX10_addField_19 (by decide) ?_
  refine aw_iadd dX10_addField_20 ?_
  refine aw_ld (6 * q + 2) dX10_addField_21 k_188 (by rw [nI_add]) (by omega) ?_
  refine aw_eq (hv 2 (by decide)) ?_
  refine aw_iadd dX10_addField_22 ?_
  refine aw_eq (nI_add _ _) ?_
  refine aw_istore dX10_addField_23 (Nat.le_of_ble_eq_true rfl) ?_
  refine aw_aload_n dX10_addField_25 rfl ?_
  refine gf10_cells dX10_addField_26 kf10_43 k_176 ?_
  refine aw_eqr (b := 188) rfl ?_
  refine aw_iload dX10_addField_29 rfl ?_
  refine aw_ic (nI 1) dX10_addField_31 (by decide) ?_
  refine aw_iadd dX10_addField_32 ?_
  refine aw_ld (6 * q + 1) dX10_addField_33 k_188 (by rw [nI_add]) (by omega) ?_
  refine aw_eq (hv 1 (by decide)) ?_
  refine aw_aload_n dX10_addField_34 rfl ?_
  refine gf10_cells dX10_addField_35 kf10_43 k_176 ?_
  refine aw_eqr (b := 188) rfl ?_
  refine aw_iload dX10_addField_38 rfl ?_
  refine aw_ic (nI 3) dX10_addField_40 (by decide) ?_
  refine aw_iadd dX10_addField_41 ?_
  refine aw_ld (6 * q + 3) dX10_addField_42 k_188 (by rw [nI_add]) (by omega) ?_
  refine aw_eq (hv 3 (by decide)) ?_
  refine aw_iadd dX10_addField_43 ?_
  refine aw_eq (nI_add _ _) ?_
  refine aw_istore dX10_addField_44 (Nat.le_of_ble_eq_true rfl) ?_
  refine aw_aload_n dX10_addField_46 rfl ?_
  refine gf10_cells dX10_addField_47 kf10_43 k_176 ?_
  refine aw_eqr (b := 188) rfl ?_
  refine aw_iload dX10_addField_50 rfl ?_
  refine aw_ic (nI 4) dX10_addField_52 (by decide) ?_
  refine aw_iadd dX10_addField_53 ?_
  refine aw_ld (6 * q + 4) dX10_addField_54 k_188 (by rw [nI_add]) (by omega) ?_
  refine aw_eq (hv 4 (by decide)) ?_
  refine aw_if_neN dX10_addField_55 (a := v 4) rfl (by omega) (fun h_55 => ?_) (fun h_55 => absurd h_55 (by omega))
  refine aw_ic (nI 0) dX10_addField_62 (by decide) ?_
  refine aw_istore dX10_addField_63 (Nat.le_of_ble_eq_true rfl) ?_
  refine aw_aload_n dX10_addField_65 rfl ?_
  refine gf10_cells dX10_addField_66 kf10_43 k_176 ?_
  refine aw_eqr (b := 188) rfl ?_
  refine aw_iload dX10_addField_69 rfl ?_
  refine aw_iload dX10_addField_71 rfl ?_
  refine aw_if_eq dX10_addField_73 (fun _ => ?_) (fun h => absurd (by decide) h)
  refine aw_aload_n dX10_addField_80 rfl ?_
  refine gf10_cells dX10_addField_81 kf10_43 k_176 ?_
  refine aw_eqr (b := 188) rfl ?_
  refine aw_iload dX10_addField_84 rfl ?_
  refine aw_ld (6 * q) dX10_addField_86 k_188 (rfl) (by omega) ?_
  refine aw_eq (hv 0 (by decide)) ?_
  refine aw_iload_n dX10_addField_87 rfl ?_
  refine csq2 dX10_addField_88 km10_102 ok_X10_less (Nat.le_of_ble_eq_true rfl) ⟨Nat.le_of_ble_eq_true rfl, Nat.le_of_ble_eq_true rfl⟩ rfl rfl (ct_less (by omega) (by omega)) ?_
  refine aw_sto (6 * q) dX10_addField_91 k_188 (rfl) (by omega) ?_
  refine aw_aload_n dX10_addField_92 rfl ?_
  refine gf10_cells dX10_addField_93 kf10_43 k_176 ?_
  refine aw_eqr (b := 188) rfl ?_
  refine aw_iload dX10_addField_96 rfl ?_
  refine aw_ic (nI 1) dX10_addField_98 (by decide) ?_
  refine aw_iadd dX10_addField_99 ?_
  refine aw_iload dX10_addField_100 rfl ?_
  refine aw_if_eq dX10_addField_102 (fun _ => ?_) (fun h => absurd (by decide) h)
  refine aw_aload_n dX10_addField_109 rfl ?_
  refine gf10_cells dX10_addField_110 kf10_43 k_176 ?_
  refine aw_eqr (b := 188) rfl ?_
  refine aw_iload dX10_addField_113 rfl ?_
  refine aw_ic (nI 1) dX10_addField_115 (by decide) ?_
  refine aw_iadd dX10_addField_116 ?_
  refine aw_ld (6 * q + 1) dX10_addField_117 k_188 (by rw [nI_add]) (by omega) ?_
  refine aw_eq (sB ((pk_un (by omega)).trans (hv 1 (by decide)))) ?_
  refine aw_iload_n dX10_addField_118 rfl ?_
  refine csq2 dX10_addField_119 km10_102 ok_X10_less (Nat.le_of_ble_eq_true rfl) ⟨Nat.le_of_ble_eq_true rfl, Nat.le_of_ble_eq_true rfl⟩ rfl rfl (ct_less (by omega) (by omega)) ?_
  refine aw_sto (6 * q + 1) dX10_addField_122 k_188 (by rw [nI_add]) (by omega) ?_
  refine aw_sg (show _ = (σ.1, uA σ.2.1 188 (upd (upd (σ.2.1 188) (6 * q) (nI (min (v 0) r))) (6 * q + 1) (nI (min (v 1) c))), σ.2.2) by rw [uA_s, uA_uA]) ?_
  refine aw_aload_n dX10_addField_123 rfl ?_
  refine gf10_cells dX10_addField_124 kf10_43 k_176 ?_
  refine aw_eqr (b := 188) rfl ?_
  refine aw_iload dX10_addField_127 rfl ?_
  refine aw_ic (nI 2) dX10_addField_129 (by decide) ?_
  refine aw_iadd dX10_addField_130 ?_
  refine aw_iload dX10_addField_131 rfl ?_
  refine aw_if_eq dX10_addField_133 (fun _ => ?_) (fun h => absurd (by decide) h)
  refine aw_iload dX10_addField_142 rfl ?_
  refine aw_iload_n dX10_addField_144 rfl ?_
  refine aw_ic (nI 1) dX10_addField_145 (by decide) ?_
  refine aw_iadd dX10_addField_146 ?_
  refine aw_eq (nI_add _ _) ?_
  refine csq2 dX10_addField_147 km10_99 ok_X10_greater (Nat.le_of_ble_eq_true rfl) ⟨Nat.le_of_ble_eq_true rfl, Nat.le_of_ble_eq_true rfl⟩ rfl rfl (ct_greater (by omega) (by omega)) ?_
  refine aw_aload_n dX10_addField_150 rfl ?_
  refine gf10_cells dX10_addField_151 kf10_43 k_176 ?_
  refine aw_eqr (b := 188) rfl ?_
  refine aw_iload dX10_addField_154 rfl ?_
  refine aw_ld (6 * q) dX10_addField_156 k_188 (rfl) (by omega) ?_
  refine aw_eq (sB ((pk_un (by omega)).trans pk_us)) ?_
  refine aw_isub dX10_addField_157 ?_
  refine aw_eq (show _ = nI (max (v 0 + v 2) (r + 1) - min (v 0) r) from (pk_sub (by omega)).trans (congrArg nI (by omega))) ?_
  refine aw_sto (6 * q + 2) dX10_addField_158 k_188 (by rw [nI_add]) (by omega) ?_
  refine aw_sg (show _ = (σ.1, uA σ.2.1 188 (upd (upd (upd (σ.2.1 188) (6 * q) (nI (min (v 0) r))) (6 * q + 1) (nI (min (v 1) c))) (6 * q + 2) (nI (max (v 0 + v 2) (r + 1) - min (v 0) r))), σ.2.2) by rw [uA_s, uA_uA]) ?_
  refine aw_aload_n dX10_addField_159 rfl ?_
  refine gf10_cells dX10_addField_160 kf10_43 k_176 ?_
  refine aw_eqr (b := 188) rfl ?_
  refine aw_iload dX10_addField_163 rfl ?_
  refine aw_ic (nI 3) dX10_addField_165 (by decide) ?_
  refine aw_iadd dX10_addField_166 ?_
  refine aw_iload dX10_addField_167 rfl ?_
  refine aw_if_eq dX10_addField_169 (fun _ => ?_) (fun h => absurd (by decide) h)
  refine aw_iload dX10_addField_178 rfl ?_
  refine aw_iload_n dX10_addField_180 rfl ?_
  refine aw_ic (nI 1) dX10_addField_181 (by decide) ?_
  refine aw_iadd dX10_addField_182 ?_
  refine aw_eq (nI_add _ _) ?_
  refine csq2 dX10_addField_183 km10_99 ok_X10_greater (Nat.le_of_ble_eq_true rfl) ⟨Nat.le_of_ble_eq_true rfl, Nat.le_of_ble_eq_true rfl⟩ rfl rfl (ct_greater (by omega) (by omega)) ?_
  refine aw_aload_n dX10_addField_186 rfl ?_
  refine gf10_cells dX10_addField_187 kf10_43 k_176 ?_
  refine aw_eqr (b := 188) rfl ?_
  refine aw_iload dX10_addField_190 rfl ?_
  refine aw_ic (nI 1) dX10_addField_192 (by decide) ?_
  refine aw_iadd dX10_addField_193 ?_
  refine aw_ld (6 * q + 1) dX10_addField_194 k_188 (by rw [nI_add]) (by omega) ?_
  refine aw_eq (sB ((pk_un (by omega)).trans pk_us)) ?_
  refine aw_isub dX10_addField_195 ?_
  refine aw_eq (show _ = nI (max (v 1 + v 3) (c + 1) - min (v 1) c) from (pk_sub (by omega)).trans (congrArg nI (by omega))) ?_
  refine aw_sto (6 * q + 3) dX10_addField_196 k_188 (by rw [nI_add]) (by omega) ?_
  refine aw_sg (show _ = (σ.1, uA σ.2.1 188 (upd (upd (upd (upd (σ.2.1 188) (6 * q) (nI (min (v 0) r))) (6 * q + 1) (nI (min (v 1) c))) (6 * q + 2) (nI (max (v 0 + v 2) (r + 1) - min (v 0) r))) (6 * q + 3) (nI (max (v 1 + v 3) (c + 1) - min (v 1) c))), σ.2.2) by rw [uA_s, uA_uA]) ?_
  refine aw_aload_n dX10_addField_197 rfl ?_
  refine gf10_cells dX10_addField_198 kf10_43 k_176 ?_
  refine aw_eqr (b := 188) rfl ?_
  refine aw_iload dX10_addField_201 rfl ?_
  refine aw_ic (nI 4) dX10_addField_203 (by decide) ?_
  refine aw_iadd dX10_addField_204 ?_
  refine aw_dup2 dX10_addField_205 rfl rfl ?_
  refine aw_ld (6 * q + 4) dX10_addField_206 k_188 (by rw [nI_add]) (by omega) ?_
  refine aw_eq (sB ((pk_un (by omega)).trans ((pk_un (by omega)).trans ((pk_un (by omega)).trans ((pk_un (by omega)).trans (hv 4 (by decide))))))) ?_
  refine aw_ic (nI 1) dX10_addField_207 (by decide) ?_
  refine aw_iadd dX10_addField_208 ?_
  refine aw_eq (show _ = nI (v 4 + 1) by rw [nI_add]) ?_
  refine aw_sto (6 * q + 4) dX10_addField_209 k_188 (by rw [nI_add]) (by omega) ?_
  refine aw_sg (show _ = (σ.1, uA σ.2.1 188 (upd (upd (upd (upd (upd (σ.2.1 188) (6 * q) (nI (min (v 0) r))) (6 * q + 1) (nI (min (v 1) c))) (6 * q + 2) (nI (max (v 0 + v 2) (r + 1) - min (v 0) r))) (6 * q + 3) (nI (max (v 1 + v 3) (c + 1) - min (v 1) c))) (6 * q + 4) (nI (v 4 + 1))), σ.2.2) by rw [uA_s, uA_uA]) ?_
  exact aw_ret dX10_addField_210 (by obtain ⟨h, e, e1, e2⟩ := @u5 (σ.2.1 188) (6 * q) (wwC v r c); exact ⟨h, by rw [← e]; rfl, e1, e2⟩)

/-- whether a field is open to the outside -/
def opX (sd : Nat → Nat → Nat → Bool) (nr nc r c : Nat) : Bool := decide ((r = 0 ∧ ¬ sd 0 0 c = true) ∨ (r = nr - 1 ∧ ¬ sd 0 (r + 1) c = true) ∨ (c = 0 ∧ ¬ sd 1 r 0 = true) ∨ (c = nc - 1 ∧ ¬ sd 1 r (c + 1) = true))
set_option maxHeartbeats 4000000 in
set_option maxRecDepth 100000 in
theorem ct_isOpen {g : GG} {σ : SG} {t m rc nr nc r c : Nat} {inT : Nat → Bool} {R : Nat → Nat → Nat} (h : TbF σ t m rc nr nc inT R) (hr : r < nr) (hc : c < nc) : Cti g yX10_isOpen cX10_isOpen 8 (some .boolean) (rmm 3 75) [.ref (ad g 176), .int (nI t), .int (nI r), .int (nI c)] σ (fun x σ' => x = (if opX (tsd inT R m rc) nr nc r c = true then 1 else 0) ∧ σ' = σ) := by
  refine ct_of (own := RX10) (lv := [some (.ref (ad g 176)), some (.int (nI t)), some (.int (nI r)), some (.int (nI c)), none, none, none, none]) rfl (by decide) (Nat.le_of_ble_eq_true rfl) (by intro u hu; simp only [List.mem_cons, List.not_mem_nil, or_false] at hu; rcases hu with rfl | rfl | rfl | rfl <;> rfl) (lv_ok [.ref (ad g 176), .int (nI t), .int (nI r), .int (nI c)] 4) ?_
  obtain ⟨⟨n1, n2⟩, n3, n4⟩ := h.2.2.2.1
  have k106 : ∀ (v4 : Int32) (v5 : Int32) (v6 : Int32) (v7 : Int32) (e4 : v4 = if r = 0 ∧ ¬ tsd inT R m rc 0 0 c = true then 1 else 0) (e5 : v5 = if r = nr - 1 ∧ ¬ tsd inT R m rc 0 (r + 1) c = true then 1 else 0) (e6 : v6 = if c = 0 ∧ ¬ tsd inT R m rc 1 r 0 = true then 1 else 0) (e7 : v7 = if c = nc - 1 ∧ ¬ tsd inT R m rc 1 r (c + 1) = true then 1 else 0) , AW g cX10_isOpen 8 (some .boolean) (rmm 3 75) RX10 (va_Qi (fun x σ' => x = (if opX (tsd inT R m rc) nr nc r c = true then 1 else 0) ∧ σ' = σ) (wd g) (reg g)) 106 [some (.ref (ad g 176)), some (.int (nI t)), some (.int (nI r)), some (.int (nI c)), some (.int v4), some (.int v5), some (.int v6), some (.int v7)] [] σ := by
    intro v4 v5 v6 v7 e4 e5 e6 e7
    refine aw_iload dX10_isOpen_106 rfl ?_
    refine aw_if_neB dX10_isOpen_108 e4 (fun h_108 => ?_) (fun h_108 => ?_)
    · skip
      refine aw_ic (nI 1) dX10_isOpen_126 (by decide) ?_
      refine aw_goto dX10_isOpen_127 ?_
      exact aw_iretz dX10_isOpen_131 (by decide) (⟨(if_pos (decide_eq_true (Or.inl h_108))).symm, rfl⟩)
    · skip
      refine aw_iload dX10_isOpen_111 rfl ?_
      refine aw_if_neB dX10_isOpen_113 e5 (fun h_113 => ?_) (fun h_113 => ?_)
      · skip
        refine aw_ic (nI 1) dX10_isOpen_126 (by decide) ?_
        refine aw_goto dX10_isOpen_127 ?_
        exact aw_iretz dX10_isOpen_131 (by decide) (⟨(if_pos (decide_eq_true (Or.inr (Or.inl h_113)))).symm, rfl⟩)
      · skip
        refine aw_iload dX10_isOpen_116 rfl ?_
        refine aw_if_neB dX10_isOpen_118 e6 (fun h_118 => ?_) (fun h_118 => ?_)
        · skip
          refine aw_ic (nI 1) dX10_isOpen_126 (by decide) ?_
          refine aw_goto dX10_isOpen_127 ?_
          exact aw_iretz dX10_isOpen_131 (by decide) (⟨(if_pos (decide_eq_true (Or.inr (Or.inr (Or.inl h_118))))).symm, rfl⟩)
        · skip
          refine aw_iload dX10_isOpen_121 rfl ?_
          refine aw_if_eqB dX10_isOpen_123 e7 (fun h_123 => ?_) (fun h_123 => ?_)
          · skip
            refine aw_ic (nI 0) dX10_isOpen_130 (by decide) ?_
            exact aw_iretz dX10_isOpen_131 (by decide) (⟨(if_neg (fun z => (of_decide_eq_true z).elim h_108 (fun z => z.elim h_113 (fun z => z.elim h_118 h_123)))).symm, rfl⟩)
          · skip
            refine aw_ic (nI 1) dX10_isOpen_126 (by decide) ?_
            refine aw_goto dX10_isOpen_127 ?_
            exact aw_iretz dX10_isOpen_131 (by decide) (⟨(if_pos (decide_eq_true (Or.inr (Or.inr (Or.inr h_123))))).symm, rfl⟩)
  have k75 : ∀ (v4 : Int32) (v5 : Int32) (v6 : Int32) (e4 : v4 = if r = 0 ∧ ¬ tsd inT R m rc 0 0 c = true then 1 else 0) (e5 : v5 = if r = nr - 1 ∧ ¬ tsd inT R m rc 0 (r + 1) c = true then 1 else 0) (e6 : v6 = if c = 0 ∧ ¬ tsd inT R m rc 1 r 0 = true then 1 else 0) , AW g cX10_isOpen 8 (some .boolean) (rmm 3 75) RX10 (va_Qi (fun x σ' => x = (if opX (tsd inT R m rc) nr nc r c = true then 1 else 0) ∧ σ' = σ) (wd g) (reg g)) 75 [some (.ref (ad g 176)), some (.int (nI t)), some (.int (nI r)), some (.int (nI c)), some (.int v4), some (.int v5), some (.int v6), none] [] σ := by
    intro v4 v5 v6 e4 e5 e6
    refine aw_iload_n dX10_isOpen_75 rfl ?_
    refine aw_aload_n dX10_isOpen_76 rfl ?_
    refine aw_iload_n dX10_isOpen_77 rfl ?_
    refine cqi1 dX10_isOpen_78 km10_152 ok_X10_columnsOf rfl rfl (by decide) k_176 (Nat.le_of_ble_eq_true rfl) ⟨Nat.le_of_ble_eq_true rfl, Nat.le_of_ble_eq_true rfl⟩ rfl rfl (ct_columnsF h) ?_
    refine aw_ic (nI 1) dX10_isOpen_81 (by decide) ?_
    refine aw_isub dX10_isOpen_82 ?_
    refine aw_eq (show _ = nI (nc - 1) from (pk_sub (by omega)).trans (congrArg nI (by omega))) ?_
    refine aw_icmp_neN dX10_isOpen_83 rfl rfl (by omega) (by omega) (fun h_83 => ?_) (fun h_83 => ?_)
    · skip
      refine aw_ic (nI 0) dX10_isOpen_103 (by decide) ?_
      refine aw_istore dX10_isOpen_104 (Nat.le_of_ble_eq_true rfl) ?_
      exact k106 _ _ _ _ e4 e5 e6 ((if_neg (fun z => h_83 z.1)).symm)
    · skip
      refine aw_aload_n dX10_isOpen_86 rfl ?_
      refine aw_iload_n dX10_isOpen_87 rfl ?_
      refine aw_ic (nI 1) dX10_isOpen_88 (by decide) ?_
      refine aw_iload_n dX10_isOpen_89 rfl ?_
      refine aw_iload_n dX10_isOpen_90 rfl ?_
      refine aw_ic (nI 1) dX10_isOpen_91 (by decide) ?_
      refine aw_iadd dX10_isOpen_92 ?_
      refine aw_eq (nI_add _ _) ?_
      refine cqi4 dX10_isOpen_93 km10_163 ok_X10_isRuled rfl rfl (by decide) k_176 (Nat.le_of_ble_eq_true rfl) ⟨Nat.le_of_ble_eq_true rfl, Nat.le_of_ble_eq_true rfl⟩ rfl rfl (ct_ruledF h (Or.inr ⟨rfl, by omega, by omega⟩)) ?_
      refine aw_if_neB dX10_isOpen_96 rfl (fun h_96 => ?_) (fun h_96 => ?_)
      · skip
        refine aw_ic (nI 0) dX10_isOpen_103 (by decide) ?_
        refine aw_istore dX10_isOpen_104 (Nat.le_of_ble_eq_true rfl) ?_
        exact k106 _ _ _ _ e4 e5 e6 ((if_neg (fun z => z.2 h_96)).symm)
      · skip
        refine aw_ic (nI 1) dX10_isOpen_99 (by decide) ?_
        refine aw_goto dX10_isOpen_100 ?_
        refine aw_istore dX10_isOpen_104 (Nat.le_of_ble_eq_true rfl) ?_
        exact k106 _ _ _ _ e4 e5 e6 ((if_pos ⟨h_83, h_96⟩).symm)
  have k53 : ∀ (v4 : Int32) (v5 : Int32) (e4 : v4 = if r = 0 ∧ ¬ tsd inT R m rc 0 0 c = true then 1 else 0) (e5 : v5 = if r = nr - 1 ∧ ¬ tsd inT R m rc 0 (r + 1) c = true then 1 else 0) , AW g cX10_isOpen 8 (some .boolean) (rmm 3 75) RX10 (va_Qi (fun x σ' => x = (if opX (tsd inT R m rc) nr nc r c = true then 1 else 0) ∧ σ' = σ) (wd g) (reg g)) 53 [some (.ref (ad g 176)), some (.int (nI t)), some (.int (nI r)), some (.int (nI c)), some (.int v4), some (.int v5), none, none] [] σ := by
    intro v4 v5 e4 e5
    refine aw_iload_n dX10_isOpen_53 rfl ?_
    refine aw_if_neN dX10_isOpen_54 (a := c) rfl (by omega) (fun h_54 => ?_) (fun h_54 => ?_)
    · skip
      refine aw_ic (nI 0) dX10_isOpen_72 (by decide) ?_
      refine aw_istore dX10_isOpen_73 (Nat.le_of_ble_eq_true rfl) ?_
      exact k75 _ _ _ e4 e5 ((if_neg (fun z => h_54 z.1)).symm)
    · skip
      refine aw_aload_n dX10_isOpen_57 rfl ?_
      refine aw_iload_n dX10_isOpen_58 rfl ?_
      refine aw_ic (nI 1) dX10_isOpen_59 (by decide) ?_
      refine aw_iload_n dX10_isOpen_60 rfl ?_
      refine aw_ic (nI 0) dX10_isOpen_61 (by decide) ?_
      refine cqi4 dX10_isOpen_62 km10_163 ok_X10_isRuled rfl rfl (by decide) k_176 (Nat.le_of_ble_eq_true rfl) ⟨Nat.le_of_ble_eq_true rfl, Nat.le_of_ble_eq_true rfl⟩ rfl rfl (ct_ruledF (w := 1) (r := r) (c := 0) h (Or.inr ⟨rfl, by omega, by omega⟩)) ?_
      refine aw_if_neB dX10_isOpen_65 rfl (fun h_65 => ?_) (fun h_65 => ?_)
      · skip
        refine aw_ic (nI 0) dX10_isOpen_72 (by decide) ?_
        refine aw_istore dX10_isOpen_73 (Nat.le_of_ble_eq_true rfl) ?_
        exact k75 _ _ _ e4 e5 ((if_neg (fun z => z.2 h_65)).symm)
      · skip
        refine aw_ic (nI 1) dX10_isOpen_68 (by decide) ?_
        refine aw_goto dX10_isOpen_69 ?_
        refine aw_istore dX10_isOpen_73 (Nat.le_of_ble_eq_true rfl) ?_
        exact k75 _ _ _ e4 e5 ((if_pos ⟨h_54, h_65⟩).symm)
  have k22 : ∀ (v4 : Int32) (e4 : v4 = if r = 0 ∧ ¬ tsd inT R m rc 0 0 c = true then 1 else 0) , AW g cX10_isOpen 8 (some .boolean) (rmm 3 75) RX10 (va_Qi (fun x σ' => x = (if opX (tsd inT R m rc) nr nc r c = true then 1 else 0) ∧ σ' = σ) (wd g) (reg g)) 22 [some (.ref (ad g 176)), some (.int (nI t)), some (.int (nI r)), some (.int (nI c)), some (.int v4), none, none, none] [] σ := by
    intro v4 e4
    refine aw_iload_n dX10_isOpen_22 rfl ?_
    refine aw_aload_n dX10_isOpen_23 rfl ?_
    refine aw_iload_n dX10_isOpen_24 rfl ?_
    refine cqi1 dX10_isOpen_25 km10_148 ok_X10_rowsOf rfl rfl (by decide) k_176 (Nat.le_of_ble_eq_true rfl) ⟨Nat.le_of_ble_eq_true rfl, Nat.le_of_ble_eq_true rfl⟩ rfl rfl (ct_rowsF h) ?_
    refine aw_ic (nI 1) dX10_isOpen_28 (by decide) ?_
    refine aw_isub dX10_isOpen_29 ?_
    refine aw_eq (show _ = nI (nr - 1) from (pk_sub (by omega)).trans (congrArg nI (by omega))) ?_
    refine aw_icmp_neN dX10_isOpen_30 rfl rfl (by omega) (by omega) (fun h_30 => ?_) (fun h_30 => ?_)
    · skip
      refine aw_ic (nI 0) dX10_isOpen_50 (by decide) ?_
      refine aw_istore dX10_isOpen_51 (Nat.le_of_ble_eq_true rfl) ?_
      exact k53 _ _ e4 ((if_neg (fun z => h_30 z.1)).symm)
    · skip
      refine aw_aload_n dX10_isOpen_33 rfl ?_
      refine aw_iload_n dX10_isOpen_34 rfl ?_
      refine aw_ic (nI 0) dX10_isOpen_35 (by decide) ?_
      refine aw_iload_n dX10_isOpen_36 rfl ?_
      refine aw_ic (nI 1) dX10_isOpen_37 (by decide) ?_
      refine aw_iadd dX10_isOpen_38 ?_
      refine aw_eq (nI_add _ _) ?_
      refine aw_iload_n dX10_isOpen_39 rfl ?_
      refine cqi4 dX10_isOpen_40 km10_163 ok_X10_isRuled rfl rfl (by decide) k_176 (Nat.le_of_ble_eq_true rfl) ⟨Nat.le_of_ble_eq_true rfl, Nat.le_of_ble_eq_true rfl⟩ rfl rfl (ct_ruledF h (Or.inl ⟨rfl, by omega, by omega⟩)) ?_
      refine aw_if_neB dX10_isOpen_43 rfl (fun h_43 => ?_) (fun h_43 => ?_)
      · skip
        refine aw_ic (nI 0) dX10_isOpen_50 (by decide) ?_
        refine aw_istore dX10_isOpen_51 (Nat.le_of_ble_eq_true rfl) ?_
        exact k53 _ _ e4 ((if_neg (fun z => z.2 h_43)).symm)
      · skip
        refine aw_ic (nI 1) dX10_isOpen_46 (by decide) ?_
        refine aw_goto dX10_isOpen_47 ?_
        refine aw_istore dX10_isOpen_51 (Nat.le_of_ble_eq_true rfl) ?_
        exact k53 _ _ e4 ((if_pos ⟨h_30, h_43⟩).symm)
  refine aw_iload_n dX10_isOpen_0 rfl ?_
  refine aw_if_neN dX10_isOpen_1 (a := r) rfl (by omega) (fun h_1 => ?_) (fun h_1 => ?_)
  · skip
    refine aw_ic (nI 0) dX10_isOpen_19 (by decide) ?_
    refine aw_istore dX10_isOpen_20 (Nat.le_of_ble_eq_true rfl) ?_
    exact k22 _ ((if_neg (fun z => h_1 z.1)).symm)
  · skip
    refine aw_aload_n dX10_isOpen_4 rfl ?_
    refine aw_iload_n dX10_isOpen_5 rfl ?_
    refine aw_ic (nI 0) dX10_isOpen_6 (by decide) ?_
    refine aw_ic (nI 0) dX10_isOpen_7 (by decide) ?_
    refine aw_iload_n dX10_isOpen_8 rfl ?_
    refine cqi4 dX10_isOpen_9 km10_163 ok_X10_isRuled rfl rfl (by decide) k_176 (Nat.le_of_ble_eq_true rfl) ⟨Nat.le_of_ble_eq_true rfl, Nat.le_of_ble_eq_true rfl⟩ rfl rfl (ct_ruledF (w := 0) (r := 0) (c := c) h (Or.inl ⟨rfl, by omega, by omega⟩)) ?_
    refine aw_if_neB dX10_isOpen_12 rfl (fun h_12 => ?_) (fun h_12 => ?_)
    · skip
      refine aw_ic (nI 0) dX10_isOpen_19 (by decide) ?_
      refine aw_istore dX10_isOpen_20 (Nat.le_of_ble_eq_true rfl) ?_
      exact k22 _ ((if_neg (fun z => z.2 h_12)).symm)
    · skip
      refine aw_ic (nI 1) dX10_isOpen_15 (by decide) ?_
      refine aw_goto dX10_isOpen_16 ?_
      refine aw_istore dX10_isOpen_20 (Nat.le_of_ble_eq_true rfl) ?_
      exact k22 _ ((if_pos ⟨h_1, h_12⟩).symm)

