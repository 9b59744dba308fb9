theorem cel_0 {A : Nat → Nat → Int32} {L : Nat → Int32} : uA (uA (uA A 180 L) 187 (A 187)) 188 (A 188) = uA A 180 L := by
  have e1 : uA (uA A 180 L) 187 (A 187) = uA A 180 L := by
    have := uA_same (uA A 180 L) 187
    rwa [uA_n (by decide)] at this
  rw [e1]
  have := uA_same (uA A 180 L) 188
  rwa [uA_n (by decide)] at this
theorem cel_o {B : Nat → Nat → Int32} {ho hc : Nat → Int32} {k : Nat} {v : Int32} : uA (uA (uA B 187 ho) 188 hc) 187 (upd ((uA (uA B 187 ho) 188 hc) 187) k v) = uA (uA B 187 (upd ho k v)) 188 hc := by
  rw [show (uA (uA B 187 ho) 188 hc) 187 = ho by rw [uA_n (by decide), uA_s]]
  funext o
  by_cases h : o = 187
  · subst h
    rw [uA_s, uA_n (by decide), uA_s]
  · rw [uA_n h]
    by_cases h2 : o = 188
    · subst h2
      rw [uA_s, uA_s]
    · rw [uA_n h2, uA_n h, uA_n h2, uA_n h]
/-- whether a field of the label, below i, is open -/
def o5 (lab : Nat → Nat) (op : Nat → Bool) (ρ : Nat) : Nat → Bool := anyB (fun f => decide (lab f = ρ) && op f)
theorem o5_s {lab : Nat → Nat} {op : Nat → Bool} {ρ i : Nat} (h : lab i = ρ) : o5 lab op ρ (i + 1) = true ↔ o5 lab op ρ i = true ∨ op i = true := by
  unfold o5
  rw [any_s, h, decide_eq_true rfl, Bool.true_and]
theorem o5_n {lab : Nat → Nat} {op : Nat → Bool} {ρ i : Nat} (h : ¬ lab i = ρ) : o5 lab op ρ (i + 1) = o5 lab op ρ i := by
  unfold o5
  show (_ || (decide (lab i = ρ) && op i)) = _
  rw [decide_eq_false h, Bool.false_and, Bool.or_false]
theorem o5_0 {lab : Nat → Nat} {op : Nat → Bool} {i : Nat} (hL : Lb lab) : ¬ o5 lab op i i = true := fun h => by
  obtain ⟨k, hk, e⟩ := anyB_iff.mp h
  rw [Bool.and_eq_true, decide_eq_true_eq] at e
  have := hL.1 k
  omega
theorem cF_y {nc : Nat} {lab : Nat → Nat} {i : Nat} (h : lab i = i) : cFold nc lab i (i + 1) = bvC (i / nc) (i % nc) := by
  show (if lab i = i then _ else _) = _
  rw [if_pos h, if_pos rfl]
theorem cF_w {nc : Nat} {lab : Nat → Nat} {i : Nat} (h : lab i < i) : cFold nc lab (lab i) (i + 1) = wvC (cFold nc lab (lab i) i) (i / nc) (i % nc) := by
  show (if lab i = lab i then _ else _) = _
  rw [if_pos rfl, if_neg (by omega)]
theorem cF_n {nc : Nat} {lab : Nat → Nat} {i ρ : Nat} (h : ¬ lab i = ρ) : cFold nc lab ρ (i + 1) = cFold nc lab ρ i := by
  show (if lab i = ρ then _ else _) = _
  rw [if_neg h]
theorem cF_r {nc : Nat} {lab : Nat → Nat} {ρ : Nat} (hρ : lab ρ = ρ) : ∀ f, ρ < f → cFold nc lab ρ f 0 = ρ / nc ∧ cFold nc lab ρ f 0 + cFold nc lab ρ f 2 ≤ (f - 1) / nc + 1
  | 0, h => absurd h (Nat.not_lt_zero _)
  | f + 1, h => by
    by_cases e : f = ρ
    · subst e
      rw [cF_y hρ]
      exact ⟨rfl, Nat.le_refl _⟩
    · obtain ⟨i1, i2⟩ := cF_r hρ f (by omega)
      have hd : ρ / nc ≤ f / nc := Nat.div_le_div_right (by omega)
      by_cases q : lab f = ρ
      · subst q
        rw [cF_w (by omega)]
        refine ⟨i1, ?_⟩
        show cFold nc lab (lab f) f 0 + (f / nc - cFold nc lab (lab f) f 0 + 1) ≤ _
        rw [Nat.add_sub_cancel]
        omega
      · rw [cF_n q]
        refine ⟨i1, Nat.le_trans i2 ?_⟩
        have : (f - 1) / nc ≤ (f + 1 - 1) / nc := Nat.div_le_div_right (by omega)
        omega
def CeI (nc : Nat) (lab : Nat → Nat) (op : Nat → Bool) (CF i : Nat) (h0 h : Nat → Int32) : Prop := (∀ x, x < 6 * CF → h x = h0 x) ∧ ∀ ρ, ρ < i → lab ρ = ρ → (∀ j, j < 5 → h (6 * (CF + cnt lab ρ) + j) = nI (cFold nc lab ρ i j)) ∧ h (6 * (CF + cnt lab ρ) + 5) = nI (if o5 lab op ρ i = true then 2 else 0)
theorem CeI.step {nc : Nat} {lab : Nat → Nat} {op : Nat → Bool} {CF i : Nat} {h0 h h' : Nat → Int32} (H : CeI nc lab op CF i h0 h) (hL : Lb lab) (a1 : ∀ j, j < 5 → h' (6 * (CF + cnt lab (lab i)) + j) = nI (cFold nc lab (lab i) (i + 1) j)) (a2 : h' (6 * (CF + cnt lab (lab i)) + 5) = nI (if o5 lab op (lab i) (i + 1) = true then 2 else 0)) (a3 : ∀ x, (x < 6 * (CF + cnt lab (lab i)) ∨ 6 * (CF + cnt lab (lab i)) + 6 ≤ x) → h' x = h x) : CeI nc lab op CF (i + 1) h0 h' := by
  refine ⟨fun x hx => (a3 x (by omega)).trans (H.1 x hx), fun ρ hρ hr => ?_⟩
  by_cases e : lab i = ρ
  · subst e
    exact ⟨a1, a2⟩
  · have h1 : ρ < i := by
      rcases Nat.lt_or_ge ρ i with z | z
      · exact z
      · have : ρ = i := by omega
        rw [this] at e hr
        exact absurd hr e
    have h2 : cnt lab ρ ≠ cnt lab (lab i) := fun z => e (cnt_inj hr (hL.2 i) z).symm
    obtain ⟨b1, b2⟩ := H.2 ρ h1 hr
    rw [cF_n e, o5_n e]
    exact ⟨fun j hj => (a3 _ (by omega)).trans (b1 j hj), (a3 _ (by omega)).trans b2⟩
def kiN (nc : Nat) (lab : Nat → Nat) (op : Nat → Bool) (n ρ : Nat) : Nat := if o5 lab op ρ n = true then 2 else if cFold nc lab ρ n 4 < cFold nc lab ρ n 2 * cFold nc lab ρ n 3 then 1 else 0
def CeK (nc : Nat) (lab : Nat → Nat) (op : Nat → Bool) (CF n k : Nat) (h0 h : Nat → Int32) : Prop := (∀ x, x < 6 * CF → h x = h0 x) ∧ ∀ ρ, ρ < n → lab ρ = ρ → (∀ j, j < 5 → h (6 * (CF + cnt lab ρ) + j) = nI (cFold nc lab ρ n j)) ∧ h (6 * (CF + cnt lab ρ) + 5) = nI (if cnt lab ρ < k then kiN nc lab op n ρ else if o5 lab op ρ n = true then 2 else 0)
theorem CeK.step {nc : Nat} {lab : Nat → Nat} {op : Nat → Bool} {CF n ρ : Nat} {h0 h : Nat → Int32} {v : Nat} (H : CeK nc lab op CF n (cnt lab ρ) h0 h) (hr : lab ρ = ρ) (e : v = kiN nc lab op n ρ) : CeK nc lab op CF n (cnt lab ρ + 1) h0 (upd h (6 * (CF + cnt lab ρ) + 5) (nI v)) := by
  refine ⟨fun x hx => (pk_un (by omega)).trans (H.1 x hx), fun ρ' h1 h2 => ?_⟩
  obtain ⟨b1, b2⟩ := H.2 ρ' h1 h2
  refine ⟨fun j hj => (pk_un (by omega)).trans (b1 j hj), ?_⟩
  by_cases z : cnt lab ρ' = cnt lab ρ
  · rw [cnt_inj h2 hr z, pk_us, if_pos (by omega), e]
  · rw [pk_un (by omega), b2]
    by_cases y : cnt lab ρ' < cnt lab ρ
    · rw [if_pos y, if_pos (by omega)]
    · exact congrArg nI ((if_neg y).trans (if_neg (by omega)).symm)
set_option maxHeartbeats 4000000 in
set_option maxRecDepth 100000 in
theorem ct_findCells {g : GG} {σ : SG} {t m rc nr nc n FF CF : Nat} {inT : Nat → Bool} {R : Nat → Nat → Nat} (h : TbF σ t m rc nr nc inT R) (hn : nr * nc = n) (hF : σ.2.1 185 t = nI FF) (hC : σ.2.1 186 t = nI CF) (hFb : FF + n ≤ 121) (hCb : CF + cnt (labF (tsd inT R m rc) nc n) n ≤ 121) : Ctv g yX10_findCells cX10_findCells 7 (rmm 4 102) [.ref (ad g 176), .int (nI t)] σ (fun σ' => ∃ L ho hc, σ' = (σ.1, uA (uA (uA (uA (uA σ.2.1 180 L) 187 ho) 188 hc) 186 (upd (σ.2.1 186) (t + 1) (nI (CF + cnt (labF (tsd inT R m rc) nc n) n)))) 185 (upd (σ.2.1 185) (t + 1) (nI (FF + n))), σ.2.2) ∧ (∀ f, f < n → ho (FF + f) = nI (CF + cnt (labF (tsd inT R m rc) nc n) ((labF (tsd inT R m rc) nc n) f))) ∧ (∀ x, x < FF → ho x = σ.2.1 187 x) ∧ (∀ ρ, ρ < n → (labF (tsd inT R m rc) nc n) ρ = ρ → (∀ j, j < 5 → hc (6 * (CF + cnt (labF (tsd inT R m rc) nc n) ρ) + j) = nI (cFold nc (labF (tsd inT R m rc) nc n) ρ n j)) ∧ hc (6 * (CF + cnt (labF (tsd inT R m rc) nc n) ρ) + 5) = nI (kiN nc (labF (tsd inT R m rc) nc n) (fun f => opX (tsd inT R m rc) nr nc (f / nc) (f % nc)) n ρ)) ∧ ∀ x, x < 6 * CF → hc x = σ.2.1 188 x) := by
  refine ct_of (own := RX10) (lv := [some (.ref (ad g 176)), some (.int (nI t)), none, none, none, none, none]) rfl (by decide) (Nat.le_of_ble_eq_true rfl) (by intro u hu; simp only [List.mem_cons, List.not_mem_nil, or_false] at hu; rcases hu with rfl | rfl <;> rfl) (lv_ok [.ref (ad g 176), .int (nI t)] 5) ?_
  have hl180 := l_180
  have hl185 := l_185
  have hl186 := l_186
  have hl187 := l_187
  have hl188 := l_188
  have hb := h.2.2.2.1
  have ht6 := h.2.1.2.2
  refine aw_aload_n dX10_findCells_0 rfl ?_
  refine aw_iload_n dX10_findCells_1 rfl ?_
  refine cqi1 dX10_findCells_2 km10_152 ok_X10_columnsOf rfl rfl (by decide) k_176 (Nat.le_of_ble_eq_true rfl) ⟨Nat.le_of_ble_eq_true rfl, Nat.le_of_ble_eq_true rfl⟩ rfl rfl (ct_columnsF h) ?_
  refine aw_eq (show _ = nI nc by rw [Nat.add_sub_cancel]) ?_
  refine aw_istore_n dX10_findCells_5 (Nat.le_of_ble_eq_true rfl) ?_
  refine aw_aload_n dX10_findCells_6 rfl ?_
  refine aw_iload_n dX10_findCells_7 rfl ?_
  refine cqi1 dX10_findCells_8 km10_148 ok_X10_rowsOf rfl rfl (by decide) k_176 (Nat.le_of_ble_eq_true rfl) ⟨Nat.le_of_ble_eq_true rfl, Nat.le_of_ble_eq_true rfl⟩ rfl rfl (ct_rowsF h) ?_
  refine aw_eq (show _ = nI nr by rw [Nat.add_sub_cancel]) ?_
  refine aw_iload_n dX10_findCells_11 rfl ?_
  refine aw_imul dX10_findCells_12 ?_
  refine aw_eq (show _ = nI n by rw [pk_mul, hn]) ?_
  refine aw_istore_n dX10_findCells_13 (Nat.le_of_ble_eq_true rfl) ?_
  refine aw_aload_n dX10_findCells_14 rfl ?_
  refine aw_iload_n dX10_findCells_15 rfl ?_
  refine cvv1 dX10_findCells_16 km10_115 ok_X10_begin rfl rfl (by decide) k_176 (Nat.le_of_ble_eq_true rfl) ⟨Nat.le_of_ble_eq_true rfl, Nat.le_of_ble_eq_true rfl⟩ rfl rfl (ct_begin (n := n) (by omega)) ?_
  intro σ1 hp_16
  obtain ⟨L, rfl, hL⟩ := hp_16
  refine aw_ic (nI 0) dX10_findCells_19 (by decide) ?_
  refine aw_istore dX10_findCells_20 (Nat.le_of_ble_eq_true rfl) ?_
  refine for_ux (fun i σ' lv' => ∃ L x y, σ' = (σ.1, uA σ.2.1 180 L, σ.2.2) ∧ (∀ k, k < n → L k = nI (labF (tsd inT R m rc) nc i k)) ∧ lv' = [some (.ref (ad g 176)), some (.int (nI t)), some (.int (nI nc)), some (.int (nI n)), some (.int (nI i)), x, y]) (n) ?_ ?_ (0) _ _ (by omega) (⟨L, _, _, rfl, hL, rfl⟩)
  · rintro i σ2 lv2 hi ⟨L, x, y, rfl, hL, rfl⟩ ih
    have hi : i < n := hi
    have hdv : i / nc < nr := Nat.div_lt_of_lt_mul (by rw [Nat.mul_comm]; omega)
    have hmd : i % nc < nc := Nat.mod_lt i (by omega)
    have hge : 0 < i / nc → nc ≤ i := fun z => Nat.le_of_not_lt (fun y => by rw [Nat.div_eq_of_lt y] at z; omega)
    have hge1 : 0 < i % nc → 1 ≤ i := fun z => by have := Nat.mod_le i nc; omega
    have hT2 : TbF (σ.1, uA σ.2.1 180 L, σ.2.2) t m rc nr nc inT R := h.keep rfl (uA_n (by decide)) (uA_n (by decide)) (uA_n (by decide)) (uA_n (by decide))
    refine aw_iload dX10_findCells_22 rfl ?_
    refine aw_iload_n dX10_findCells_24 rfl ?_
    refine aw_icmp_geN dX10_findCells_25 rfl rfl (by omega) (by omega) (fun h_25 => absurd h_25 (by omega)) (fun h_25 => ?_)
    refine aw_iload dX10_findCells_28 rfl ?_
    refine aw_iload_n dX10_findCells_30 rfl ?_
    refine aw_idiv dX10_findCells_31 (nI_ne0 (by omega) (by omega)) ?_
    refine aw_eq (nI_div (by omega) (by omega)) ?_
    refine aw_istore dX10_findCells_32 (Nat.le_of_ble_eq_true rfl) ?_
    refine aw_iload dX10_findCells_34 rfl ?_
    refine aw_iload_n dX10_findCells_36 rfl ?_
    refine aw_irem dX10_findCells_37 (nI_ne0 (by omega) (by omega)) ?_
    refine aw_eq (nI_rem (by omega) (by omega)) ?_
    refine aw_istore dX10_findCells_38 (Nat.le_of_ble_eq_true rfl) ?_
    refine aw_iload dX10_findCells_40 rfl ?_
    refine aw_if_leN dX10_findCells_42 (a := i / nc) rfl (by omega) (fun h_42 => ?_) (fun h_42 => ?_)
    · skip
      refine aw_iload dX10_findCells_69 rfl ?_
      refine aw_if_leN dX10_findCells_71 (a := i % nc) rfl (by omega) (fun h_71 => ?_) (fun h_71 => ?_)
      · skip
        refine aw_inc (nI (i + 1)) dX10_findCells_98 rfl (Nat.le_of_ble_eq_true rfl) (nI_1 i) ?_
        refine aw_goto dX10_findCells_101 ?_
        exact ih _ _ ⟨L, _, _, rfl, fun k hk => by
          rw [hL k hk]
          show _ = nI (stepF (tsd inT R m rc) nc (labF (tsd inT R m rc) nc i) i (i / nc) (i % nc) k)
          unfold stepF
          rw [if_neg (show ¬ (0 < i / nc ∧ ¬ tsd inT R m rc 0 (i / nc) (i % nc) = true) from fun z => by omega), if_neg (show ¬ (0 < i % nc ∧ ¬ tsd inT R m rc 1 (i / nc) (i % nc) = true) from fun z => by omega)], rfl⟩
      · skip
        refine aw_aload_n dX10_findCells_74 rfl ?_
        refine aw_iload_n dX10_findCells_75 rfl ?_
        refine aw_ic (nI 1) dX10_findCells_76 (by decide) ?_
        refine aw_iload dX10_findCells_77 rfl ?_
        refine aw_iload dX10_findCells_79 rfl ?_
        refine cqi4 dX10_findCells_81 km10_163 ok_X10_isRuled rfl rfl (by decide) k_176 (Nat.le_of_ble_eq_true rfl) ⟨Nat.le_of_ble_eq_true rfl, Nat.le_of_ble_eq_true rfl⟩ rfl rfl (ct_ruledF (w := 1) (r := i / nc) (c := i % nc) hT2 (Or.inr ⟨rfl, by omega, by omega⟩)) ?_
        refine aw_if_neB dX10_findCells_84 rfl (fun h_84 => ?_) (fun h_84 => ?_)
        · skip
          refine aw_inc (nI (i + 1)) dX10_findCells_98 rfl (Nat.le_of_ble_eq_true rfl) (nI_1 i) ?_
          refine aw_goto dX10_findCells_101 ?_
          exact ih _ _ ⟨L, _, _, rfl, fun k hk => by
            rw [hL k hk]
            show _ = nI (stepF (tsd inT R m rc) nc (labF (tsd inT R m rc) nc i) i (i / nc) (i % nc) k)
            unfold stepF
            rw [if_neg (show ¬ (0 < i / nc ∧ ¬ tsd inT R m rc 0 (i / nc) (i % nc) = true) from fun z => by omega), if_neg (show ¬ (0 < i % nc ∧ ¬ tsd inT R m rc 1 (i / nc) (i % nc) = true) from fun z => z.2 h_84)], rfl⟩
        · skip
          refine aw_aload_n dX10_findCells_87 rfl ?_
          refine aw_iload dX10_findCells_88 rfl ?_
          refine aw_iload dX10_findCells_90 rfl ?_
          refine aw_ic (nI 1) dX10_findCells_92 (by decide) ?_
          refine aw_isub dX10_findCells_93 ?_
          refine aw_eq (pk_sub (hge1 h_71)) ?_
          refine aw_iload_n dX10_findCells_94 rfl ?_
          refine cvv3 dX10_findCells_95 km10_122 ok_X10_join rfl rfl (by decide) k_176 (Nat.le_of_ble_eq_true rfl) ⟨Nat.le_of_ble_eq_true rfl, Nat.le_of_ble_eq_true rfl⟩ rfl rfl (ct_join (n := n) (lab := labF (tsd inT R m rc) nc i) (fun k hk => tS (hL k hk)) (Lb.labF i).1 hi (by omega) (by omega)) ?_
          intro σ1 hp_95
          obtain ⟨L3, rfl, hL3⟩ := hp_95
          refine aw_inc (nI (i + 1)) dX10_findCells_98 rfl (Nat.le_of_ble_eq_true rfl) (nI_1 i) ?_
          refine aw_goto dX10_findCells_101 ?_
          exact ih _ _ ⟨L3, _, _, by rw [uA_uA], fun k hk => by
            rw [hL3 k hk]
            show _ = nI (stepF (tsd inT R m rc) nc (labF (tsd inT R m rc) nc i) i (i / nc) (i % nc) k)
            unfold stepF
            rw [if_neg (show ¬ (0 < i / nc ∧ ¬ tsd inT R m rc 0 (i / nc) (i % nc) = true) from fun z => by omega), if_pos (show 0 < i % nc ∧ ¬ tsd inT R m rc 1 (i / nc) (i % nc) = true from ⟨h_71, h_84⟩)], rfl⟩
    · skip
      refine aw_aload_n dX10_findCells_45 rfl ?_
      refine aw_iload_n dX10_findCells_46 rfl ?_
      refine aw_ic (nI 0) dX10_findCells_47 (by decide) ?_
      refine aw_iload dX10_findCells_48 rfl ?_
      refine aw_iload dX10_findCells_50 rfl ?_
      refine cqi4 dX10_findCells_52 km10_163 ok_X10_isRuled rfl rfl (by decide) k_176 (Nat.le_of_ble_eq_true rfl) ⟨Nat.le_of_ble_eq_true rfl, Nat.le_of_ble_eq_true rfl⟩ rfl rfl (ct_ruledF (w := 0) (r := i / nc) (c := i % nc) hT2 (Or.inl ⟨rfl, by omega, by omega⟩)) ?_
      refine aw_if_neB dX10_findCells_55 rfl (fun h_55 => ?_) (fun h_55 => ?_)
      · skip
        refine aw_iload dX10_findCells_69 rfl ?_
        refine aw_if_leN dX10_findCells_71 (a := i % nc) rfl (by omega) (fun h_71 => ?_) (fun h_71 => ?_)
        · skip
          refine aw_inc (nI (i + 1)) dX10_findCells_98 rfl (Nat.le_of_ble_eq_true rfl) (nI_1 i) ?_
          refine aw_goto dX10_findCells_101 ?_
          exact ih _ _ ⟨L, _, _, rfl, fun k hk => by
            rw [hL k hk]
            show _ = nI (stepF (tsd inT R m rc) nc (labF (tsd inT R m rc) nc i) i (i / nc) (i % nc) k)
            unfold stepF
            rw [if_neg (show ¬ (0 < i / nc ∧ ¬ tsd inT R m rc 0 (i / nc) (i % nc) = true) from fun z => z.2 h_55), if_neg (show ¬ (0 < i % nc ∧ ¬ tsd inT R m rc 1 (i / nc) (i % nc) = true) from fun z => by omega)], rfl⟩
        · skip
          refine aw_aload_n dX10_findCells_74 rfl ?_
          refine aw_iload_n dX10_findCells_75 rfl ?_
          refine aw_ic (nI 1) dX10_findCells_76 (by decide) ?_
          refine aw_iload dX10_findCells_77 rfl ?_
          refine aw_iload dX10_findCells_79 rfl ?_
          refine cqi4 dX10_findCells_81 km10_163 ok_X10_isRuled rfl rfl (by decide) k_176 (Nat.le_of_ble_eq_true rfl) ⟨Nat.le_of_ble_eq_true rfl, Nat.le_of_ble_eq_true rfl⟩ rfl rfl (ct_ruledF (w := 1) (r := i / nc) (c := i % nc) hT2 (Or.inr ⟨rfl, by omega, by omega⟩)) ?_
          refine aw_if_neB dX10_findCells_84 rfl (fun h_84 => ?_) (fun h_84 => ?_)
          · skip
            refine aw_inc (nI (i + 1)) dX10_findCells_98 rfl (Nat.le_of_ble_eq_true rfl) (nI_1 i) ?_
            refine aw_goto dX10_findCells_101 ?_
            exact ih _ _ ⟨L, _, _, rfl, fun k hk => by
              rw [hL k hk]
              show _ = nI (stepF (tsd inT R m rc) nc (labF (tsd inT R m rc) nc i) i (i / nc) (i % nc) k)
              unfold stepF
              rw [if_neg (show ¬ (0 < i / nc ∧ ¬ tsd inT R m rc 0 (i / nc) (i % nc) = true) from fun z => z.2 h_55), if_neg (show ¬ (0 < i % nc ∧ ¬ tsd inT R m rc 1 (i / nc) (i % nc) = true) from fun z => z.2 h_84)], rfl⟩
          · skip
            refine aw_aload_n dX10_findCells_87 rfl ?_
            refine aw_iload dX10_findCells_88 rfl ?_
            refine aw_iload dX10_findCells_90 rfl ?_
            refine aw_ic (nI 1) dX10_findCells_92 (by decide) ?_
            refine aw_isub dX10_findCells_93 ?_
            refine aw_eq (pk_sub (hge1 h_71)) ?_
            refine aw_iload_n dX10_findCells_94 rfl ?_
            refine cvv3 dX10_findCells_95 km10_122 ok_X10_join rfl rfl (by decide) k_176 (Nat.le_of_ble_eq_true rfl) ⟨Nat.le_of_ble_eq_true rfl, Nat.le_of_ble_eq_true rfl⟩ rfl rfl (ct_join (n := n) (lab := labF (tsd inT R m rc) nc i) (fun k hk => tS (hL k hk)) (Lb.labF i).1 hi (by omega) (by omega)) ?_
            intro σ1 hp_95
            obtain ⟨L3, rfl, hL3⟩ := hp_95
            refine aw_inc (nI (i + 1)) dX10_findCells_98 rfl (Nat.le_of_ble_eq_true rfl) (nI_1 i) ?_
            refine aw_goto dX10_findCells_101 ?_
            exact ih _ _ ⟨L3, _, _, by rw [uA_uA], fun k hk => by
              rw [hL3 k hk]
              show _ = nI (stepF (tsd inT R m rc) nc (labF (tsd inT R m rc) nc i) i (i / nc) (i % nc) k)
              unfold stepF
              rw [if_neg (show ¬ (0 < i / nc ∧ ¬ tsd inT R m rc 0 (i / nc) (i % nc) = true) from fun z => z.2 h_55), if_pos (show 0 < i % nc ∧ ¬ tsd inT R m rc 1 (i / nc) (i % nc) = true from ⟨h_71, h_84⟩)], rfl⟩
      · skip
        refine aw_aload_n dX10_findCells_58 rfl ?_
        refine aw_iload dX10_findCells_59 rfl ?_
        refine aw_iload dX10_findCells_61 rfl ?_
        refine aw_iload_n dX10_findCells_63 rfl ?_
        refine aw_isub dX10_findCells_64 ?_
        refine aw_eq (pk_sub (hge h_42)) ?_
        refine aw_iload_n dX10_findCells_65 rfl ?_
        refine cvv3 dX10_findCells_66 km10_122 ok_X10_join rfl rfl (by decide) k_176 (Nat.le_of_ble_eq_true rfl) ⟨Nat.le_of_ble_eq_true rfl, Nat.le_of_ble_eq_true rfl⟩ rfl rfl (ct_join (n := n) (lab := labF (tsd inT R m rc) nc i) (fun k hk => tS (hL k hk)) (Lb.labF i).1 hi (by omega) (by omega)) ?_
        intro σ1 hp_66
        obtain ⟨L2, rfl, hL2⟩ := hp_66
        refine aw_sg (show _ = (σ.1, uA σ.2.1 180 L2, σ.2.2) by rw [uA_uA]) ?_
        have hT2 : TbF (σ.1, uA σ.2.1 180 L2, σ.2.2) t m rc nr nc inT R := h.keep rfl (uA_n (by decide)) (uA_n (by decide)) (uA_n (by decide)) (uA_n (by decide))
        refine aw_iload dX10_findCells_69 rfl ?_
        refine aw_if_leN dX10_findCells_71 (a := i % nc) rfl (by omega) (fun h_71 => ?_) (fun h_71 => ?_)
        · skip
          refine aw_inc (nI (i + 1)) dX10_findCells_98 rfl (Nat.le_of_ble_eq_true rfl) (nI_1 i) ?_
          refine aw_goto dX10_findCells_101 ?_
          exact ih _ _ ⟨L2, _, _, rfl, fun k hk => by
            rw [hL2 k hk]
            show _ = nI (stepF (tsd inT R m rc) nc (labF (tsd inT R m rc) nc i) i (i / nc) (i % nc) k)
            unfold stepF
            rw [if_pos (show 0 < i / nc ∧ ¬ tsd inT R m rc 0 (i / nc) (i % nc) = true from ⟨h_42, h_55⟩), if_neg (show ¬ (0 < i % nc ∧ ¬ tsd inT R m rc 1 (i / nc) (i % nc) = true) from fun z => by omega)], rfl⟩
        · skip
          refine aw_aload_n dX10_findCells_74 rfl ?_
          refine aw_iload_n dX10_findCells_75 rfl ?_
          refine aw_ic (nI 1) dX10_findCells_76 (by decide) ?_
          refine aw_iload dX10_findCells_77 rfl ?_
          refine aw_iload dX10_findCells_79 rfl ?_
          refine cqi4 dX10_findCells_81 km10_163 ok_X10_isRuled rfl rfl (by decide) k_176 (Nat.le_of_ble_eq_true rfl) ⟨Nat.le_of_ble_eq_true rfl, Nat.le_of_ble_eq_true rfl⟩ rfl rfl (ct_ruledF (w := 1) (r := i / nc) (c := i % nc) hT2 (Or.inr ⟨rfl, by omega, by omega⟩)) ?_
          refine aw_if_neB dX10_findCells_84 rfl (fun h_84 => ?_) (fun h_84 => ?_)
          · skip
            refine aw_inc (nI (i + 1)) dX10_findCells_98 rfl (Nat.le_of_ble_eq_true rfl) (nI_1 i) ?_
            refine aw_goto dX10_findCells_101 ?_
            exact ih _ _ ⟨L2, _, _, rfl, fun k hk => by
              rw [hL2 k hk]
              show _ = nI (stepF (tsd inT R m rc) nc (labF (tsd inT R m rc) nc i) i (i / nc) (i % nc) k)
              unfold stepF
              rw [if_pos (show 0 < i / nc ∧ ¬ tsd inT R m rc 0 (i / nc) (i % nc) = true from ⟨h_42, h_55⟩), if_neg (show ¬ (0 < i % nc ∧ ¬ tsd inT R m rc 1 (i / nc) (i % nc) = true) from fun z => z.2 h_84)], rfl⟩
          · skip
            refine aw_aload_n dX10_findCells_87 rfl ?_
            refine aw_iload dX10_findCells_88 rfl ?_
            refine aw_iload dX10_findCells_90 rfl ?_
            refine aw_ic (nI 1) dX10_findCells_92 (by decide) ?_
            refine aw_isub dX10_findCells_93 ?_
            refine aw_eq (pk_sub (hge1 h_71)) ?_
            refine aw_iload_n dX10_findCells_94 rfl ?_
            refine cvv3 dX10_findCells_95 km10_122 ok_X10_join rfl rfl (by decide) k_176 (Nat.le_of_ble_eq_true rfl) ⟨Nat.le_of_ble_eq_true rfl, Nat.le_of_ble_eq_true rfl⟩ rfl rfl (ct_join (n := n) (lab := joinL (labF (tsd inT R m rc) nc i) i (i - nc)) (fun k hk => tS (hL2 k hk)) ((Lb.labF i).join i (i - nc)).1 hi (by omega) (by omega)) ?_
            intro σ1 hp_95
            obtain ⟨L3, rfl, hL3⟩ := hp_95
            refine aw_inc (nI (i + 1)) dX10_findCells_98 rfl (Nat.le_of_ble_eq_true rfl) (nI_1 i) ?_
            refine aw_goto dX10_findCells_101 ?_
            exact ih _ _ ⟨L3, _, _, by rw [uA_uA], fun k hk => by
              rw [hL3 k hk]
              show _ = nI (stepF (tsd inT R m rc) nc (labF (tsd inT R m rc) nc i) i (i / nc) (i % nc) k)
              unfold stepF
              rw [if_pos (show 0 < i / nc ∧ ¬ tsd inT R m rc 0 (i / nc) (i % nc) = true from ⟨h_42, h_55⟩), if_pos (show 0 < i % nc ∧ ¬ tsd inT R m rc 1 (i / nc) (i % nc) = true from ⟨h_71, h_84⟩)]
              rw [joinL_comm], rfl⟩
  · rintro σ2 lv2 ⟨L, x, y, rfl, hL, rfl⟩
    have hLb : Lb (labF (tsd inT R m rc) nc n) := Lb.labF n
    generalize labF (tsd inT R m rc) nc n = lab at hL hLb hCb ⊢
    have hcn := cnt_le lab n
    refine aw_iload dX10_findCells_22 rfl ?_
    refine aw_iload_n dX10_findCells_24 rfl ?_
    refine aw_icmp_geN dX10_findCells_25 rfl rfl (by omega) (by omega) (fun h_25 => ?_) (fun h_25 => absurd h_25 (by omega))
    refine aw_aload_n dX10_findCells_104 rfl ?_
    refine gf10_cellFrom dX10_findCells_105 kf10_37 k_176 ?_
    refine aw_eqr (b := 186) rfl ?_
    refine aw_iload_n dX10_findCells_108 rfl ?_
    refine aw_ld (t) dX10_findCells_109 k_186 (rfl) (by omega) ?_
    refine aw_eq (nB (by decide) hC) ?_
    refine aw_istore dX10_findCells_110 (Nat.le_of_ble_eq_true rfl) ?_
    refine aw_ic (nI 0) dX10_findCells_112 (by decide) ?_
    refine aw_istore dX10_findCells_113 (Nat.le_of_ble_eq_true rfl) ?_
    refine for_ux (fun i σ' lv' => ∃ ho hc x, σ' = (σ.1, uA (uA (uA σ.2.1 180 L) 187 ho) 188 hc, σ.2.2) ∧ ((∀ q, q < i → ho (FF + q) = nI (CF + cnt lab (lab q))) ∧ ∀ x, x < FF → ho x = σ.2.1 187 x) ∧ CeI nc lab (fun f => opX (tsd inT R m rc) nr nc (f / nc) (f % nc)) CF i (σ.2.1 188) hc ∧ lv' = [some (.ref (ad g 176)), some (.int (nI t)), some (.int (nI nc)), some (.int (nI n)), some (.int (nI (CF + cnt lab i))), some (.int (nI i)), x]) (n) ?_ ?_ (0) _ _ (by omega) (⟨σ.2.1 187, σ.2.1 188, _, by rw [cel_0], ⟨fun q hq => absurd hq (Nat.not_lt_zero q), fun x _ => rfl⟩, ⟨fun x _ => rfl, fun ρ h => absurd h (Nat.not_lt_zero ρ)⟩, rfl⟩)
    · rintro i σ2 lv2 hi ⟨ho, hc, x, rfl, ⟨o1, o2⟩, G, rfl⟩ ih
      have hi : i < n := hi
      have hdv : i / nc < nr := Nat.div_lt_of_lt_mul (by rw [Nat.mul_comm]; omega)
      have hmd : i % nc < nc := Nat.mod_lt i (by omega)
      have hll := hLb.1 i
      have hcl := cnt_mono lab (Nat.le_of_lt hi)
      have hc1 := cnt_mono lab (show i + 1 ≤ n from hi)
      by_cases hr : lab i = i
      · skip
        have hcs : cnt lab (i + 1) = cnt lab i + 1 := by show _ + _ = _; rw [if_pos hr]
        refine aw_iload dX10_findCells_115 rfl ?_
        refine aw_iload_n dX10_findCells_117 rfl ?_
        refine aw_icmp_geN dX10_findCells_118 rfl rfl (by omega) (by omega) (fun h_118 => absurd h_118 (by omega)) (fun h_118 => ?_)
        refine aw_aload_n dX10_findCells_121 rfl ?_
        refine gf10_label dX10_findCells_122 kf10_19 k_176 ?_
        refine aw_eqr (b := 180) rfl ?_
        refine aw_iload dX10_findCells_125 rfl ?_
        refine aw_ld (i) dX10_findCells_127 k_180 (rfl) (by omega) ?_
        refine aw_eq (nB (by decide) (nB (by decide) (sB (hL i hi)))) ?_
        refine aw_iload dX10_findCells_128 rfl ?_
        refine aw_icmp_neN dX10_findCells_130 rfl rfl (by omega) (by omega) (fun h_130 => absurd h_130 (by omega)) (fun h_130 => ?_)
        refine aw_aload_n dX10_findCells_133 rfl ?_
        refine gf10_cellOf dX10_findCells_134 kf10_40 k_176 ?_
        refine aw_eqr (b := 187) rfl ?_
        refine aw_aload_n dX10_findCells_137 rfl ?_
        refine gf10_fieldFrom dX10_findCells_138 kf10_34 k_176 ?_
        refine aw_eqr (b := 185) rfl ?_
        refine aw_iload_n dX10_findCells_141 rfl ?_
        refine aw_ld (t) dX10_findCells_142 k_185 (rfl) (by omega) ?_
        refine aw_eq (nB (by decide) (nB (by decide) (nB (by decide) hF))) ?_
        refine aw_iload dX10_findCells_143 rfl ?_
        refine aw_iadd dX10_findCells_145 ?_
        refine aw_eq (show _ = nI (FF + i) by rw [nI_add]) ?_
        refine aw_iload dX10_findCells_146 rfl ?_
        refine aw_sto (FF + i) dX10_findCells_148 k_187 (rfl) (by omega) ?_
        refine aw_sg (show _ = (σ.1, uA (uA (uA σ.2.1 180 L) 187 (upd ho (FF + i) (nI (CF + cnt lab i)))) 188 hc, σ.2.2) by rw [cel_o]) ?_
        refine aw_aload_n dX10_findCells_149 rfl ?_
        refine gf10_cells dX10_findCells_150 kf10_43 k_176 ?_
        refine aw_eqr (b := 188) rfl ?_
        refine aw_bi (nI 6) dX10_findCells_153 (by decide) ?_
        refine aw_iload dX10_findCells_155 rfl ?_
        refine aw_imul dX10_findCells_157 ?_
        refine aw_eq (show _ = nI (6 * (CF + cnt lab i)) by rw [pk_mul]) ?_
        refine aw_ic (nI 4) dX10_findCells_158 (by decide) ?_
        refine aw_iadd dX10_findCells_159 ?_
        refine aw_eq (show _ = nI (6 * (CF + cnt lab i) + 4) by rw [nI_add]) ?_
        refine aw_ic (nI 0) dX10_findCells_160 (by decide) ?_
        refine aw_sto (6 * (CF + cnt lab i) + 4) dX10_findCells_161 k_188 (rfl) (by omega) ?_
        refine aw_sg (show _ = (σ.1, uA (uA (uA σ.2.1 180 L) 187 (upd ho (FF + i) (nI (CF + cnt lab i)))) 188 (upd hc (6 * (CF + cnt lab i) + 4) (nI 0)), σ.2.2) by rw [uA_s, uA_uA]) ?_
        refine aw_aload_n dX10_findCells_162 rfl ?_
        refine gf10_cells dX10_findCells_163 kf10_43 k_176 ?_
        refine aw_eqr (b := 188) rfl ?_
        refine aw_bi (nI 6) dX10_findCells_166 (by decide) ?_
        refine aw_iload dX10_findCells_168 rfl ?_
        refine aw_imul dX10_findCells_170 ?_
        refine aw_eq (show _ = nI (6 * (CF + cnt lab i)) by rw [pk_mul]) ?_
        refine aw_ic (nI 5) dX10_findCells_171 (by decide) ?_
        refine aw_iadd dX10_findCells_172 ?_
        refine aw_eq (show _ = nI (6 * (CF + cnt lab i) + 5) by rw [nI_add]) ?_
        refine aw_ic (nI 0) dX10_findCells_173 (by decide) ?_
        refine aw_sto (6 * (CF + cnt lab i) + 5) dX10_findCells_174 k_188 (rfl) (by omega) ?_
        refine aw_sg (show _ = (σ.1, uA (uA (uA σ.2.1 180 L) 187 (upd ho (FF + i) (nI (CF + cnt lab i)))) 188 (upd (upd hc (6 * (CF + cnt lab i) + 4) (nI 0)) (6 * (CF + cnt lab i) + 5) (nI 0)), σ.2.2) by rw [uA_s, uA_uA]) ?_
        refine aw_inc (nI (CF + cnt lab i + 1)) dX10_findCells_175 rfl (Nat.le_of_ble_eq_true rfl) (nI_1 _) ?_
        refine aw_goto dX10_findCells_178 ?_
        refine aw_aload_n dX10_findCells_214 rfl ?_
        refine gf10_cellOf dX10_findCells_215 kf10_40 k_176 ?_
        refine aw_eqr (b := 187) rfl ?_
        refine aw_aload_n dX10_findCells_218 rfl ?_
        refine gf10_fieldFrom dX10_findCells_219 kf10_34 k_176 ?_
        refine aw_eqr (b := 185) rfl ?_
        refine aw_iload_n dX10_findCells_222 rfl ?_
        refine aw_ld (t) dX10_findCells_223 k_185 (rfl) (by omega) ?_
        refine aw_eq (nB (by decide) (nB (by decide) (nB (by decide) hF))) ?_
        refine aw_iload dX10_findCells_224 rfl ?_
        refine aw_iadd dX10_findCells_226 ?_
        refine aw_eq (show _ = nI (FF + i) by rw [nI_add]) ?_
        refine aw_ld (FF + i) dX10_findCells_227 k_187 (rfl) (by omega) ?_
        refine aw_eq (nB (by decide) (sB pk_us)) ?_
        refine aw_istore dX10_findCells_228 (Nat.le_of_ble_eq_true rfl) ?_
        refine aw_aload_n dX10_findCells_230 rfl ?_
        refine aw_iload dX10_findCells_231 rfl ?_
        refine aw_iload dX10_findCells_233 rfl ?_
        refine aw_iload_n dX10_findCells_235 rfl ?_
        refine aw_idiv dX10_findCells_236 (nI_ne0 (by omega) (by omega)) ?_
        refine aw_eq (nI_div (by omega) (by omega)) ?_
        refine aw_iload dX10_findCells_237 rfl ?_
        refine aw_iload_n dX10_findCells_239 rfl ?_
        refine aw_irem dX10_findCells_240 (nI_ne0 (by omega) (by omega)) ?_
        refine aw_eq (nI_rem (by omega) (by omega)) ?_
        refine cvv3 dX10_findCells_241 km10_167 ok_X10_addField rfl rfl (by decide) k_176 (Nat.le_of_ble_eq_true rfl) ⟨Nat.le_of_ble_eq_true rfl, Nat.le_of_ble_eq_true rfl⟩ rfl rfl (ct_addField0 (q := CF + cnt lab i) (r := i / nc) (c := i % nc) (by omega) (by omega) (by omega) (tS ((pk_un (by omega)).trans pk_us))) ?_
        intro σ1 hp_241
        obtain ⟨hd, rfl, d1, d2⟩ := hp_241
        refine aw_sg (show _ = (σ.1, uA (uA (uA σ.2.1 180 L) 187 (upd ho (FF + i) (nI (CF + cnt lab i)))) 188 hd, σ.2.2) by rw [uA_uA]) ?_
        have hT2 : TbF (σ.1, uA (uA (uA σ.2.1 180 L) 187 (upd ho (FF + i) (nI (CF + cnt lab i)))) 188 hd, σ.2.2) t m rc nr nc inT R := h.keep rfl ((uA_n (by decide)).trans ((uA_n (by decide)).trans (uA_n (by decide)))) ((uA_n (by decide)).trans ((uA_n (by decide)).trans (uA_n (by decide)))) ((uA_n (by decide)).trans ((uA_n (by decide)).trans (uA_n (by decide)))) ((uA_n (by decide)).trans ((uA_n (by decide)).trans (uA_n (by decide))))
        refine aw_aload_n dX10_findCells_244 rfl ?_
        refine gf10_cells dX10_findCells_245 kf10_43 k_176 ?_
        refine aw_eqr (b := 188) rfl ?_
        refine aw_bi (nI 6) dX10_findCells_248 (by decide) ?_
        refine aw_iload dX10_findCells_250 rfl ?_
        refine aw_imul dX10_findCells_252 ?_
        refine aw_eq (show _ = nI (6 * (CF + cnt lab i)) by rw [pk_mul]) ?_
        refine aw_ic (nI 5) dX10_findCells_253 (by decide) ?_
        refine aw_iadd dX10_findCells_254 ?_
        refine aw_eq (show _ = nI (6 * (CF + cnt lab i) + 5) by rw [nI_add]) ?_
        refine aw_aload_n dX10_findCells_255 rfl ?_
        refine aw_iload_n dX10_findCells_256 rfl ?_
        refine aw_iload dX10_findCells_257 rfl ?_
        refine aw_iload_n dX10_findCells_259 rfl ?_
        refine aw_idiv dX10_findCells_260 (nI_ne0 (by omega) (by omega)) ?_
        refine aw_eq (nI_div (by omega) (by omega)) ?_
        refine aw_iload dX10_findCells_261 rfl ?_
        refine aw_iload_n dX10_findCells_263 rfl ?_
        refine aw_irem dX10_findCells_264 (nI_ne0 (by omega) (by omega)) ?_
        refine aw_eq (nI_rem (by omega) (by omega)) ?_
        refine cqi3 dX10_findCells_265 km10_170 ok_X10_isOpen rfl rfl (by decide) k_176 (Nat.le_of_ble_eq_true rfl) ⟨Nat.le_of_ble_eq_true rfl, Nat.le_of_ble_eq_true rfl⟩ rfl rfl (ct_isOpen hT2 hdv hmd) ?_
        refine aw_if_eqB dX10_findCells_268 rfl (fun h_268 => ?_) (fun h_268 => ?_)
        · skip
          refine aw_aload_n dX10_findCells_275 rfl ?_
          refine gf10_cells dX10_findCells_276 kf10_43 k_176 ?_
          refine aw_eqr (b := 188) rfl ?_
          refine aw_bi (nI 6) dX10_findCells_279 (by decide) ?_
          refine aw_iload dX10_findCells_281 rfl ?_
          refine aw_imul dX10_findCells_283 ?_
          refine aw_eq (show _ = nI (6 * (CF + cnt lab i)) by rw [pk_mul]) ?_
          refine aw_ic (nI 5) dX10_findCells_284 (by decide) ?_
          refine aw_iadd dX10_findCells_285 ?_
          refine aw_eq (show _ = nI (6 * (CF + cnt lab i) + 5) by rw [nI_add]) ?_
          refine aw_ld (6 * (CF + cnt lab i) + 5) dX10_findCells_286 k_188 (rfl) (by omega) ?_
          refine aw_eq (sB ((d2 _ (by omega)).trans (tS pk_us))) ?_
          refine aw_sto (6 * (CF + cnt lab i) + 5) dX10_findCells_287 k_188 (rfl) (by omega) ?_
          refine aw_inc (nI (i + 1)) dX10_findCells_288 rfl (Nat.le_of_ble_eq_true rfl) (nI_1 i) ?_
          refine aw_goto dX10_findCells_291 ?_
          refine ih _ _ ⟨(upd ho (FF + i) (nI (CF + cnt lab i))), upd hd (6 * (CF + cnt lab i) + 5) (nI 0), _, by rw [uA_s, uA_uA], ⟨fun y hy => ?_, fun x hx => (pk_un (by omega)).trans (o2 x hx)⟩, G.step hLb (fun j hj => ?_) ?_ (fun x hx => ?_), by rw [hcs]; rfl⟩
          · by_cases z : y = i
            · rw [z, pk_us]; rw [hr]
            · rw [pk_un (by omega)]; exact o1 y (by omega)
          · rw [show cnt lab (lab i) = cnt lab i by rw [hr], pk_un (by omega), d1 j hj, hr, cF_y hr]
          · rw [show cnt lab (lab i) = cnt lab i by rw [hr]]
            rw [pk_us, if_neg (fun z => ((o5_s (op := (fun f => opX (tsd inT R m rc) nr nc (f / nc) (f % nc))) rfl).mp z).elim (fun y => o5_0 hLb (by rw [hr] at y; exact y)) h_268)]
          · rw [show cnt lab (lab i) = cnt lab i by rw [hr]] at hx
            exact (pk_un (by omega)).trans ((d2 x (by omega)).trans (tS ((pk_un (by omega)).trans ((pk_un (by omega)).trans rfl))))
        · skip
          refine aw_ic (nI 2) dX10_findCells_271 (by decide) ?_
          refine aw_goto dX10_findCells_272 ?_
          refine aw_sto (6 * (CF + cnt lab i) + 5) dX10_findCells_287 k_188 (rfl) (by omega) ?_
          refine aw_inc (nI (i + 1)) dX10_findCells_288 rfl (Nat.le_of_ble_eq_true rfl) (nI_1 i) ?_
          refine aw_goto dX10_findCells_291 ?_
          refine ih _ _ ⟨(upd ho (FF + i) (nI (CF + cnt lab i))), upd hd (6 * (CF + cnt lab i) + 5) (nI 2), _, by rw [uA_s, uA_uA], ⟨fun y hy => ?_, fun x hx => (pk_un (by omega)).trans (o2 x hx)⟩, G.step hLb (fun j hj => ?_) ?_ (fun x hx => ?_), by rw [hcs]; rfl⟩
          · by_cases z : y = i
            · rw [z, pk_us]; rw [hr]
            · rw [pk_un (by omega)]; exact o1 y (by omega)
          · rw [show cnt lab (lab i) = cnt lab i by rw [hr], pk_un (by omega), d1 j hj, hr, cF_y hr]
          · rw [show cnt lab (lab i) = cnt lab i by rw [hr]]
            rw [pk_us, if_pos ((o5_s (op := (fun f => opX (tsd inT R m rc) nr nc (f / nc) (f % nc))) rfl).mpr (Or.inr h_268))]
          · rw [show cnt lab (lab i) = cnt lab i by rw [hr]] at hx
            exact (pk_un (by omega)).trans ((d2 x (by omega)).trans (tS ((pk_un (by omega)).trans ((pk_un (by omega)).trans rfl))))
      · skip
        have hlt : lab i < i := by omega
        have hcs : cnt lab (i + 1) = cnt lab i + 0 := by show _ + _ = _; rw [if_neg hr]
        have hcq : cnt lab (lab i) < cnt lab i := cnt_lt (hLb.2 i) hlt
        obtain ⟨f0, f2⟩ := cF_r (nc := nc) (hLb.2 i) i hlt
        obtain ⟨-, c13, c4, -, -, b4, -, -, c02⟩ := cFold_B (nr := nr) hb.2.1 (hLb.2 i) i hlt (by omega)
        have hdd : (i - 1) / nc ≤ i / nc := Nat.div_le_div_right (by omega)
        have f0 : cFold nc lab (lab i) i 0 ≤ i / nc := by rw [f0]; exact Nat.div_le_div_right (by omega)
        have f2 : cFold nc lab (lab i) i 0 + cFold nc lab (lab i) i 2 ≤ i / nc + 1 := by omega
        have bb : ∀ j, j < 5 → cFold nc lab (lab i) i j ≤ 999 := fun j hj => by
          rcases (by omega : j = 0 ∨ j = 1 ∨ j = 2 ∨ j = 3 ∨ j = 4) with rfl | rfl | rfl | rfl | rfl <;> omega
        refine aw_iload dX10_findCells_115 rfl ?_
        refine aw_iload_n dX10_findCells_117 rfl ?_
        refine aw_icmp_geN dX10_findCells_118 rfl rfl (by omega) (by omega) (fun h_118 => absurd h_118 (by omega)) (fun h_118 => ?_)
        refine aw_aload_n dX10_findCells_121 rfl ?_
        refine gf10_label dX10_findCells_122 kf10_19 k_176 ?_
        refine aw_eqr (b := 180) rfl ?_
        refine aw_iload dX10_findCells_125 rfl ?_
        refine aw_ld (i) dX10_findCells_127 k_180 (rfl) (by omega) ?_
        refine aw_eq (nB (by decide) (nB (by decide) (sB (hL i hi)))) ?_
        refine aw_iload dX10_findCells_128 rfl ?_
        refine aw_icmp_neN dX10_findCells_130 rfl rfl (by omega) (by omega) (fun h_130 => ?_) (fun h_130 => absurd h_130 (by omega))
        refine aw_aload_n dX10_findCells_181 rfl ?_
        refine gf10_cellOf dX10_findCells_182 kf10_40 k_176 ?_
        refine aw_eqr (b := 187) rfl ?_
        refine aw_aload_n dX10_findCells_185 rfl ?_
        refine gf10_fieldFrom dX10_findCells_186 kf10_34 k_176 ?_
        refine aw_eqr (b := 185) rfl ?_
        refine aw_iload_n dX10_findCells_189 rfl ?_
        refine aw_ld (t) dX10_findCells_190 k_185 (rfl) (by omega) ?_
        refine aw_eq (nB (by decide) (nB (by decide) (nB (by decide) hF))) ?_
        refine aw_iload dX10_findCells_191 rfl ?_
        refine aw_iadd dX10_findCells_193 ?_
        refine aw_eq (show _ = nI (FF + i) by rw [nI_add]) ?_
        refine aw_aload_n dX10_findCells_194 rfl ?_
        refine gf10_cellOf dX10_findCells_195 kf10_40 k_176 ?_
        refine aw_eqr (b := 187) rfl ?_
        refine aw_aload_n dX10_findCells_198 rfl ?_
        refine gf10_fieldFrom dX10_findCells_199 kf10_34 k_176 ?_
        refine aw_eqr (b := 185) rfl ?_
        refine aw_iload_n dX10_findCells_202 rfl ?_
        refine aw_ld (t) dX10_findCells_203 k_185 (rfl) (by omega) ?_
        refine aw_eq (nB (by decide) (nB (by decide) (nB (by decide) hF))) ?_
        refine aw_aload_n dX10_findCells_204 rfl ?_
        refine gf10_label dX10_findCells_205 kf10_19 k_176 ?_
        refine aw_eqr (b := 180) rfl ?_
        refine aw_iload dX10_findCells_208 rfl ?_
        refine aw_ld (i) dX10_findCells_210 k_180 (rfl) (by omega) ?_
        refine aw_eq (nB (by decide) (nB (by decide) (sB (hL i hi)))) ?_
        refine aw_iadd dX10_findCells_211 ?_
        refine aw_eq (show _ = nI (FF + lab i) by rw [nI_add]) ?_
        refine aw_ld (FF + lab i) dX10_findCells_212 k_187 (rfl) (by omega) ?_
        refine aw_eq (nB (by decide) (sB (o1 (lab i) (by omega)))) ?_
        refine aw_eq (show _ = nI (CF + cnt lab (lab i)) by rw [hLb.2 i]) ?_
        refine aw_sto (FF + i) dX10_findCells_213 k_187 (rfl) (by omega) ?_
        refine aw_sg (show _ = (σ.1, uA (uA (uA σ.2.1 180 L) 187 (upd ho (FF + i) (nI (CF + cnt lab (lab i))))) 188 hc, σ.2.2) by rw [cel_o]) ?_
        refine aw_aload_n dX10_findCells_214 rfl ?_
        refine gf10_cellOf dX10_findCells_215 kf10_40 k_176 ?_
        refine aw_eqr (b := 187) rfl ?_
        refine aw_aload_n dX10_findCells_218 rfl ?_
        refine gf10_fieldFrom dX10_findCells_219 kf10_34 k_176 ?_
        refine aw_eqr (b := 185) rfl ?_
        refine aw_iload_n dX10_findCells_222 rfl ?_
        refine aw_ld (t) dX10_findCells_223 k_185 (rfl) (by omega) ?_
        refine aw_eq (nB (by decide) (nB (by decide) (nB (by decide) hF))) ?_
        refine aw_iload dX10_findCells_224 rfl ?_
        refine aw_iadd dX10_findCells_226 ?_
        refine aw_eq (show _ = nI (FF + i) by rw [nI_add]) ?_
        refine aw_ld (FF + i) dX10_findCells_227 k_187 (rfl) (by omega) ?_
        refine aw_eq (nB (by decide) (sB pk_us)) ?_
        refine aw_istore dX10_findCells_228 (Nat.le_of_ble_eq_true rfl) ?_
        refine aw_aload_n dX10_findCells_230 rfl ?_
        refine aw_iload dX10_findCells_231 rfl ?_
        refine aw_iload dX10_findCells_233 rfl ?_
        refine aw_iload_n dX10_findCells_235 rfl ?_
        refine aw_idiv dX10_findCells_236 (nI_ne0 (by omega) (by omega)) ?_
        refine aw_eq (nI_div (by omega) (by omega)) ?_
        refine aw_iload dX10_findCells_237 rfl ?_
        refine aw_iload_n dX10_findCells_239 rfl ?_
        refine aw_irem dX10_findCells_240 (nI_ne0 (by omega) (by omega)) ?_
        refine aw_eq (nI_rem (by omega) (by omega)) ?_
        refine cvv3 dX10_findCells_241 km10_167 ok_X10_addField rfl rfl (by decide) k_176 (Nat.le_of_ble_eq_true rfl) ⟨Nat.le_of_ble_eq_true rfl, Nat.le_of_ble_eq_true rfl⟩ rfl rfl (ct_addField1 (q := CF + cnt lab (lab i)) (r := i / nc) (c := i % nc) (v := cFold nc lab (lab i) i) (by omega) (by omega) (by omega) (fun j hj => tS ((G.2 (lab i) (by omega) (hLb.2 i)).1 j hj)) b4 bb) ?_
        intro σ1 hp_241
        obtain ⟨hd, rfl, d1, d2⟩ := hp_241
        refine aw_sg (show _ = (σ.1, uA (uA (uA σ.2.1 180 L) 187 (upd ho (FF + i) (nI (CF + cnt lab (lab i))))) 188 hd, σ.2.2) by rw [uA_uA]) ?_
        have hT2 : TbF (σ.1, uA (uA (uA σ.2.1 180 L) 187 (upd ho (FF + i) (nI (CF + cnt lab (lab i))))) 188 hd, σ.2.2) t m rc nr nc inT R := h.keep rfl ((uA_n (by decide)).trans ((uA_n (by decide)).trans (uA_n (by decide)))) ((uA_n (by decide)).trans ((uA_n (by decide)).trans (uA_n (by decide)))) ((uA_n (by decide)).trans ((uA_n (by decide)).trans (uA_n (by decide)))) ((uA_n (by decide)).trans ((uA_n (by decide)).trans (uA_n (by decide))))
        refine aw_aload_n dX10_findCells_244 rfl ?_
        refine gf10_cells dX10_findCells_245 kf10_43 k_176 ?_
        refine aw_eqr (b := 188) rfl ?_
        refine aw_bi (nI 6) dX10_findCells_248 (by decide) ?_
        refine aw_iload dX10_findCells_250 rfl ?_
        refine aw_imul dX10_findCells_252 ?_
        refine aw_eq (show _ = nI (6 * (CF + cnt lab (lab i))) by rw [pk_mul]) ?_
        refine aw_ic (nI 5) dX10_findCells_253 (by decide) ?_
        refine aw_iadd dX10_findCells_254 ?_
        refine aw_eq (show _ = nI (6 * (CF + cnt lab (lab i)) + 5) by rw [nI_add]) ?_
        refine aw_aload_n dX10_findCells_255 rfl ?_
        refine aw_iload_n dX10_findCells_256 rfl ?_
        refine aw_iload dX10_findCells_257 rfl ?_
        refine aw_iload_n dX10_findCells_259 rfl ?_
        refine aw_idiv dX10_findCells_260 (nI_ne0 (by omega) (by omega)) ?_
        refine aw_eq (nI_div (by omega) (by omega)) ?_
        refine aw_iload dX10_findCells_261 rfl ?_
        refine aw_iload_n dX10_findCells_263 rfl ?_
        refine aw_irem dX10_findCells_264 (nI_ne0 (by omega) (by omega)) ?_
        refine aw_eq (nI_rem (by omega) (by omega)) ?_
        refine cqi3 dX10_findCells_265 km10_170 ok_X10_isOpen rfl rfl (by decide) k_176 (Nat.le_of_ble_eq_true rfl) ⟨Nat.le_of_ble_eq_true rfl, Nat.le_of_ble_eq_true rfl⟩ rfl rfl (ct_isOpen hT2 hdv hmd) ?_
        refine aw_if_eqB dX10_findCells_268 rfl (fun h_268 => ?_) (fun h_268 => ?_)
        · skip
          refine aw_aload_n dX10_findCells_275 rfl ?_
          refine gf10_cells dX10_findCells_276 kf10_43 k_176 ?_
          refine aw_eqr (b := 188) rfl ?_
          refine aw_bi (nI 6) dX10_findCells_279 (by decide) ?_
          refine aw_iload dX10_findCells_281 rfl ?_
          refine aw_imul dX10_findCells_283 ?_
          refine aw_eq (show _ = nI (6 * (CF + cnt lab (lab i))) by rw [pk_mul]) ?_
          refine aw_ic (nI 5) dX10_findCells_284 (by decide) ?_
          refine aw_iadd dX10_findCells_285 ?_
          refine aw_eq (show _ = nI (6 * (CF + cnt lab (lab i)) + 5) by rw [nI_add]) ?_
          refine aw_ld (6 * (CF + cnt lab (lab i)) + 5) dX10_findCells_286 k_188 (rfl) (by omega) ?_
          refine aw_eq (sB ((d2 _ (by omega)).trans (tS (G.2 (lab i) (by omega) (hLb.2 i)).2))) ?_
          refine aw_sto (6 * (CF + cnt lab (lab i)) + 5) dX10_findCells_287 k_188 (rfl) (by omega) ?_
          refine aw_inc (nI (i + 1)) dX10_findCells_288 rfl (Nat.le_of_ble_eq_true rfl) (nI_1 i) ?_
          refine aw_goto dX10_findCells_291 ?_
          refine ih _ _ ⟨(upd ho (FF + i) (nI (CF + cnt lab (lab i)))), upd hd (6 * (CF + cnt lab (lab i)) + 5) (nI (if o5 lab (fun f => opX (tsd inT R m rc) nr nc (f / nc) (f % nc)) (lab i) i = true then 2 else 0)), _, by rw [uA_s, uA_uA], ⟨fun y hy => ?_, fun x hx => (pk_un (by omega)).trans (o2 x hx)⟩, G.step hLb (fun j hj => ?_) ?_ (fun x hx => ?_), by rw [hcs]; rfl⟩
          · by_cases z : y = i
            · rw [z, pk_us]
            · rw [pk_un (by omega)]; exact o1 y (by omega)
          · rw [pk_un (by omega), d1 j hj, cF_w hlt, ww_wv f0 f2 hj]
          · rw [pk_us]
            refine congrArg nI ?_
            by_cases z : o5 lab (fun f => opX (tsd inT R m rc) nr nc (f / nc) (f % nc)) (lab i) i = true
            · rw [if_pos z, if_pos ((o5_s rfl).mpr (Or.inl z))]
            · rw [if_neg z, if_neg (fun y => ((o5_s (op := (fun f => opX (tsd inT R m rc) nr nc (f / nc) (f % nc))) rfl).mp y).elim z h_268)]
          · exact (pk_un (by omega)).trans ((d2 x (by omega)).trans (tS (rfl)))
        · skip
          refine aw_ic (nI 2) dX10_findCells_271 (by decide) ?_
          refine aw_goto dX10_findCells_272 ?_
          refine aw_sto (6 * (CF + cnt lab (lab i)) + 5) dX10_findCells_287 k_188 (rfl) (by omega) ?_
          refine aw_inc (nI (i + 1)) dX10_findCells_288 rfl (Nat.le_of_ble_eq_true rfl) (nI_1 i) ?_
          refine aw_goto dX10_findCells_291 ?_
          refine ih _ _ ⟨(upd ho (FF + i) (nI (CF + cnt lab (lab i)))), upd hd (6 * (CF + cnt lab (lab i)) + 5) (nI 2), _, by rw [uA_s, uA_uA], ⟨fun y hy => ?_, fun x hx => (pk_un (by omega)).trans (o2 x hx)⟩, G.step hLb (fun j hj => ?_) ?_ (fun x hx => ?_), by rw [hcs]; rfl⟩
          · by_cases z : y = i
            · rw [z, pk_us]
            · rw [pk_un (by omega)]; exact o1 y (by omega)
          · rw [pk_un (by omega), d1 j hj, cF_w hlt, ww_wv f0 f2 hj]
          · rw [pk_us, if_pos ((o5_s (op := (fun f => opX (tsd inT R m rc) nr nc (f / nc) (f % nc))) rfl).mpr (Or.inr h_268))]
          · exact (pk_un (by omega)).trans ((d2 x (by omega)).trans (tS (rfl)))
    · rintro σ2 lv2 ⟨ho, hc, x, rfl, ⟨o1, o2⟩, G, rfl⟩
      refine aw_iload dX10_findCells_115 rfl ?_
      refine aw_iload_n dX10_findCells_117 rfl ?_
      refine aw_icmp_geN dX10_findCells_118 rfl rfl (by omega) (by omega) (fun h_118 => ?_) (fun h_118 => absurd h_118 (by omega))
      refine aw_aload_n dX10_findCells_294 rfl ?_
      refine gf10_cellFrom dX10_findCells_295 kf10_37 k_176 ?_
      refine aw_eqr (b := 186) rfl ?_
      refine aw_iload_n dX10_findCells_298 rfl ?_
      refine aw_ld (t) dX10_findCells_299 k_186 (rfl) (by omega) ?_
      refine aw_eq (nB (by decide) (nB (by decide) (nB (by decide) hC))) ?_
      refine aw_istore dX10_findCells_300 (Nat.le_of_ble_eq_true rfl) ?_
      refine for_ux (fun k σ' lv' => ∃ hc x, σ' = (σ.1, uA (uA (uA σ.2.1 180 L) 187 ho) 188 hc, σ.2.2) ∧ CeK nc lab (fun f => opX (tsd inT R m rc) nr nc (f / nc) (f % nc)) CF n k (σ.2.1 188) hc ∧ lv' = [some (.ref (ad g 176)), some (.int (nI t)), some (.int (nI nc)), some (.int (nI n)), some (.int (nI (CF + cnt lab n))), some (.int (nI (CF + k))), x]) (cnt lab n) ?_ ?_ (0) _ _ (by omega) (⟨hc, _, rfl, ⟨G.1, fun ρ h1 h2 => ⟨(G.2 ρ h1 h2).1, by rw [(G.2 ρ h1 h2).2, if_neg (Nat.not_lt_zero _)]⟩⟩, rfl⟩)
      · rintro k σ2 lv2 hk ⟨hc, x, rfl, G, rfl⟩ ih
        obtain ⟨ρ, hρ, hr, rfl⟩ := cnt_onto hk
        obtain ⟨b1, b2⟩ := G.2 ρ hρ hr
        obtain ⟨-, c13, c4, -, -, -, -, -, c02⟩ := cFold_B (nr := nr) hb.2.1 hr n hρ (by omega)
        have c23 : cFold nc lab ρ n 2 * cFold nc lab ρ n 3 ≤ 21 * 21 := Nat.mul_le_mul (by omega) (by omega)
        refine aw_iload dX10_findCells_302 rfl ?_
        refine aw_iload dX10_findCells_304 rfl ?_
        refine aw_icmp_geN dX10_findCells_306 rfl rfl (by omega) (by omega) (fun h_306 => absurd h_306 (by omega)) (fun h_306 => ?_)
        refine aw_aload_n dX10_findCells_309 rfl ?_
        refine aw_iload dX10_findCells_310 rfl ?_
        refine aw_ic (nI 4) dX10_findCells_312 (by decide) ?_
        refine cqi2 dX10_findCells_313 km10_174 ok_X10_cellAt rfl rfl (by decide) k_176 (Nat.le_of_ble_eq_true rfl) ⟨Nat.le_of_ble_eq_true rfl, Nat.le_of_ble_eq_true rfl⟩ rfl rfl (ct_cellAt (r := CF + cnt lab ρ) (w := 4) (by omega)) ?_
        refine aw_eq (tS (b1 4 (by decide))) ?_
        refine aw_aload_n dX10_findCells_316 rfl ?_
        refine aw_iload dX10_findCells_317 rfl ?_
        refine aw_ic (nI 2) dX10_findCells_319 (by decide) ?_
        refine cqi2 dX10_findCells_320 km10_174 ok_X10_cellAt rfl rfl (by decide) k_176 (Nat.le_of_ble_eq_true rfl) ⟨Nat.le_of_ble_eq_true rfl, Nat.le_of_ble_eq_true rfl⟩ rfl rfl (ct_cellAt (r := CF + cnt lab ρ) (w := 2) (by omega)) ?_
        refine aw_eq (tS (b1 2 (by decide))) ?_
        refine aw_aload_n dX10_findCells_323 rfl ?_
        refine aw_iload dX10_findCells_324 rfl ?_
        refine aw_ic (nI 3) dX10_findCells_326 (by decide) ?_
        refine cqi2 dX10_findCells_327 km10_174 ok_X10_cellAt rfl rfl (by decide) k_176 (Nat.le_of_ble_eq_true rfl) ⟨Nat.le_of_ble_eq_true rfl, Nat.le_of_ble_eq_true rfl⟩ rfl rfl (ct_cellAt (r := CF + cnt lab ρ) (w := 3) (by omega)) ?_
        refine aw_eq (tS (b1 3 (by decide))) ?_
        refine aw_imul dX10_findCells_330 ?_
        refine aw_eq (pk_mul _ _) ?_
        refine aw_icmp_geN dX10_findCells_331 rfl rfl (by omega) (by omega) (fun h_331 => ?_) (fun h_331 => ?_)
        · skip
          refine aw_ic (nI 0) dX10_findCells_338 (by decide) ?_
          refine aw_istore dX10_findCells_339 (Nat.le_of_ble_eq_true rfl) ?_
          refine aw_aload_n dX10_findCells_341 rfl ?_
          refine gf10_cells dX10_findCells_342 kf10_43 k_176 ?_
          refine aw_eqr (b := 188) rfl ?_
          refine aw_bi (nI 6) dX10_findCells_345 (by decide) ?_
          refine aw_iload dX10_findCells_347 rfl ?_
          refine aw_imul dX10_findCells_349 ?_
          refine aw_eq (show _ = nI (6 * (CF + cnt lab ρ)) by rw [pk_mul]) ?_
          refine aw_ic (nI 5) dX10_findCells_350 (by decide) ?_
          refine aw_iadd dX10_findCells_351 ?_
          refine aw_eq (show _ = nI (6 * (CF + cnt lab ρ) + 5) by rw [nI_add]) ?_
          refine aw_aload_n dX10_findCells_352 rfl ?_
          refine aw_iload dX10_findCells_353 rfl ?_
          refine aw_ic (nI 5) dX10_findCells_355 (by decide) ?_
          refine cqi2 dX10_findCells_356 km10_174 ok_X10_cellAt rfl rfl (by decide) k_176 (Nat.le_of_ble_eq_true rfl) ⟨Nat.le_of_ble_eq_true rfl, Nat.le_of_ble_eq_true rfl⟩ rfl rfl (ct_cellAt (r := CF + cnt lab ρ) (w := 5) (by omega)) ?_
          refine aw_eq (tS (b2.trans (by rw [if_neg (Nat.lt_irrefl _)]))) ?_
          refine aw_ic (nI 2) dX10_findCells_359 (by decide) ?_
          refine aw_icmp_neN dX10_findCells_360 rfl (b := 2) rfl (by split <;> omega) (by omega) (fun h_360 => ?_) (fun h_360 => ?_)
          · skip
            refine aw_iload dX10_findCells_367 rfl ?_
            refine aw_if_eq dX10_findCells_369 (fun _ => ?_) (fun h => absurd (by decide) h)
            refine aw_ic (nI 0) dX10_findCells_376 (by decide) ?_
            refine aw_sto (6 * (CF + cnt lab ρ) + 5) dX10_findCells_377 k_188 (rfl) (by omega) ?_
            refine aw_inc (nI (CF + cnt lab ρ + 1)) dX10_findCells_378 rfl (Nat.le_of_ble_eq_true rfl) (nI_1 _) ?_
            refine aw_goto dX10_findCells_381 ?_
            exact ih _ _ ⟨upd hc (6 * (CF + cnt lab ρ) + 5) (nI 0), _, by rw [uA_s, uA_uA], G.step hr (by unfold kiN; rw [if_neg (show ¬ o5 lab (fun f => opX (tsd inT R m rc) nr nc (f / nc) (f % nc)) ρ n = true from fun z => by rw [if_pos z] at h_360; omega), if_neg (by omega)]), rfl⟩
          · skip
            refine aw_ic (nI 2) dX10_findCells_363 (by decide) ?_
            refine aw_goto dX10_findCells_364 ?_
            refine aw_sto (6 * (CF + cnt lab ρ) + 5) dX10_findCells_377 k_188 (rfl) (by omega) ?_
            refine aw_inc (nI (CF + cnt lab ρ + 1)) dX10_findCells_378 rfl (Nat.le_of_ble_eq_true rfl) (nI_1 _) ?_
            refine aw_goto dX10_findCells_381 ?_
            exact ih _ _ ⟨upd hc (6 * (CF + cnt lab ρ) + 5) (nI 2), _, by rw [uA_s, uA_uA], G.step hr (by unfold kiN; rw [if_pos (show o5 lab (fun f => opX (tsd inT R m rc) nr nc (f / nc) (f % nc)) ρ n = true from Classical.byContradiction fun z => by rw [if_neg z] at h_360; omega)]), rfl⟩
        · skip
          refine aw_ic (nI 1) dX10_findCells_334 (by decide) ?_
          refine aw_goto dX10_findCells_335 ?_
          refine aw_istore dX10_findCells_339 (Nat.le_of_ble_eq_true rfl) ?_
          refine aw_aload_n dX10_findCells_341 rfl ?_
          refine gf10_cells dX10_findCells_342 kf10_43 k_176 ?_
          refine aw_eqr (b := 188) rfl ?_
          refine aw_bi (nI 6) dX10_findCells_345 (by decide) ?_
          refine aw_iload dX10_findCells_347 rfl ?_
          refine aw_imul dX10_findCells_349 ?_
          refine aw_eq (show _ = nI (6 * (CF + cnt lab ρ)) by rw [pk_mul]) ?_
          refine aw_ic (nI 5) dX10_findCells_350 (by decide) ?_
          refine aw_iadd dX10_findCells_351 ?_
          refine aw_eq (show _ = nI (6 * (CF + cnt lab ρ) + 5) by rw [nI_add]) ?_
          refine aw_aload_n dX10_findCells_352 rfl ?_
          refine aw_iload dX10_findCells_353 rfl ?_
          refine aw_ic (nI 5) dX10_findCells_355 (by decide) ?_
          refine cqi2 dX10_findCells_356 km10_174 ok_X10_cellAt rfl rfl (by decide) k_176 (Nat.le_of_ble_eq_true rfl) ⟨Nat.le_of_ble_eq_true rfl, Nat.le_of_ble_eq_true rfl⟩ rfl rfl (ct_cellAt (r := CF + cnt lab ρ) (w := 5) (by omega)) ?_
          refine aw_eq (tS (b2.trans (by rw [if_neg (Nat.lt_irrefl _)]))) ?_
          refine aw_ic (nI 2) dX10_findCells_359 (by decide) ?_
          refine aw_icmp_neN dX10_findCells_360 rfl (b := 2) rfl (by split <;> omega) (by omega) (fun h_360 => ?_) (fun h_360 => ?_)
          · skip
            refine aw_iload dX10_findCells_367 rfl ?_
            refine aw_if_eq dX10_findCells_369 (fun h => absurd h (by decide)) (fun _ => ?_)
            refine aw_ic (nI 1) dX10_findCells_372 (by decide) ?_
            refine aw_goto dX10_findCells_373 ?_
            refine aw_sto (6 * (CF + cnt lab ρ) + 5) dX10_findCells_377 k_188 (rfl) (by omega) ?_
            refine aw_inc (nI (CF + cnt lab ρ + 1)) dX10_findCells_378 rfl (Nat.le_of_ble_eq_true rfl) (nI_1 _) ?_
            refine aw_goto dX10_findCells_381 ?_
            exact ih _ _ ⟨upd hc (6 * (CF + cnt lab ρ) + 5) (nI 1), _, by rw [uA_s, uA_uA], G.step hr (by unfold kiN; rw [if_neg (show ¬ o5 lab (fun f => opX (tsd inT R m rc) nr nc (f / nc) (f % nc)) ρ n = true from fun z => by rw [if_pos z] at h_360; omega), if_pos (by omega)]), rfl⟩
          · skip
            refine aw_ic (nI 2) dX10_findCells_363 (by decide) ?_
            refine aw_goto dX10_findCells_364 ?_
            refine aw_sto (6 * (CF + cnt lab ρ) + 5) dX10_findCells_377 k_188 (rfl) (by omega) ?_
            refine aw_inc (nI (CF + cnt lab ρ + 1)) dX10_findCells_378 rfl (Nat.le_of_ble_eq_true rfl) (nI_1 _) ?_
            refine aw_goto dX10_findCells_381 ?_
            exact ih _ _ ⟨upd hc (6 * (CF + cnt lab ρ) + 5) (nI 2), _, by rw [uA_s, uA_uA], G.step hr (by unfold kiN; rw [if_pos (show o5 lab (fun f => opX (tsd inT R m rc) nr nc (f / nc) (f % nc)) ρ n = true from Classical.byContradiction fun z => by rw [if_neg z] at h_360; omega)]), rfl⟩
      · rintro σ2 lv2 ⟨hc, x, rfl, G, rfl⟩
        refine aw_iload dX10_findCells_302 rfl ?_
        refine aw_iload dX10_findCells_304 rfl ?_
        refine aw_icmp_geN dX10_findCells_306 rfl rfl (by omega) (by omega) (fun h_306 => ?_) (fun h_306 => absurd h_306 (by omega))
        refine aw_aload_n dX10_findCells_384 rfl ?_
        refine gf10_cellFrom dX10_findCells_385 kf10_37 k_176 ?_
        refine aw_eqr (b := 186) rfl ?_
        refine aw_iload_n dX10_findCells_388 rfl ?_
        refine aw_ic (nI 1) dX10_findCells_389 (by decide) ?_
        refine aw_iadd dX10_findCells_390 ?_
        refine aw_eq (show _ = nI (t + 1) by rw [nI_add]) ?_
        refine aw_iload dX10_findCells_391 rfl ?_
        refine aw_sto (t + 1) dX10_findCells_393 k_186 (rfl) (by omega) ?_
        refine aw_sg (show _ = (σ.1, uA (uA (uA (uA σ.2.1 180 L) 187 ho) 188 hc) 186 (upd (σ.2.1 186) (t + 1) (nI (CF + cnt lab n))), σ.2.2) by rw [show (uA (uA (uA σ.2.1 180 L) 187 ho) 188 hc) 186 = σ.2.1 186 from ((uA_n (by decide)).trans ((uA_n (by decide)).trans (uA_n (by decide))))]) ?_
        refine aw_aload_n dX10_findCells_394 rfl ?_
        refine gf10_fieldFrom dX10_findCells_395 kf10_34 k_176 ?_
        refine aw_eqr (b := 185) rfl ?_
        refine aw_iload_n dX10_findCells_398 rfl ?_
        refine aw_ic (nI 1) dX10_findCells_399 (by decide) ?_
        refine aw_iadd dX10_findCells_400 ?_
        refine aw_eq (show _ = nI (t + 1) by rw [nI_add]) ?_
        refine aw_aload_n dX10_findCells_401 rfl ?_
        refine gf10_fieldFrom dX10_findCells_402 kf10_34 k_176 ?_
        refine aw_eqr (b := 185) rfl ?_
        refine aw_iload_n dX10_findCells_405 rfl ?_
        refine aw_ld (t) dX10_findCells_406 k_185 (rfl) (by omega) ?_
        refine aw_eq (nB (by decide) (nB (by decide) (nB (by decide) (nB (by decide) hF)))) ?_
        refine aw_iload_n dX10_findCells_407 rfl ?_
        refine aw_iadd dX10_findCells_408 ?_
        refine aw_eq (show _ = nI (FF + n) by rw [nI_add]) ?_
        refine aw_sto (t + 1) dX10_findCells_409 k_185 (rfl) (by omega) ?_
        refine aw_sg (show _ = (σ.1, uA (uA (uA (uA (uA σ.2.1 180 L) 187 ho) 188 hc) 186 (upd (σ.2.1 186) (t + 1) (nI (CF + cnt lab n)))) 185 (upd (σ.2.1 185) (t + 1) (nI (FF + n))), σ.2.2) by rw [show (uA (uA (uA (uA σ.2.1 180 L) 187 ho) 188 hc) 186 (upd (σ.2.1 186) (t + 1) (nI (CF + cnt lab n)))) 185 = σ.2.1 185 from ((uA_n (by decide)).trans ((uA_n (by decide)).trans ((uA_n (by decide)).trans (uA_n (by decide)))))]) ?_
        exact aw_ret dX10_findCells_410 (⟨L, ho, hc, rfl, o1, o2, fun ρ h1 h2 => ⟨(G.2 ρ h1 h2).1, by rw [(G.2 ρ h1 h2).2, if_pos (cnt_lt h2 h1)]⟩, G.1⟩)

