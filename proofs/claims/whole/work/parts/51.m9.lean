set_option maxHeartbeats 4000000 in
set_option maxRecDepth 100000 in
theorem ct_between {g : GG} {σ : SG} {t w n d : Nat} {pl : Nat → Nat} (ht : t < 6) (hw : w < 2) (hn : σ.2.1 184 (2 * t + w) = nI (n + 1)) (hn2 : n ≤ 21) (hl : ∀ l, l < n + 1 → σ.2.1 183 (44 * t + 22 * w + l) = nI (pl l)) (hp : ∀ l, pl l ≤ 99) (hd : d ≤ 999) : Cti g yX10_between cX10_between 5 (some .int) (rmm 1 23) [.ref (ad g 176), .int (nI t), .int (nI w), .int (nI d)] σ (fun r σ' => r = orN (fst (btw pl d) n) n ∧ σ' = σ) := by
  refine ct_of (own := RX10) (lv := [some (.ref (ad g 176)), some (.int (nI t)), some (.int (nI w)), some (.int (nI d)), none]) rfl (by decide) (Nat.le_of_ble_eq_true rfl) (by intro u hu; simp only [List.mem_cons, List.not_mem_nil, or_false] at hu; rcases hu with rfl | rfl | rfl | rfl <;> rfl) (lv_ok [.ref (ad g 176), .int (nI t), .int (nI w), .int (nI d)] 1) ?_
  have hl184 := l_184
  refine aw_ic (nI 0) dX10_between_0 (by decide) ?_
  refine aw_istore dX10_between_1 (Nat.le_of_ble_eq_true rfl) ?_
  refine for_ux (fun i σ' lv' => σ = σ' ∧ (∀ j, j < i → btw pl d j = false) ∧ lv' = [some (.ref (ad g 176)), some (.int (nI t)), some (.int (nI w)), some (.int (nI d)), some (.int (nI i))]) (n) ?_ ?_ (0) _ _ (by omega) (⟨rfl, fun j hj => absurd hj (Nat.not_lt_zero j), rfl⟩)
  · rintro i σ2 lv2 hi ⟨rfl, hf, rfl⟩ ih
    have p0 := hp i
    have p1 := hp (i + 1)
    refine aw_iload dX10_between_3 rfl ?_
    refine aw_ic (nI 1) dX10_between_5 (by decide) ?_
    refine aw_iadd dX10_between_6 ?_
    refine aw_eq (nI_add _ _) ?_
    refine aw_aload_n dX10_between_7 rfl ?_
    refine gf10_lineMany dX10_between_8 kf10_31 k_176 ?_
    refine aw_eqr (b := 184) rfl ?_
    refine aw_ic (nI 2) dX10_between_11 (by decide) ?_
    refine aw_iload_n dX10_between_12 rfl ?_
    refine aw_imul dX10_between_13 ?_
    refine aw_eq (pk_mul _ _) ?_
    refine aw_iload_n dX10_between_14 rfl ?_
    refine aw_iadd dX10_between_15 ?_
    refine aw_eq (nI_add _ _) ?_
    refine aw_ld (2 * t + w) dX10_between_16 k_184 (rfl) (by omega) ?_
    refine aw_eq hn ?_
    refine aw_icmp_geN dX10_between_17 rfl rfl (by omega) (by omega) (fun h_17 => absurd h_17 (by omega)) (fun h_17 => ?_)
    refine aw_ic (nI 2) dX10_between_20 (by decide) ?_
    refine aw_aload_n dX10_between_21 rfl ?_
    refine aw_iload_n dX10_between_22 rfl ?_
    refine aw_iload_n dX10_between_23 rfl ?_
    refine aw_iload dX10_between_24 rfl ?_
    refine cqi3 dX10_between_26 km10_155 ok_X10_lineAt rfl rfl (by decide) k_176 (Nat.le_of_ble_eq_true rfl) ⟨Nat.le_of_ble_eq_true rfl, Nat.le_of_ble_eq_true rfl⟩ rfl rfl (ct_lineAt (t := t) (w := w) (k := i) (by omega)) ?_
    refine aw_eq (hl (i) (by omega)) ?_
    refine aw_imul dX10_between_29 ?_
    refine aw_eq (pk_mul _ _) ?_
    refine aw_iload_n dX10_between_30 rfl ?_
    refine aw_icmp_geN dX10_between_31 rfl rfl (by omega) (by omega) (fun h_31 => ?_) (fun h_31 => ?_)
    · skip
      refine aw_inc (nI (i + 1)) dX10_between_53 rfl (Nat.le_of_ble_eq_true rfl) (nI_1 i) ?_
      refine aw_goto dX10_between_56 ?_
      exact ih _ _ ⟨rfl, fun j hj => by
        by_cases z : j = i
        · rw [z]
          unfold btw
          simp only [Bool.and_eq_false_iff, decide_eq_false_iff_not]
          omega
        · exact hf j (by omega), rfl⟩
    · skip
      refine aw_iload_n dX10_between_34 rfl ?_
      refine aw_ic (nI 2) dX10_between_35 (by decide) ?_
      refine aw_aload_n dX10_between_36 rfl ?_
      refine aw_iload_n dX10_between_37 rfl ?_
      refine aw_iload_n dX10_between_38 rfl ?_
      refine aw_iload dX10_between_39 rfl ?_
      refine aw_ic (nI 1) dX10_between_41 (by decide) ?_
      refine aw_iadd dX10_between_42 ?_
      refine aw_eq (nI_add _ _) ?_
      refine cqi3 dX10_between_43 km10_155 ok_X10_lineAt rfl rfl (by decide) k_176 (Nat.le_of_ble_eq_true rfl) ⟨Nat.le_of_ble_eq_true rfl, Nat.le_of_ble_eq_true rfl⟩ rfl rfl (ct_lineAt (t := t) (w := w) (k := i + 1) (by omega)) ?_
      refine aw_eq (hl (i + 1) (by omega)) ?_
      refine aw_imul dX10_between_46 ?_
      refine aw_eq (pk_mul _ _) ?_
      refine aw_icmp_geN dX10_between_47 rfl rfl (by omega) (by omega) (fun h_47 => ?_) (fun h_47 => ?_)
      · skip
        refine aw_inc (nI (i + 1)) dX10_between_53 rfl (Nat.le_of_ble_eq_true rfl) (nI_1 i) ?_
        refine aw_goto dX10_between_56 ?_
        exact ih _ _ ⟨rfl, fun j hj => by
          by_cases z : j = i
          · rw [z]
            unfold btw
            simp only [Bool.and_eq_false_iff, decide_eq_false_iff_not]
            omega
          · exact hf j (by omega), rfl⟩
      · skip
        refine aw_iload dX10_between_50 rfl ?_
        exact aw_ireti dX10_between_52 (⟨by rw [fst_eq hf (by unfold btw; simp only [Bool.and_eq_true, decide_eq_true_eq]; omega) hi, orN_y hi], rfl⟩)
  · rintro σ2 lv2 ⟨rfl, hf, rfl⟩
    refine aw_iload dX10_between_3 rfl ?_
    refine aw_ic (nI 1) dX10_between_5 (by decide) ?_
    refine aw_iadd dX10_between_6 ?_
    refine aw_eq (nI_add _ _) ?_
    refine aw_aload_n dX10_between_7 rfl ?_
    refine gf10_lineMany dX10_between_8 kf10_31 k_176 ?_
    refine aw_eqr (b := 184) rfl ?_
    refine aw_ic (nI 2) dX10_between_11 (by decide) ?_
    refine aw_iload_n dX10_between_12 rfl ?_
    refine aw_imul dX10_between_13 ?_
    refine aw_eq (pk_mul _ _) ?_
    refine aw_iload_n dX10_between_14 rfl ?_
    refine aw_iadd dX10_between_15 ?_
    refine aw_eq (nI_add _ _) ?_
    refine aw_ld (2 * t + w) dX10_between_16 k_184 (rfl) (by omega) ?_
    refine aw_eq hn ?_
    refine aw_icmp_geN dX10_between_17 rfl rfl (by omega) (by omega) (fun h_17 => ?_) (fun h_17 => absurd h_17 (by omega))
    refine aw_bi (-6) dX10_between_59 (by decide) ?_
    exact aw_ireti dX10_between_61 (⟨by rw [fst_none hf, orN_n], rfl⟩)

theorem orN_x {k n : Nat} (h : ¬ k < n) : orN k n = -6 := if_neg h
theorem dec1 (a : Int32) : a + Int32.ofInt (-1) = a - nI 1 := by
  rw [Int32.sub_eq_add_neg]
  rfl
/-- tables from below T - i up, the word's first one -/
def WdI (p : Nat → Bool) (v : Nat → Int32) (T i : Nat) (a b : Int32) : Prop := ((∀ t, T - i ≤ t → t < T → p t = false) ∧ a = -6 ∧ b = -6) ∨ ∃ t, (T - i ≤ t ∧ t < T ∧ p t = true ∧ ∀ t', T - i ≤ t' → t' < t → p t' = false) ∧ a = nI t ∧ b = v t
theorem WdI.no {p : Nat → Bool} {v : Nat → Int32} {T i : Nat} {a b : Int32} (h : WdI p v T i a b) (hi : i < T) (hn : p (T - i - 1) = false) : WdI p v T (i + 1) a b := by
  rcases h with ⟨h, e1, e2⟩ | ⟨t, ⟨h1, h2, h3, h4⟩, e1, e2⟩
  · refine Or.inl ⟨fun t a b => ?_, e1, e2⟩
    by_cases z : t = T - i - 1
    · rw [z]; exact hn
    · exact h t (by omega) b
  · refine Or.inr ⟨t, ⟨by omega, h2, h3, fun t' a b => ?_⟩, e1, e2⟩
    by_cases z : t' = T - i - 1
    · rw [z]; exact hn
    · exact h4 t' (by omega) b
theorem WdI.yes {p : Nat → Bool} {v : Nat → Int32} {T i : Nat} (hi : i < T) (hn : p (T - i - 1) = true) : WdI p v T (i + 1) (nI (T - i - 1)) (v (T - i - 1)) := Or.inr ⟨T - i - 1, ⟨by omega, by omega, hn, fun t' a b => by omega⟩, rfl, rfl⟩
theorem WdI.fin {p : Nat → Bool} {v : Nat → Int32} {T : Nat} {a b : Int32} (h : WdI p v T T a b) : a = (if fst p T < T then nI (fst p T) else -6) ∧ b = (if fst p T < T then v (fst p T) else -6) := by
  rcases h with ⟨h, e1, e2⟩ | ⟨t, ⟨h1, h2, h3, h4⟩, e1, e2⟩
  · rw [fst_none (fun j hj => h j (by omega) hj), if_neg (Nat.lt_irrefl _), if_neg (Nat.lt_irrefl _)]
    exact ⟨e1, e2⟩
  · rw [fst_eq (fun j hj => h4 j (by omega) hj) h3 h2, if_pos h2, if_pos h2]
    exact ⟨e1, e2⟩
theorem wd_sg {J B : Nat → Nat → Int32} {π : Nat → Nat} {a b : Nat → Int32} {x : Nat} {u v : Int32} : ((J, uA (uA (uA (uA B 189 a) 190 b) 189 (upd ((uA (uA B 189 a) 190 b) 189) x u)) 190 (upd ((uA (uA (uA B 189 a) 190 b) 189 (upd ((uA (uA B 189 a) 190 b) 189) x u)) 190) x v), π) : SG) = (J, uA (uA B 189 (upd a x u)) 190 (upd b x v), π) := by
  have e1 : (uA (uA B 189 a) 190 b) 189 = a := by rw [uA_n (by decide), uA_s]
  have e2 : (uA (uA (uA B 189 a) 190 b) 189 (upd a x u)) 190 = b := by rw [uA_n (by decide), uA_s]
  rw [e1, e2]
  refine congrArg (fun z => (J, z, π)) ?_
  funext o
  by_cases h : o = 190
  · subst h
    rw [uA_s, uA_s]
  · rw [uA_n h, uA_n h]
    by_cases h2 : o = 189
    · subst h2
      rw [uA_s, uA_s]
    · rw [uA_n h2, uA_n h, uA_n h2, uA_n h2]
theorem wd_0 {J B : Nat → Nat → Int32} {π : Nat → Nat} {x : Nat} {u v : Int32} : ((J, uA (uA B 189 (upd (B 189) x u)) 190 (upd ((uA B 189 (upd (B 189) x u)) 190) x v), π) : SG) = (J, uA (uA B 189 (upd (B 189) x u)) 190 (upd (B 190) x v), π) := by rw [show (uA B 189 (upd (B 189) x u)) 190 = B 190 from uA_n (by decide)]
set_option maxHeartbeats 4000000 in
set_option maxRecDepth 100000 in
theorem ct_findWord {g : GG} {σ : SG} {T nw x : Nat} {pl : Nat → Nat → Nat → Nat} {nr nc FF CF : Nat → Nat} {fc : Nat → Nat → Nat} {wd : Nat → Nat → Nat} (hT : σ.1 330 176 = nI T) (hT6 : T ≤ 6) (hw : ∀ p k, p < nw → k < 4 → σ.2.1 178 (4 * p + k) = nI (wd p k)) (hwb : ∀ p k, wd p k ≤ 99) (hnw : nw ≤ 20) (hx : x < nw) (hN : ∀ t, t < T → σ.2.1 184 (2 * t + 0) = nI (nr t + 1) ∧ σ.2.1 184 (2 * t + 1) = nI (nc t + 1)) (hb : ∀ t, t < T → nr t ≤ 21 ∧ nc t ≤ 21) (hpl : ∀ t w l, pl t w l ≤ 99) (hl : ∀ t w l, t < T → w < 2 → l < (if w = 0 then nr t + 1 else nc t + 1) → σ.2.1 183 (44 * t + 22 * w + l) = nI (pl t w l)) (hF : ∀ t, t < T → σ.2.1 185 t = nI (FF t)) (hFb : ∀ t, t < T → FF t + nr t * nc t ≤ 121) (hO : ∀ t f, t < T → f < nr t * nc t → σ.2.1 187 (FF t + f) = nI (CF t + fc t f)) : Ctv g yX10_findWord cX10_findWord 5 (rmm 2 47) [.ref (ad g 176), .int (nI x)] σ (fun σ' => ∃ a b, σ' = (σ.1, uA (uA σ.2.1 189 a) 190 b, σ.2.2) ∧ (a x = (if wTa wd pl nr nc T x < T then nI (wTa wd pl nr nc T x) else -6) ∧ b x = (if wTa wd pl nr nc T x < T then nI (CF (wTa wd pl nr nc T x) + wCe wd pl nr nc fc T x) else -6)) ∧ ∀ y, y ≠ x → a y = σ.2.1 189 y ∧ b y = σ.2.1 190 y) := by
  refine ct_of (own := RX10) (lv := [some (.ref (ad g 176)), some (.int (nI x)), none, none, none]) rfl (by decide) (Nat.le_of_ble_eq_true rfl) (by intro u hu; simp only [List.mem_cons, List.not_mem_nil, or_false] at hu; rcases hu with rfl | rfl <;> rfl) (lv_ok [.ref (ad g 176), .int (nI x)] 3) ?_
  have hl189 := l_189
  have hl190 := l_190
  have hl187 := l_187
  have hl185 := l_185
  have b0 := hwb x 0
  have b1 := hwb x 1
  have b2 := hwb x 2
  have b3 := hwb x 3
  refine aw_aload_n dX10_findWord_0 rfl ?_
  refine gf10_wordTable dX10_findWord_1 kf10_46 k_176 ?_
  refine aw_eqr (b := 189) rfl ?_
  refine aw_iload_n dX10_findWord_4 rfl ?_
  refine aw_bi (-6) dX10_findWord_5 (by decide) ?_
  refine aw_sto (x) dX10_findWord_7 k_189 (rfl) (by omega) ?_
  refine aw_aload_n dX10_findWord_8 rfl ?_
  refine gf10_wordCell dX10_findWord_9 kf10_49 k_176 ?_
  refine aw_eqr (b := 190) rfl ?_
  refine aw_iload_n dX10_findWord_12 rfl ?_
  refine aw_bi (-6) dX10_findWord_13 (by decide) ?_
  refine aw_sto (x) dX10_findWord_15 k_190 (rfl) (by omega) ?_
  refine aw_aload_n dX10_findWord_16 rfl ?_
  refine gf10_tableMany dX10_findWord_17 kf10_138 k_176 ?_
  refine aw_eq hT ?_
  refine aw_ic (nI 1) dX10_findWord_20 (by decide) ?_
  refine aw_isub dX10_findWord_21 ?_
  refine aw_istore_n dX10_findWord_22 (Nat.le_of_ble_eq_true rfl) ?_
  refine for_ux (fun i σ' lv' => ∃ a b y z, σ' = (σ.1, uA (uA σ.2.1 189 a) 190 b, σ.2.2) ∧ WdI (inW wd pl nr nc x) (fun t => nI (CF t + fc t (roW wd (pl t) (nr t) x * nc t + coW wd (pl t) (nc t) x))) T i (a x) (b x) ∧ (∀ y, y ≠ x → a y = σ.2.1 189 y ∧ b y = σ.2.1 190 y) ∧ lv' = [some (.ref (ad g 176)), some (.int (nI x)), some (.int (nI (T - i) - nI 1)), y, z]) (T) ?_ ?_ (0) _ _ (by omega) (⟨_, _, _, _, wd_0, by rw [pk_us, pk_us]; exact Or.inl ⟨fun t h1 h2 => by omega, rfl, rfl⟩, fun y hy => ⟨pk_un hy, pk_un hy⟩, rfl⟩)
  · rintro i σ2 lv2 hi ⟨a, b, y, z, rfl, hW, hfr, rfl⟩ ih
    have ht : T - i - 1 < T := by omega
    have hbb := hb (T - i - 1) ht
    by_cases hro : roW wd (pl (T - i - 1)) (nr (T - i - 1)) x < nr (T - i - 1)
    · skip
      by_cases hco : coW wd (pl (T - i - 1)) (nc (T - i - 1)) x < nc (T - i - 1)
      · skip
        have hy : inW wd pl nr nc x (T - i - 1) = true := by unfold inW; rw [decide_eq_true hro, decide_eq_true hco]; rfl
        have hrc := rc_lt hro hco
        refine aw_iload_n dX10_findWord_23 rfl ?_
        refine aw_eq (show _ = nI (T - i - 1) from pk_sub (by omega)) ?_
        refine aw_if_lt dX10_findWord_24 (fun h_24 => absurd h_24 (nI_pos (by omega))) (fun h_24 => ?_)
        refine aw_aload_n dX10_findWord_27 rfl ?_
        refine aw_iload_n dX10_findWord_28 rfl ?_
        refine aw_eq (show _ = nI (T - i - 1) from pk_sub (by omega)) ?_
        refine aw_ic (nI 0) dX10_findWord_29 (by decide) ?_
        refine aw_aload_n dX10_findWord_30 rfl ?_
        refine aw_iload_n dX10_findWord_31 rfl ?_
        refine aw_ic (nI 1) dX10_findWord_32 (by decide) ?_
        refine cqi2 dX10_findWord_33 km10_177 ok_X10_boxAt rfl rfl (by decide) k_176 (Nat.le_of_ble_eq_true rfl) ⟨Nat.le_of_ble_eq_true rfl, Nat.le_of_ble_eq_true rfl⟩ rfl rfl (ct_boxAt (r := x) (w := 1) (by omega)) ?_
        refine aw_eq (tA (by decide) (nB (by decide) (hw x 1 hx (by decide)))) ?_
        refine aw_aload_n dX10_findWord_36 rfl ?_
        refine aw_iload_n dX10_findWord_37 rfl ?_
        refine aw_ic (nI 3) dX10_findWord_38 (by decide) ?_
        refine cqi2 dX10_findWord_39 km10_177 ok_X10_boxAt rfl rfl (by decide) k_176 (Nat.le_of_ble_eq_true rfl) ⟨Nat.le_of_ble_eq_true rfl, Nat.le_of_ble_eq_true rfl⟩ rfl rfl (ct_boxAt (r := x) (w := 3) (by omega)) ?_
        refine aw_eq (tA (by decide) (nB (by decide) (hw x 3 hx (by decide)))) ?_
        refine aw_iadd dX10_findWord_42 ?_
        refine aw_eq (nI_add _ _) ?_
        refine cqi3 dX10_findWord_43 km10_180 ok_X10_between rfl rfl (by decide) k_176 (Nat.le_of_ble_eq_true rfl) ⟨Nat.le_of_ble_eq_true rfl, Nat.le_of_ble_eq_true rfl⟩ rfl rfl (ct_between (t := T - i - 1) (w := 0) (n := nr (T - i - 1)) (d := wd x 1 + wd x 3) (pl := pl (T - i - 1) 0) (by omega) (by decide) (tA (by decide) (nB (by decide) (hN (T - i - 1) ht).1)) (by omega) (fun l h => tA (by decide) (nB (by decide) (hl (T - i - 1) 0 l ht (by decide) (by first | (rw [if_pos rfl]; exact h) | (rw [if_neg (by decide)]; exact h))))) (fun l => hpl (T - i - 1) 0 l) (by omega)) ?_
        refine aw_eq (show _ = nI (roW wd (pl (T - i - 1)) (nr (T - i - 1)) x) from orN_y hro) ?_
        refine aw_istore_n dX10_findWord_46 (Nat.le_of_ble_eq_true rfl) ?_
        refine aw_aload_n dX10_findWord_47 rfl ?_
        refine aw_iload_n dX10_findWord_48 rfl ?_
        refine aw_eq (show _ = nI (T - i - 1) from pk_sub (by omega)) ?_
        refine aw_ic (nI 1) dX10_findWord_49 (by decide) ?_
        refine aw_aload_n dX10_findWord_50 rfl ?_
        refine aw_iload_n dX10_findWord_51 rfl ?_
        refine aw_ic (nI 0) dX10_findWord_52 (by decide) ?_
        refine cqi2 dX10_findWord_53 km10_177 ok_X10_boxAt rfl rfl (by decide) k_176 (Nat.le_of_ble_eq_true rfl) ⟨Nat.le_of_ble_eq_true rfl, Nat.le_of_ble_eq_true rfl⟩ rfl rfl (ct_boxAt (r := x) (w := 0) (by omega)) ?_
        refine aw_eq (tA (by decide) (nB (by decide) (hw x 0 hx (by decide)))) ?_
        refine aw_aload_n dX10_findWord_56 rfl ?_
        refine aw_iload_n dX10_findWord_57 rfl ?_
        refine aw_ic (nI 2) dX10_findWord_58 (by decide) ?_
        refine cqi2 dX10_findWord_59 km10_177 ok_X10_boxAt rfl rfl (by decide) k_176 (Nat.le_of_ble_eq_true rfl) ⟨Nat.le_of_ble_eq_true rfl, Nat.le_of_ble_eq_true rfl⟩ rfl rfl (ct_boxAt (r := x) (w := 2) (by omega)) ?_
        refine aw_eq (tA (by decide) (nB (by decide) (hw x 2 hx (by decide)))) ?_
        refine aw_iadd dX10_findWord_62 ?_
        refine aw_eq (nI_add _ _) ?_
        refine cqi3 dX10_findWord_63 km10_180 ok_X10_between rfl rfl (by decide) k_176 (Nat.le_of_ble_eq_true rfl) ⟨Nat.le_of_ble_eq_true rfl, Nat.le_of_ble_eq_true rfl⟩ rfl rfl (ct_between (t := T - i - 1) (w := 1) (n := nc (T - i - 1)) (d := wd x 0 + wd x 2) (pl := pl (T - i - 1) 1) (by omega) (by decide) (tA (by decide) (nB (by decide) (hN (T - i - 1) ht).2)) (by omega) (fun l h => tA (by decide) (nB (by decide) (hl (T - i - 1) 1 l ht (by decide) (by first | (rw [if_pos rfl]; exact h) | (rw [if_neg (by decide)]; exact h))))) (fun l => hpl (T - i - 1) 1 l) (by omega)) ?_
        refine aw_eq (show _ = nI (coW wd (pl (T - i - 1)) (nc (T - i - 1)) x) from orN_y hco) ?_
        refine aw_istore dX10_findWord_66 (Nat.le_of_ble_eq_true rfl) ?_
        refine aw_iload_n dX10_findWord_68 rfl ?_
        refine aw_if_lt dX10_findWord_69 (fun h_69 => absurd h_69 (nI_pos (by omega))) (fun h_69 => ?_)
        refine aw_iload dX10_findWord_72 rfl ?_
        refine aw_if_lt dX10_findWord_74 (fun h_74 => absurd h_74 (nI_pos (by omega))) (fun h_74 => ?_)
        refine aw_aload_n dX10_findWord_77 rfl ?_
        refine gf10_wordTable dX10_findWord_78 kf10_46 k_176 ?_
        refine aw_eqr (b := 189) rfl ?_
        refine aw_iload_n dX10_findWord_81 rfl ?_
        refine aw_iload_n dX10_findWord_82 rfl ?_
        refine aw_eq (show _ = nI (T - i - 1) from pk_sub (by omega)) ?_
        refine aw_sto (x) dX10_findWord_83 k_189 (rfl) (by omega) ?_
        refine aw_aload_n dX10_findWord_84 rfl ?_
        refine gf10_wordCell dX10_findWord_85 kf10_49 k_176 ?_
        refine aw_eqr (b := 190) rfl ?_
        refine aw_iload_n dX10_findWord_88 rfl ?_
        refine aw_aload_n dX10_findWord_89 rfl ?_
        refine gf10_cellOf dX10_findWord_90 kf10_40 k_176 ?_
        refine aw_eqr (b := 187) rfl ?_
        refine aw_aload_n dX10_findWord_93 rfl ?_
        refine gf10_fieldFrom dX10_findWord_94 kf10_34 k_176 ?_
        refine aw_eqr (b := 185) rfl ?_
        refine aw_iload_n dX10_findWord_97 rfl ?_
        refine aw_eq (show _ = nI (T - i - 1) from pk_sub (by omega)) ?_
        refine aw_ld (T - i - 1) dX10_findWord_98 k_185 (rfl) (by omega) ?_
        refine aw_eq (nB (by decide) (nB (by decide) (nB (by decide) (hF (T - i - 1) ht)))) ?_
        refine aw_iload_n dX10_findWord_99 rfl ?_
        refine aw_aload_n dX10_findWord_100 rfl ?_
        refine aw_iload_n dX10_findWord_101 rfl ?_
        refine aw_eq (show _ = nI (T - i - 1) from pk_sub (by omega)) ?_
        refine cqi1 dX10_findWord_102 km10_152 ok_X10_columnsOf rfl rfl (by decide) k_176 (Nat.le_of_ble_eq_true rfl) ⟨Nat.le_of_ble_eq_true rfl, Nat.le_of_ble_eq_true rfl⟩ rfl rfl (ct_columnsOf (t := T - i - 1) (n := nc (T - i - 1) + 1) (by omega) (tA (by decide) (nB (by decide) (nB (by decide) (hN (T - i - 1) ht).2))) (by omega)) ?_
        refine aw_eq (show _ = nI (nc (T - i - 1)) by rw [Nat.add_sub_cancel]) ?_
        refine aw_imul dX10_findWord_105 ?_
        refine aw_eq (pk_mul _ _) ?_
        refine aw_iadd dX10_findWord_106 ?_
        refine aw_eq (nI_add _ _) ?_
        refine aw_iload dX10_findWord_107 rfl ?_
        refine aw_iadd dX10_findWord_109 ?_
        refine aw_eq (show _ = nI (FF (T - i - 1) + (roW wd (pl (T - i - 1)) (nr (T - i - 1)) x * nc (T - i - 1) + coW wd (pl (T - i - 1)) (nc (T - i - 1)) x)) by rw [nI_add, Nat.add_assoc]) ?_
        refine aw_ld (FF (T - i - 1) + (roW wd (pl (T - i - 1)) (nr (T - i - 1)) x * nc (T - i - 1) + coW wd (pl (T - i - 1)) (nc (T - i - 1)) x)) dX10_findWord_110 k_187 (rfl) (by have := hFb (T - i - 1) ht; omega) ?_
        refine aw_eq (nB (by decide) (nB (by decide) (nB (by decide) (hO (T - i - 1) _ ht hrc)))) ?_
        refine aw_sto (x) dX10_findWord_111 k_190 (rfl) (by omega) ?_
        
        refine aw_inc (nI (T - (i + 1)) - nI 1) dX10_findWord_112 rfl (Nat.le_of_ble_eq_true rfl) (by rw [show T - (i + 1) = T - i - 1 by omega, ← pk_sub (show 1 ≤ T - i by omega)]; exact dec1 _) ?_
        refine aw_goto dX10_findWord_115 ?_
        exact ih _ _ ⟨upd a x (nI (T - i - 1)), upd b x ((fun t => nI (CF t + fc t (roW wd (pl t) (nr t) x * nc t + coW wd (pl t) (nc t) x))) (T - i - 1)), _, _, wd_sg, by rw [pk_us, pk_us]; exact WdI.yes hi hy, fun y hy => ⟨(pk_un hy).trans (hfr y hy).1, (pk_un hy).trans (hfr y hy).2⟩, rfl⟩
      · skip
        have hy : inW wd pl nr nc x (T - i - 1) = false := by unfold inW; rw [decide_eq_false hco, Bool.and_false]
        refine aw_iload_n dX10_findWord_23 rfl ?_
        refine aw_eq (show _ = nI (T - i - 1) from pk_sub (by omega)) ?_
        refine aw_if_lt dX10_findWord_24 (fun h_24 => absurd h_24 (nI_pos (by omega))) (fun h_24 => ?_)
        refine aw_aload_n dX10_findWord_27 rfl ?_
        refine aw_iload_n dX10_findWord_28 rfl ?_
        refine aw_eq (show _ = nI (T - i - 1) from pk_sub (by omega)) ?_
        refine aw_ic (nI 0) dX10_findWord_29 (by decide) ?_
        refine aw_aload_n dX10_findWord_30 rfl ?_
        refine aw_iload_n dX10_findWord_31 rfl ?_
        refine aw_ic (nI 1) dX10_findWord_32 (by decide) ?_
        refine cqi2 dX10_findWord_33 km10_177 ok_X10_boxAt rfl rfl (by decide) k_176 (Nat.le_of_ble_eq_true rfl) ⟨Nat.le_of_ble_eq_true rfl, Nat.le_of_ble_eq_true rfl⟩ rfl rfl (ct_boxAt (r := x) (w := 1) (by omega)) ?_
        refine aw_eq (tA (by decide) (nB (by decide) (hw x 1 hx (by decide)))) ?_
        refine aw_aload_n dX10_findWord_36 rfl ?_
        refine aw_iload_n dX10_findWord_37 rfl ?_
        refine aw_ic (nI 3) dX10_findWord_38 (by decide) ?_
        refine cqi2 dX10_findWord_39 km10_177 ok_X10_boxAt rfl rfl (by decide) k_176 (Nat.le_of_ble_eq_true rfl) ⟨Nat.le_of_ble_eq_true rfl, Nat.le_of_ble_eq_true rfl⟩ rfl rfl (ct_boxAt (r := x) (w := 3) (by omega)) ?_
        refine aw_eq (tA (by decide) (nB (by decide) (hw x 3 hx (by decide)))) ?_
        refine aw_iadd dX10_findWord_42 ?_
        refine aw_eq (nI_add _ _) ?_
        refine cqi3 dX10_findWord_43 km10_180 ok_X10_between rfl rfl (by decide) k_176 (Nat.le_of_ble_eq_true rfl) ⟨Nat.le_of_ble_eq_true rfl, Nat.le_of_ble_eq_true rfl⟩ rfl rfl (ct_between (t := T - i - 1) (w := 0) (n := nr (T - i - 1)) (d := wd x 1 + wd x 3) (pl := pl (T - i - 1) 0) (by omega) (by decide) (tA (by decide) (nB (by decide) (hN (T - i - 1) ht).1)) (by omega) (fun l h => tA (by decide) (nB (by decide) (hl (T - i - 1) 0 l ht (by decide) (by first | (rw [if_pos rfl]; exact h) | (rw [if_neg (by decide)]; exact h))))) (fun l => hpl (T - i - 1) 0 l) (by omega)) ?_
        refine aw_eq (show _ = nI (roW wd (pl (T - i - 1)) (nr (T - i - 1)) x) from orN_y hro) ?_
        refine aw_istore_n dX10_findWord_46 (Nat.le_of_ble_eq_true rfl) ?_
        refine aw_aload_n dX10_findWord_47 rfl ?_
        refine aw_iload_n dX10_findWord_48 rfl ?_
        refine aw_eq (show _ = nI (T - i - 1) from pk_sub (by omega)) ?_
        refine aw_ic (nI 1) dX10_findWord_49 (by decide) ?_
        refine aw_aload_n dX10_findWord_50 rfl ?_
        refine aw_iload_n dX10_findWord_51 rfl ?_
        refine aw_ic (nI 0) dX10_findWord_52 (by decide) ?_
        refine cqi2 dX10_findWord_53 km10_177 ok_X10_boxAt rfl rfl (by decide) k_176 (Nat.le_of_ble_eq_true rfl) ⟨Nat.le_of_ble_eq_true rfl, Nat.le_of_ble_eq_true rfl⟩ rfl rfl (ct_boxAt (r := x) (w := 0) (by omega)) ?_
        refine aw_eq (tA (by decide) (nB (by decide) (hw x 0 hx (by decide)))) ?_
        refine aw_aload_n dX10_findWord_56 rfl ?_
        refine aw_iload_n dX10_findWord_57 rfl ?_
        refine aw_ic (nI 2) dX10_findWord_58 (by decide) ?_
        refine cqi2 dX10_findWord_59 km10_177 ok_X10_boxAt rfl rfl (by decide) k_176 (Nat.le_of_ble_eq_true rfl) ⟨Nat.le_of_ble_eq_true rfl, Nat.le_of_ble_eq_true rfl⟩ rfl rfl (ct_boxAt (r := x) (w := 2) (by omega)) ?_
        refine aw_eq (tA (by decide) (nB (by decide) (hw x 2 hx (by decide)))) ?_
        refine aw_iadd dX10_findWord_62 ?_
        refine aw_eq (nI_add _ _) ?_
        refine cqi3 dX10_findWord_63 km10_180 ok_X10_between rfl rfl (by decide) k_176 (Nat.le_of_ble_eq_true rfl) ⟨Nat.le_of_ble_eq_true rfl, Nat.le_of_ble_eq_true rfl⟩ rfl rfl (ct_between (t := T - i - 1) (w := 1) (n := nc (T - i - 1)) (d := wd x 0 + wd x 2) (pl := pl (T - i - 1) 1) (by omega) (by decide) (tA (by decide) (nB (by decide) (hN (T - i - 1) ht).2)) (by omega) (fun l h => tA (by decide) (nB (by decide) (hl (T - i - 1) 1 l ht (by decide) (by first | (rw [if_pos rfl]; exact h) | (rw [if_neg (by decide)]; exact h))))) (fun l => hpl (T - i - 1) 1 l) (by omega)) ?_
        refine aw_eq (orN_x hco) ?_
        refine aw_istore dX10_findWord_66 (Nat.le_of_ble_eq_true rfl) ?_
        refine aw_iload_n dX10_findWord_68 rfl ?_
        refine aw_if_lt dX10_findWord_69 (fun h_69 => absurd h_69 (nI_pos (by omega))) (fun h_69 => ?_)
        refine aw_iload dX10_findWord_72 rfl ?_
        refine aw_if_lt dX10_findWord_74 (fun h_74 => ?_) (fun h_74 => absurd h_74 (not_not_intro (by decide)))
        
        refine aw_inc (nI (T - (i + 1)) - nI 1) dX10_findWord_112 rfl (Nat.le_of_ble_eq_true rfl) (by rw [show T - (i + 1) = T - i - 1 by omega, ← pk_sub (show 1 ≤ T - i by omega)]; exact dec1 _) ?_
        refine aw_goto dX10_findWord_115 ?_
        exact ih _ _ ⟨a, b, _, _, rfl, hW.no hi hy, hfr, rfl⟩
    · skip
      have hy : inW wd pl nr nc x (T - i - 1) = false := by unfold inW; rw [decide_eq_false hro, Bool.false_and]
      by_cases hco : coW wd (pl (T - i - 1)) (nc (T - i - 1)) x < nc (T - i - 1)
      · skip
        refine aw_iload_n dX10_findWord_23 rfl ?_
        refine aw_eq (show _ = nI (T - i - 1) from pk_sub (by omega)) ?_
        refine aw_if_lt dX10_findWord_24 (fun h_24 => absurd h_24 (nI_pos (by omega))) (fun h_24 => ?_)
        refine aw_aload_n dX10_findWord_27 rfl ?_
        refine aw_iload_n dX10_findWord_28 rfl ?_
        refine aw_eq (show _ = nI (T - i - 1) from pk_sub (by omega)) ?_
        refine aw_ic (nI 0) dX10_findWord_29 (by decide) ?_
        refine aw_aload_n dX10_findWord_30 rfl ?_
        refine aw_iload_n dX10_findWord_31 rfl ?_
        refine aw_ic (nI 1) dX10_findWord_32 (by decide) ?_
        refine cqi2 dX10_findWord_33 km10_177 ok_X10_boxAt rfl rfl (by decide) k_176 (Nat.le_of_ble_eq_true rfl) ⟨Nat.le_of_ble_eq_true rfl, Nat.le_of_ble_eq_true rfl⟩ rfl rfl (ct_boxAt (r := x) (w := 1) (by omega)) ?_
        refine aw_eq (tA (by decide) (nB (by decide) (hw x 1 hx (by decide)))) ?_
        refine aw_aload_n dX10_findWord_36 rfl ?_
        refine aw_iload_n dX10_findWord_37 rfl ?_
        refine aw_ic (nI 3) dX10_findWord_38 (by decide) ?_
        refine cqi2 dX10_findWord_39 km10_177 ok_X10_boxAt rfl rfl (by decide) k_176 (Nat.le_of_ble_eq_true rfl) ⟨Nat.le_of_ble_eq_true rfl, Nat.le_of_ble_eq_true rfl⟩ rfl rfl (ct_boxAt (r := x) (w := 3) (by omega)) ?_
        refine aw_eq (tA (by decide) (nB (by decide) (hw x 3 hx (by decide)))) ?_
        refine aw_iadd dX10_findWord_42 ?_
        refine aw_eq (nI_add _ _) ?_
        refine cqi3 dX10_findWord_43 km10_180 ok_X10_between rfl rfl (by decide) k_176 (Nat.le_of_ble_eq_true rfl) ⟨Nat.le_of_ble_eq_true rfl, Nat.le_of_ble_eq_true rfl⟩ rfl rfl (ct_between (t := T - i - 1) (w := 0) (n := nr (T - i - 1)) (d := wd x 1 + wd x 3) (pl := pl (T - i - 1) 0) (by omega) (by decide) (tA (by decide) (nB (by decide) (hN (T - i - 1) ht).1)) (by omega) (fun l h => tA (by decide) (nB (by decide) (hl (T - i - 1) 0 l ht (by decide) (by first | (rw [if_pos rfl]; exact h) | (rw [if_neg (by decide)]; exact h))))) (fun l => hpl (T - i - 1) 0 l) (by omega)) ?_
        refine aw_eq (orN_x hro) ?_
        refine aw_istore_n dX10_findWord_46 (Nat.le_of_ble_eq_true rfl) ?_
        refine aw_aload_n dX10_findWord_47 rfl ?_
        refine aw_iload_n dX10_findWord_48 rfl ?_
        refine aw_eq (show _ = nI (T - i - 1) from pk_sub (by omega)) ?_
        refine aw_ic (nI 1) dX10_findWord_49 (by decide) ?_
        refine aw_aload_n dX10_findWord_50 rfl ?_
        refine aw_iload_n dX10_findWord_51 rfl ?_
        refine aw_ic (nI 0) dX10_findWord_52 (by decide) ?_
        refine cqi2 dX10_findWord_53 km10_177 ok_X10_boxAt rfl rfl (by decide) k_176 (Nat.le_of_ble_eq_true rfl) ⟨Nat.le_of_ble_eq_true rfl, Nat.le_of_ble_eq_true rfl⟩ rfl rfl (ct_boxAt (r := x) (w := 0) (by omega)) ?_
        refine aw_eq (tA (by decide) (nB (by decide) (hw x 0 hx (by decide)))) ?_
        refine aw_aload_n dX10_findWord_56 rfl ?_
        refine aw_iload_n dX10_findWord_57 rfl ?_
        refine aw_ic (nI 2) dX10_findWord_58 (by decide) ?_
        refine cqi2 dX10_findWord_59 km10_177 ok_X10_boxAt rfl rfl (by decide) k_176 (Nat.le_of_ble_eq_true rfl) ⟨Nat.le_of_ble_eq_true rfl, Nat.le_of_ble_eq_true rfl⟩ rfl rfl (ct_boxAt (r := x) (w := 2) (by omega)) ?_
        refine aw_eq (tA (by decide) (nB (by decide) (hw x 2 hx (by decide)))) ?_
        refine aw_iadd dX10_findWord_62 ?_
        refine aw_eq (nI_add _ _) ?_
        refine cqi3 dX10_findWord_63 km10_180 ok_X10_between rfl rfl (by decide) k_176 (Nat.le_of_ble_eq_true rfl) ⟨Nat.le_of_ble_eq_true rfl, Nat.le_of_ble_eq_true rfl⟩ rfl rfl (ct_between (t := T - i - 1) (w := 1) (n := nc (T - i - 1)) (d := wd x 0 + wd x 2) (pl := pl (T - i - 1) 1) (by omega) (by decide) (tA (by decide) (nB (by decide) (hN (T - i - 1) ht).2)) (by omega) (fun l h => tA (by decide) (nB (by decide) (hl (T - i - 1) 1 l ht (by decide) (by first | (rw [if_pos rfl]; exact h) | (rw [if_neg (by decide)]; exact h))))) (fun l => hpl (T - i - 1) 1 l) (by omega)) ?_
        refine aw_eq (show _ = nI (coW wd (pl (T - i - 1)) (nc (T - i - 1)) x) from orN_y hco) ?_
        refine aw_istore dX10_findWord_66 (Nat.le_of_ble_eq_true rfl) ?_
        refine aw_iload_n dX10_findWord_68 rfl ?_
        refine aw_if_lt dX10_findWord_69 (fun h_69 => ?_) (fun h_69 => absurd h_69 (not_not_intro (by decide)))
        
        refine aw_inc (nI (T - (i + 1)) - nI 1) dX10_findWord_112 rfl (Nat.le_of_ble_eq_true rfl) (by rw [show T - (i + 1) = T - i - 1 by omega, ← pk_sub (show 1 ≤ T - i by omega)]; exact dec1 _) ?_
        refine aw_goto dX10_findWord_115 ?_
        exact ih _ _ ⟨a, b, _, _, rfl, hW.no hi hy, hfr, rfl⟩
      · skip
        refine aw_iload_n dX10_findWord_23 rfl ?_
        refine aw_eq (show _ = nI (T - i - 1) from pk_sub (by omega)) ?_
        refine aw_if_lt dX10_findWord_24 (fun h_24 => absurd h_24 (nI_pos (by omega))) (fun h_24 => ?_)
        refine aw_aload_n dX10_findWord_27 rfl ?_
        refine aw_iload_n dX10_findWord_28 rfl ?_
        refine aw_eq (show _ = nI (T - i - 1) from pk_sub (by omega)) ?_
        refine aw_ic (nI 0) dX10_findWord_29 (by decide) ?_
        refine aw_aload_n dX10_findWord_30 rfl ?_
        refine aw_iload_n dX10_findWord_31 rfl ?_
        refine aw_ic (nI 1) dX10_findWord_32 (by decide) ?_
        refine cqi2 dX10_findWord_33 km10_177 ok_X10_boxAt rfl rfl (by decide) k_176 (Nat.le_of_ble_eq_true rfl) ⟨Nat.le_of_ble_eq_true rfl, Nat.le_of_ble_eq_true rfl⟩ rfl rfl (ct_boxAt (r := x) (w := 1) (by omega)) ?_
        refine aw_eq (tA (by decide) (nB (by decide) (hw x 1 hx (by decide)))) ?_
        refine aw_aload_n dX10_findWord_36 rfl ?_
        refine aw_iload_n dX10_findWord_37 rfl ?_
        refine aw_ic (nI 3) dX10_findWord_38 (by decide) ?_
        refine cqi2 dX10_findWord_39 km10_177 ok_X10_boxAt rfl rfl (by decide) k_176 (Nat.le_of_ble_eq_true rfl) ⟨Nat.le_of_ble_eq_true rfl, Nat.le_of_ble_eq_true rfl⟩ rfl rfl (ct_boxAt (r := x) (w := 3) (by omega)) ?_
        refine aw_eq (tA (by decide) (nB (by decide) (hw x 3 hx (by decide)))) ?_
        refine aw_iadd dX10_findWord_42 ?_
        refine aw_eq (nI_add _ _) ?_
        refine cqi3 dX10_findWord_43 km10_180 ok_X10_between rfl rfl (by decide) k_176 (Nat.le_of_ble_eq_true rfl) ⟨Nat.le_of_ble_eq_true rfl, Nat.le_of_ble_eq_true rfl⟩ rfl rfl (ct_between (t := T - i - 1) (w := 0) (n := nr (T - i - 1)) (d := wd x 1 + wd x 3) (pl := pl (T - i - 1) 0) (by omega) (by decide) (tA (by decide) (nB (by decide) (hN (T - i - 1) ht).1)) (by omega) (fun l h => tA (by decide) (nB (by decide) (hl (T - i - 1) 0 l ht (by decide) (by first | (rw [if_pos rfl]; exact h) | (rw [if_neg (by decide)]; exact h))))) (fun l => hpl (T - i - 1) 0 l) (by omega)) ?_
        refine aw_eq (orN_x hro) ?_
        refine aw_istore_n dX10_findWord_46 (Nat.le_of_ble_eq_true rfl) ?_
        refine aw_aload_n dX10_findWord_47 rfl ?_
        refine aw_iload_n dX10_findWord_48 rfl ?_
        refine aw_eq (show _ = nI (T - i - 1) from pk_sub (by omega)) ?_
        refine aw_ic (nI 1) dX10_findWord_49 (by decide) ?_
        refine aw_aload_n dX10_findWord_50 rfl ?_
        refine aw_iload_n dX10_findWord_51 rfl ?_
        refine aw_ic (nI 0) dX10_findWord_52 (by decide) ?_
        refine cqi2 dX10_findWord_53 km10_177 ok_X10_boxAt rfl rfl (by decide) k_176 (Nat.le_of_ble_eq_true rfl) ⟨Nat.le_of_ble_eq_true rfl, Nat.le_of_ble_eq_true rfl⟩ rfl rfl (ct_boxAt (r := x) (w := 0) (by omega)) ?_
        refine aw_eq (tA (by decide) (nB (by decide) (hw x 0 hx (by decide)))) ?_
        refine aw_aload_n dX10_findWord_56 rfl ?_
        refine aw_iload_n dX10_findWord_57 rfl ?_
        refine aw_ic (nI 2) dX10_findWord_58 (by decide) ?_
        refine cqi2 dX10_findWord_59 km10_177 ok_X10_boxAt rfl rfl (by decide) k_176 (Nat.le_of_ble_eq_true rfl) ⟨Nat.le_of_ble_eq_true rfl, Nat.le_of_ble_eq_true rfl⟩ rfl rfl (ct_boxAt (r := x) (w := 2) (by omega)) ?_
        refine aw_eq (tA (by decide) (nB (by decide) (hw x 2 hx (by decide)))) ?_
        refine aw_iadd dX10_findWord_62 ?_
        refine aw_eq (nI_add _ _) ?_
        refine cqi3 dX10_findWord_63 km10_180 ok_X10_between rfl rfl (by decide) k_176 (Nat.le_of_ble_eq_true rfl) ⟨Nat.le_of_ble_eq_true rfl, Nat.le_of_ble_eq_true rfl⟩ rfl rfl (ct_between (t := T - i - 1) (w := 1) (n := nc (T - i - 1)) (d := wd x 0 + wd x 2) (pl := pl (T - i - 1) 1) (by omega) (by decide) (tA (by decide) (nB (by decide) (hN (T - i - 1) ht).2)) (by omega) (fun l h => tA (by decide) (nB (by decide) (hl (T - i - 1) 1 l ht (by decide) (by first | (rw [if_pos rfl]; exact h) | (rw [if_neg (by decide)]; exact h))))) (fun l => hpl (T - i - 1) 1 l) (by omega)) ?_
        refine aw_eq (orN_x hco) ?_
        refine aw_istore dX10_findWord_66 (Nat.le_of_ble_eq_true rfl) ?_
        refine aw_iload_n dX10_findWord_68 rfl ?_
        refine aw_if_lt dX10_findWord_69 (fun h_69 => ?_) (fun h_69 => absurd h_69 (not_not_intro (by decide)))
        
        refine aw_inc (nI (T - (i + 1)) - nI 1) dX10_findWord_112 rfl (Nat.le_of_ble_eq_true rfl) (by rw [show T - (i + 1) = T - i - 1 by omega, ← pk_sub (show 1 ≤ T - i by omega)]; exact dec1 _) ?_
        refine aw_goto dX10_findWord_115 ?_
        exact ih _ _ ⟨a, b, _, _, rfl, hW.no hi hy, hfr, rfl⟩
  · rintro σ2 lv2 ⟨a, b, y, z, rfl, hW, hfr, rfl⟩
    refine aw_iload_n dX10_findWord_23 rfl ?_
    refine aw_eq (show _ = -1 by rw [Nat.sub_self]; decide) ?_
    refine aw_if_lt dX10_findWord_24 (fun h_24 => ?_) (fun h_24 => absurd h_24 (not_not_intro (by decide)))
    exact aw_ret dX10_findWord_118 (⟨a, b, rfl, hW.fin, hfr⟩)

theorem sq_ab : ∀ a, a < 22 → ∀ b, b < 22 → 4 * (a * b) ≤ (a + b) * (a + b) := by decide +kernel
theorem sq_add (a s : Nat) : a * a + s * s ≤ (a + s) * (a + s) := by
  rw [Nat.add_mul, Nat.mul_add, Nat.mul_add]
  omega
theorem pFF_b {P : Pg} (hK : FOKs) (hV : PgV P) : ∀ t, t ≤ pT P → 4 * pFF P t ≤ (ctB (fun k => isN (pR P) (pM P) (rcP P) (l2 (pR P) (pM P) (rcP P) k) && decide (ctB (isN (pR P) (pM P) (rcP P)) (l2 (pR P) (pM P) (rcP P) k) < t)) (pM P) - 2) * (ctB (fun k => isN (pR P) (pM P) (rcP P) (l2 (pR P) (pM P) (rcP P) k) && decide (ctB (isN (pR P) (pM P) (rcP P)) (l2 (pR P) (pM P) (rcP P) k) < t)) (pM P) - 2)
  | 0, _ => Nat.zero_le _
  | t + 1, h => by
    have ih := pFF_b hK hV t (by omega)
    obtain ⟨n0, n1, a1, a2, a3, a4, -⟩ := pB (t := t) hK hV (by omega)
    have l0 : pN P t 0 ≤ _ := lnS_le (inN (pR P) (pM P) (rcP P) t) (pR P) 0 (pM P)
    have l1 : pN P t 1 ≤ _ := lnS_le (inN (pR P) (pM P) (rcP P) t) (pR P) 1 (pM P)
    have c := cW_sum (inT := inN (pR P) (pM P) (rcP P) t) (R := pR P) (pM P)
    rw [ctB_split]
    have d : ctB (inN (pR P) (pM P) (rcP P) t) (pM P) = ctB (fun k => isN (pR P) (pM P) (rcP P) (l2 (pR P) (pM P) (rcP P) k) && decide (ctB (isN (pR P) (pM P) (rcP P)) (l2 (pR P) (pM P) (rcP P) k) = t)) (pM P) := rfl
    rw [← d]
    have s1 := sq_ab (pNr P t) (by omega) (pNc P t) (by omega)
    have e : pFF P (t + 1) = pFF P t + pNr P t * pNc P t := rfl
    generalize ctB (fun k => isN (pR P) (pM P) (rcP P) (l2 (pR P) (pM P) (rcP P) k) && decide (ctB (isN (pR P) (pM P) (rcP P)) (l2 (pR P) (pM P) (rcP P) k) < t)) (pM P) = U at ih ⊢
    have s2 := sq_add (U - 2) (pNr P t + pNc P t)
    have s3 : (U - 2 + (pNr P t + pNc P t)) * (U - 2 + (pNr P t + pNc P t)) ≤ (U + ctB (inN (pR P) (pM P) (rcP P) t) (pM P) - 2) * (U + ctB (inN (pR P) (pM P) (rcP P) t) (pM P) - 2) := Nat.mul_le_mul (by omega) (by omega)
    omega
theorem pFF_le {P : Pg} (hK : FOKs) (hV : PgV P) {t : Nat} (ht : t ≤ pT P) : pFF P t ≤ 121 := by
  have h := pFF_b hK hV t ht
  have c := ctB_le (fun k => isN (pR P) (pM P) (rcP P) (l2 (pR P) (pM P) (rcP P) k) && decide (ctB (isN (pR P) (pM P) (rcP P)) (l2 (pR P) (pM P) (rcP P) k) < t)) (pM P)
  have m := pM_le hV
  generalize ctB (fun k => isN (pR P) (pM P) (rcP P) (l2 (pR P) (pM P) (rcP P) k) && decide (ctB (isN (pR P) (pM P) (rcP P)) (l2 (pR P) (pM P) (rcP P) k) < t)) (pM P) = U at h c
  have : (U - 2) * (U - 2) ≤ 22 * 22 := Nat.mul_le_mul (by omega) (by omega)
  omega
theorem pFF_m {P : Pg} {t : Nat} : ∀ {i : Nat}, t < i → pFF P t + pNr P t * pNc P t ≤ pFF P i
  | 0, h => absurd h (Nat.not_lt_zero _)
  | i + 1, h => by
    show _ ≤ pFF P i + pNr P i * pNc P i
    by_cases e : t = i
    · rw [e]
      exact Nat.le_refl _
    · have := pFF_m (P := P) (show t < i by omega)
      omega
theorem pCF_m {P : Pg} {t : Nat} : ∀ {i : Nat}, t < i → pCF P t + pCc P t ≤ pCF P i
  | 0, h => absurd h (Nat.not_lt_zero _)
  | i + 1, h => by
    show _ ≤ pCF P i + pCc P i
    by_cases e : t = i
    · rw [e]
      exact Nat.le_refl _
    · have := pCF_m (P := P) (show t < i by omega)
      omega
theorem pCF_le (P : Pg) : ∀ t, pCF P t ≤ pFF P t
  | 0 => Nat.le_refl _
  | t + 1 => by
    have ih := pCF_le P t
    have : pCc P t ≤ pNr P t * pNc P t := cnt_le _ _
    show pCF P t + _ ≤ pFF P t + _
    omega
theorem cq_iff {lab : Nat → Nat} (hL : Lb lab) {ρ f : Nat} (hr : lab ρ = ρ) : cnt lab (lab f) = cnt lab ρ ↔ lab f = ρ := ⟨fun e => cnt_inj (hL.2 f) hr e, fun e => by rw [e]⟩
theorem o5_m {lab : Nat → Nat} {sd : Nat → Nat → Nat → Bool} {nr nc r c ρ : Nat} (hr : r < nr) (hc : c < nc) (e : lab (r * nc + c) = ρ) (ho : opX sd nr nc r c = true) : o5 lab (fun f => opX sd nr nc (f / nc) (f % nc)) ρ (nr * nc) = true := by
  refine anyB_iff.mpr ⟨r * nc + c, rc_lt hr hc, ?_⟩
  show (decide (lab (r * nc + c) = ρ) && opX sd nr nc ((r * nc + c) / nc) ((r * nc + c) % nc)) = true
  rw [rc_div hc, rc_mod hc, ho, e, decide_eq_true rfl]
  rfl
theorem op_o5 {lab : Nat → Nat} {sd : Nat → Nat → Nat → Bool} {nr nc ρ : Nat} (hL : Lb lab) (hnr : 1 ≤ nr) (hnc : 1 ≤ nc) (hr : lab ρ = ρ) : opB sd nr nc (fun f => cnt lab (lab f)) (cnt lab ρ) = true ↔ o5 lab (fun f => opX sd nr nc (f / nc) (f % nc)) ρ (nr * nc) = true := by
  constructor
  · intro h
    unfold opB at h
    rw [Bool.or_eq_true, anyB_iff, anyB_iff] at h
    rcases h with ⟨c, hc, h⟩ | ⟨r, hr', h⟩
    · unfold opC at h
      simp only [Bool.or_eq_true, Bool.and_eq_true, Bool.not_eq_true', decide_eq_true_eq] at h
      rcases h with ⟨h1, h2⟩ | ⟨h1, h2⟩
      · exact o5_m (r := 0) (by omega) hc ((cq_iff hL hr).mp h2) (decide_eq_true (Or.inl ⟨rfl, by rw [h1]; decide⟩))
      · exact o5_m (r := nr - 1) (by omega) hc ((cq_iff hL hr).mp h2) (decide_eq_true (Or.inr (Or.inl ⟨rfl, by rw [show nr - 1 + 1 = nr by omega, h1]; decide⟩)))
    · unfold opR at h
      simp only [Bool.or_eq_true, Bool.and_eq_true, Bool.not_eq_true', decide_eq_true_eq] at h
      rcases h with ⟨h1, h2⟩ | ⟨h1, h2⟩
      · exact o5_m (c := 0) hr' (by omega) ((cq_iff hL hr).mp h2) (decide_eq_true (Or.inr (Or.inr (Or.inl ⟨rfl, by rw [h1]; decide⟩))))
      · exact o5_m (c := nc - 1) hr' (by omega) ((cq_iff hL hr).mp h2) (decide_eq_true (Or.inr (Or.inr (Or.inr ⟨rfl, by rw [show nc - 1 + 1 = nc by omega, h1]; decide⟩))))
  · intro h
    obtain ⟨f, hf, h⟩ := anyB_iff.mp h
    rw [Bool.and_eq_true, decide_eq_true_eq] at h
    obtain ⟨h1, h2⟩ := h
    have hdv : f / nc < nr := Nat.div_lt_of_lt_mul (by rw [Nat.mul_comm]; exact hf)
    have hmd : f % nc < nc := Nat.mod_lt f (by omega)
    have e : f / nc * nc + f % nc = f := by rw [Nat.mul_comm]; exact Nat.div_add_mod f nc
    have q := (cq_iff hL hr (f := f)).mpr h1
    have h2 := of_decide_eq_true h2
    unfold opB
    rw [Bool.or_eq_true, anyB_iff, anyB_iff]
    rcases h2 with ⟨z, y⟩ | ⟨z, y⟩ | ⟨z, y⟩ | ⟨z, y⟩
    · refine Or.inl ⟨f % nc, hmd, ?_⟩
      unfold opC
      rw [z] at e
      simp only [Bool.or_eq_true, Bool.and_eq_true, Bool.not_eq_true', decide_eq_true_eq]
      exact Or.inl ⟨by simpa using y, by rw [e]; exact q⟩
    · refine Or.inl ⟨f % nc, hmd, ?_⟩
      unfold opC
      simp only [Bool.or_eq_true, Bool.and_eq_true, Bool.not_eq_true', decide_eq_true_eq]
      refine Or.inr ⟨?_, by rw [← z, e]; exact q⟩
      rw [show f / nc + 1 = nr by omega] at y
      simpa using y
    · refine Or.inr ⟨f / nc, hdv, ?_⟩
      unfold opR
      simp only [Bool.or_eq_true, Bool.and_eq_true, Bool.not_eq_true', decide_eq_true_eq]
      refine Or.inl ⟨by simpa using y, ?_⟩
      rw [← z, e]
      exact q
    · refine Or.inr ⟨f / nc, hdv, ?_⟩
      unfold opR
      simp only [Bool.or_eq_true, Bool.and_eq_true, Bool.not_eq_true', decide_eq_true_eq]
      refine Or.inr ⟨?_, by rw [← z, e]; exact q⟩
      rw [show f % nc + 1 = nc by omega] at y
      simpa using y
/-- the class's cell is the reference's -/
theorem tcv_eq {inT : Nat → Bool} {R : Nat → Nat → Nat} {m rc ρ : Nat} (h0 : 1 ≤ tnr inT R m) (h1 : 1 ≤ tnc inT R m) (hρ : ρ < tnr inT R m * tnc inT R m) (hr : tlab inT R m rc ρ = ρ) : (∀ j, j < 5 → tcv inT R m rc (cnt (tlab inT R m rc) ρ) j = cFold (tnc inT R m) (tlab inT R m rc) ρ (tnr inT R m * tnc inT R m) j) ∧ tcv inT R m rc (cnt (tlab inT R m rc) ρ) 5 = kiN (tnc inT R m) (tlab inT R m rc) (fun f => opX (tsd inT R m rc) (tnr inT R m) (tnc inT R m) (f / tnc inT R m) (f % tnc inT R m)) (tnr inT R m * tnc inT R m) ρ := by
  have e : ∀ j, tc0 inT R m rc (cnt (tlab inT R m rc) ρ) j = cFold (tnc inT R m) (tlab inT R m rc) ρ (tnr inT R m * tnc inT R m) j := fun j => by
    unfold tc0
    rw [rsq_eq hρ hr]
  have hL : Lb (tlab inT R m rc) := Lb.labF _
  refine ⟨fun j hj => ?_, ?_⟩
  · unfold tcv kdO
    rw [if_neg (by omega)]
    show (if j = 5 then _ else tc0 inT R m rc _ j) = _
    rw [if_neg (by omega), e]
  · unfold tcv kdO kiN
    rw [if_pos rfl]
    have := op_o5 (sd := tsd inT R m rc) hL h0 h1 hr
    by_cases z : o5 (tlab inT R m rc) (fun f => opX (tsd inT R m rc) (tnr inT R m) (tnc inT R m) (f / tnc inT R m) (f % tnc inT R m)) ρ (tnr inT R m * tnc inT R m) = true
    · rw [if_pos z]
      exact if_pos (this.mpr z)
    · rw [if_neg z]
      refine (if_neg (fun y => z (this.mp y))).trans ?_
      show (if 5 = 5 then kbC (tc0 inT R m rc) (cnt (tlab inT R m rc) ρ) else _) = _
      rw [if_pos rfl]
      unfold kbC
      rw [e, e, e, e, (cFold_B h1 hr _ hρ (Nat.le_refl _)).2.2.2.1]
