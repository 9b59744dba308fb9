def bv (b1 b2 b4 : Bool) : Int32 := (if b1 = true then 1 else 0) ||| (if b2 = true then 2 else 0) ||| (if b4 = true then 4 else 0)
theorem bv1 (d b1 b2 b4 : Bool) : bv b1 b2 b4 ||| (if d = true then nI 1 else nI 0) = bv (b1 || d) b2 b4 := by cases d <;> cases b1 <;> cases b2 <;> cases b4 <;> decide
theorem bv2 (d b1 b2 b4 : Bool) : bv b1 b2 b4 ||| (if d = true then nI 2 else nI 0) = bv b1 (b2 || d) b4 := by cases d <;> cases b1 <;> cases b2 <;> cases b4 <;> decide
theorem bv4 (d b1 b2 b4 : Bool) : bv b1 b2 b4 ||| (if d = true then nI 4 else nI 0) = bv b1 b2 (b4 || d) := by cases d <;> cases b1 <;> cases b2 <;> cases b4 <;> decide
theorem bv_6 (b1 b2 b4 : Bool) : bv b1 b2 b4 = nI 6 ↔ b1 = false ∧ b2 = true ∧ b4 = true := by cases b1 <;> cases b2 <;> cases b4 <;> decide
def fB1 (wd : Nat → Nat → Nat) (inn : Nat → Bool) (w p : Nat) : Nat → Bool := fun x => inn x && !(endN wd w p x || begN wd w p x)
def fB2 (wd : Nat → Nat → Nat) (inn : Nat → Bool) (w p : Nat) : Nat → Bool := fun x => inn x && endN wd w p x
def fB4 (wd : Nat → Nat → Nat) (inn : Nat → Bool) (w p : Nat) : Nat → Bool := fun x => inn x && begN wd w p x
def bvW (wd : Nat → Nat → Nat) (inn : Nat → Bool) (w p i : Nat) : Int32 := bv (anyB (fB1 wd inn w p) i) (anyB (fB2 wd inn w p) i) (anyB (fB4 wd inn w p) i)
theorem bvW_0 {wd : Nat → Nat → Nat} {inn : Nat → Bool} {w p : Nat} : bvW wd inn w p 0 = nI 0 := by
  show bv false false false = nI 0
  decide
theorem bvW_s {wd : Nat → Nat → Nat} {inn : Nat → Bool} {w p i : Nat} {d1 d2 d4 : Bool} (h1 : fB1 wd inn w p i = d1) (h2 : fB2 wd inn w p i = d2) (h4 : fB4 wd inn w p i = d4) : bv (anyB (fB1 wd inn w p) i || d1) (anyB (fB2 wd inn w p) i || d2) (anyB (fB4 wd inn w p) i || d4) = bvW wd inn w p (i + 1) := by
  subst h1
  subst h2
  subst h4
  rfl
theorem bvW_n {wd : Nat → Nat → Nat} {inn : Nat → Bool} {w p i : Nat} (h : ¬ inn i = true) : bvW wd inn w p i = bvW wd inn w p (i + 1) := by
  have h : inn i = false := by simpa using h
  rw [← bvW_s (d1 := false) (d2 := false) (d4 := false) (by unfold fB1; rw [h]; rfl) (by unfold fB2; rw [h]; rfl) (by unfold fB4; rw [h]; rfl), Bool.or_false, Bool.or_false, Bool.or_false]
  rfl
theorem bvW_6 {wd : Nat → Nat → Nat} {inn : Nat → Bool} {w p n : Nat} : bvW wd inn w p n = nI 6 ↔ kcN wd inn n w p = true := by
  unfold bvW
  rw [bv_6]
  unfold kcN
  rw [Bool.and_eq_true, Bool.and_eq_true]
  refine and_congr ?_ Iff.rfl
  rw [allB_iff]
  constructor
  · intro h k hk
    have : ¬ fB1 wd inn w p k = true := fun z => by
      rw [anyB_iff.mpr ⟨k, hk, z⟩] at h
      exact absurd h (by decide)
    unfold fB1 at this
    revert this
    cases inn k <;> cases endN wd w p k <;> cases begN wd w p k <;> decide
  · intro h
    cases e : anyB (fB1 wd inn w p) n
    · rfl
    · obtain ⟨k, hk, z⟩ := anyB_iff.mp e
      have := h k hk
      unfold fB1 at z
      revert z this
      cases inn k <;> cases endN wd w p k <;> cases begN wd w p k <;> decide
set_option maxHeartbeats 4000000 in
set_option maxRecDepth 100000 in
theorem ct_wordsBy {g : GG} {σ : SG} {nw w p : Nat} {wd : Nat → Nat → Nat} {inn : Nat → Bool} {c : Int32} (hcw : σ.1 323 176 = nI nw) (hnw : nw ≤ 20) (hw : ∀ p k, p < nw → k < 4 → σ.2.1 178 (4 * p + k) = nI (wd p k)) (hwb : ∀ p k, wd p k ≤ 99) (hp : ∀ y, y < nw → ((¬ σ.2.1 189 y < 0 ∧ σ.2.1 190 y = c) ↔ inn y = true)) (hw2 : w < 2) (hpl : p ≤ 99) : Cti g yX10_wordsBy cX10_wordsBy 7 (some .int) (rmm 1 22) [.ref (ad g 176), .int c, .int (nI w), .int (nI p)] σ (fun r σ' => r = bvW wd inn w p nw ∧ σ' = σ) := by
  refine ct_of (own := RX10) (lv := [some (.ref (ad g 176)), some (.int c), some (.int (nI w)), some (.int (nI p)), none, none, none]) rfl (by decide) (Nat.le_of_ble_eq_true rfl) (by intro u hu; simp only [List.mem_cons, List.not_mem_nil, or_false] at hu; rcases hu with rfl | rfl | rfl | rfl <;> rfl) (lv_ok [.ref (ad g 176), .int c, .int (nI w), .int (nI p)] 3) ?_
  have hl189 := l_189
  have hl190 := l_190
  rcases (by omega : w = 0 ∨ w = 1) with rfl | rfl
  · skip
    refine aw_ic (nI 0) dX10_wordsBy_0 (by decide) ?_
    refine aw_istore dX10_wordsBy_1 (Nat.le_of_ble_eq_true rfl) ?_
    refine aw_iload_n dX10_wordsBy_3 rfl ?_
    refine aw_ic (nI 1) dX10_wordsBy_4 (by decide) ?_
    refine aw_icmp_neN dX10_wordsBy_5 (a := 0) rfl (b := 1) rfl (by decide) (by decide) (fun h_5 => ?_) (fun h_5 => absurd h_5 (by omega))
    refine aw_ic (nI 1) dX10_wordsBy_12 (by decide) ?_
    refine aw_istore dX10_wordsBy_13 (Nat.le_of_ble_eq_true rfl) ?_
    refine aw_ic (nI 0) dX10_wordsBy_15 (by decide) ?_
    refine aw_istore dX10_wordsBy_16 (Nat.le_of_ble_eq_true rfl) ?_
    refine for_ux (fun i σ' lv' => σ = σ' ∧ lv' = [some (.ref (ad g 176)), some (.int c), some (.int (nI 0)), some (.int (nI p)), some (.int (bvW wd inn 0 p i)), some (.int (nI 1)), some (.int (nI i))]) (nw) ?_ ?_ (0) _ _ (by omega) (⟨rfl, by rw [bvW_0]; rfl⟩)
    · rintro i σ2 lv2 hi ⟨rfl, rfl⟩ ih
      have b0 := hwb i 0
      have b1 := hwb i 1
      have b2 := hwb i 2
      have b3 := hwb i 3
      refine aw_iload dX10_wordsBy_18 rfl ?_
      refine aw_aload_n dX10_wordsBy_20 rfl ?_
      refine gf10_boxMany dX10_wordsBy_21 kf10_92 k_176 ?_
      refine aw_eq hcw ?_
      refine aw_icmp_geN dX10_wordsBy_24 rfl rfl (by omega) (by omega) (fun h_24 => absurd h_24 (by omega)) (fun h_24 => ?_)
      refine aw_aload_n dX10_wordsBy_27 rfl ?_
      refine gf10_wordCell dX10_wordsBy_28 kf10_49 k_176 ?_
      refine aw_eqr (b := 190) rfl ?_
      refine aw_iload dX10_wordsBy_31 rfl ?_
      refine aw_ld (i) dX10_wordsBy_33 k_190 (rfl) (by omega) ?_
      refine aw_iload_n dX10_wordsBy_34 rfl ?_
      refine aw_icmp_ne dX10_wordsBy_35 (fun h_35 => ?_) (fun h_35 => ?_)
      · skip
        refine aw_inc (nI (i + 1)) dX10_wordsBy_130 rfl (Nat.le_of_ble_eq_true rfl) (nI_1 i) ?_
        refine aw_goto dX10_wordsBy_133 ?_
        exact ih _ _ ⟨rfl, by rw [← bvW_n (fun z => h_35 ((hp i hi).mpr z).2)]; rfl⟩
      · skip
        refine aw_aload_n dX10_wordsBy_38 rfl ?_
        refine gf10_wordTable dX10_wordsBy_39 kf10_46 k_176 ?_
        refine aw_eqr (b := 189) rfl ?_
        refine aw_iload dX10_wordsBy_42 rfl ?_
        refine aw_ld (i) dX10_wordsBy_44 k_189 (rfl) (by omega) ?_
        refine aw_if_lt dX10_wordsBy_45 (fun h_45 => ?_) (fun h_45 => ?_)
        · skip
          refine aw_inc (nI (i + 1)) dX10_wordsBy_130 rfl (Nat.le_of_ble_eq_true rfl) (nI_1 i) ?_
          refine aw_goto dX10_wordsBy_133 ?_
          exact ih _ _ ⟨rfl, by rw [← bvW_n (fun z => ((hp i hi).mpr z).1 h_45)]; rfl⟩
        · skip
          refine aw_iload dX10_wordsBy_48 rfl ?_
          refine aw_aload_n dX10_wordsBy_50 rfl ?_
          refine aw_iload dX10_wordsBy_51 rfl ?_
          refine aw_iload dX10_wordsBy_53 rfl ?_
          refine cqi2 dX10_wordsBy_55 km10_177 ok_X10_boxAt rfl rfl (by decide) k_176 (Nat.le_of_ble_eq_true rfl) ⟨Nat.le_of_ble_eq_true rfl, Nat.le_of_ble_eq_true rfl⟩ rfl rfl (ct_boxAt (r := i) (w := 1) (by omega)) ?_
          refine aw_eq (hw i 1 hi (by decide)) ?_
          refine aw_iload_n dX10_wordsBy_58 rfl ?_
          refine aw_icmp_geN dX10_wordsBy_59 rfl rfl (by omega) (by omega) (fun h_59 => ?_) (fun h_59 => ?_)
          · skip
            refine aw_ic (nI 0) dX10_wordsBy_80 (by decide) ?_
            refine aw_ior dX10_wordsBy_81 ?_
            refine aw_eq (show _ = bv (anyB (fB1 wd inn 0 p) i || false) (anyB (fB2 wd inn 0 p) i) (anyB (fB4 wd inn 0 p) i) from bv1 false _ _ _) ?_
            refine aw_istore dX10_wordsBy_82 (Nat.le_of_ble_eq_true rfl) ?_
            refine aw_iload dX10_wordsBy_84 rfl ?_
            refine aw_aload_n dX10_wordsBy_86 rfl ?_
            refine aw_iload dX10_wordsBy_87 rfl ?_
            refine aw_iload dX10_wordsBy_89 rfl ?_
            refine aw_ic (nI 2) dX10_wordsBy_91 (by decide) ?_
            refine aw_iadd dX10_wordsBy_92 ?_
            refine aw_eq (show _ = nI 3 by decide) ?_
            refine cqi2 dX10_wordsBy_93 km10_177 ok_X10_boxAt rfl rfl (by decide) k_176 (Nat.le_of_ble_eq_true rfl) ⟨Nat.le_of_ble_eq_true rfl, Nat.le_of_ble_eq_true rfl⟩ rfl rfl (ct_boxAt (r := i) (w := 3) (by omega)) ?_
            refine aw_eq (hw i 3 hi (by decide)) ?_
            refine aw_iload_n dX10_wordsBy_96 rfl ?_
            refine aw_icmp_gtN dX10_wordsBy_97 rfl rfl (by omega) (by omega) (fun h_97 => ?_) (fun h_97 => ?_)
            · skip
              refine aw_ic (nI 0) dX10_wordsBy_104 (by decide) ?_
              refine aw_ior dX10_wordsBy_105 ?_
              refine aw_eq (show _ = bv (anyB (fB1 wd inn 0 p) i || false) (anyB (fB2 wd inn 0 p) i || false) (anyB (fB4 wd inn 0 p) i) from bv2 false _ _ _) ?_
              refine aw_istore dX10_wordsBy_106 (Nat.le_of_ble_eq_true rfl) ?_
              refine aw_iload dX10_wordsBy_108 rfl ?_
              refine aw_aload_n dX10_wordsBy_110 rfl ?_
              refine aw_iload dX10_wordsBy_111 rfl ?_
              refine aw_iload dX10_wordsBy_113 rfl ?_
              refine cqi2 dX10_wordsBy_115 km10_177 ok_X10_boxAt rfl rfl (by decide) k_176 (Nat.le_of_ble_eq_true rfl) ⟨Nat.le_of_ble_eq_true rfl, Nat.le_of_ble_eq_true rfl⟩ rfl rfl (ct_boxAt (r := i) (w := 1) (by omega)) ?_
              refine aw_eq (hw i 1 hi (by decide)) ?_
              refine aw_iload_n dX10_wordsBy_118 rfl ?_
              refine aw_icmp_ltN dX10_wordsBy_119 rfl rfl (by omega) (by omega) (fun h_119 => ?_) (fun h_119 => ?_)
              · skip
                refine aw_ic (nI 0) dX10_wordsBy_126 (by decide) ?_
                refine aw_ior dX10_wordsBy_127 ?_
                refine aw_eq (show _ = bv (anyB (fB1 wd inn 0 p) i || false) (anyB (fB2 wd inn 0 p) i || false) (anyB (fB4 wd inn 0 p) i || false) from bv4 false _ _ _) ?_
                refine aw_istore dX10_wordsBy_128 (Nat.le_of_ble_eq_true rfl) ?_
                refine aw_inc (nI (i + 1)) dX10_wordsBy_130 rfl (Nat.le_of_ble_eq_true rfl) (nI_1 i) ?_
                refine aw_goto dX10_wordsBy_133 ?_
                exact absurd (show False by omega) id
              · skip
                refine aw_ic (nI 4) dX10_wordsBy_122 (by decide) ?_
                refine aw_goto dX10_wordsBy_123 ?_
                refine aw_ior dX10_wordsBy_127 ?_
                refine aw_eq (show _ = bv (anyB (fB1 wd inn 0 p) i || false) (anyB (fB2 wd inn 0 p) i || false) (anyB (fB4 wd inn 0 p) i || true) from bv4 true _ _ _) ?_
                refine aw_istore dX10_wordsBy_128 (Nat.le_of_ble_eq_true rfl) ?_
                refine aw_inc (nI (i + 1)) dX10_wordsBy_130 rfl (Nat.le_of_ble_eq_true rfl) (nI_1 i) ?_
                refine aw_goto dX10_wordsBy_133 ?_
                have hin := (hp i hi).mp ⟨h_45, h_35⟩
                have hE : endN wd 0 p i = false := by show decide (wd i 3 ≤ p) = _; first | exact decide_eq_true (by omega) | exact decide_eq_false (by omega)
                have hG : begN wd 0 p i = true := by show decide (p ≤ wd i 1) = _; first | exact decide_eq_true (by omega) | exact decide_eq_false (by omega)
                exact ih _ _ ⟨rfl, by rw [← bvW_s (d1 := false) (d2 := false) (d4 := true) (by unfold fB1; rw [hin, hE, hG]; rfl) (by unfold fB2; rw [hin, hE]; rfl) (by unfold fB4; rw [hin, hG]; rfl)]; rfl⟩
            · skip
              refine aw_ic (nI 2) dX10_wordsBy_100 (by decide) ?_
              refine aw_goto dX10_wordsBy_101 ?_
              refine aw_ior dX10_wordsBy_105 ?_
              refine aw_eq (show _ = bv (anyB (fB1 wd inn 0 p) i || false) (anyB (fB2 wd inn 0 p) i || true) (anyB (fB4 wd inn 0 p) i) from bv2 true _ _ _) ?_
              refine aw_istore dX10_wordsBy_106 (Nat.le_of_ble_eq_true rfl) ?_
              refine aw_iload dX10_wordsBy_108 rfl ?_
              refine aw_aload_n dX10_wordsBy_110 rfl ?_
              refine aw_iload dX10_wordsBy_111 rfl ?_
              refine aw_iload dX10_wordsBy_113 rfl ?_
              refine cqi2 dX10_wordsBy_115 km10_177 ok_X10_boxAt rfl rfl (by decide) k_176 (Nat.le_of_ble_eq_true rfl) ⟨Nat.le_of_ble_eq_true rfl, Nat.le_of_ble_eq_true rfl⟩ rfl rfl (ct_boxAt (r := i) (w := 1) (by omega)) ?_
              refine aw_eq (hw i 1 hi (by decide)) ?_
              refine aw_iload_n dX10_wordsBy_118 rfl ?_
              refine aw_icmp_ltN dX10_wordsBy_119 rfl rfl (by omega) (by omega) (fun h_119 => ?_) (fun h_119 => ?_)
              · skip
                refine aw_ic (nI 0) dX10_wordsBy_126 (by decide) ?_
                refine aw_ior dX10_wordsBy_127 ?_
                refine aw_eq (show _ = bv (anyB (fB1 wd inn 0 p) i || false) (anyB (fB2 wd inn 0 p) i || true) (anyB (fB4 wd inn 0 p) i || false) from bv4 false _ _ _) ?_
                refine aw_istore dX10_wordsBy_128 (Nat.le_of_ble_eq_true rfl) ?_
                refine aw_inc (nI (i + 1)) dX10_wordsBy_130 rfl (Nat.le_of_ble_eq_true rfl) (nI_1 i) ?_
                refine aw_goto dX10_wordsBy_133 ?_
                have hin := (hp i hi).mp ⟨h_45, h_35⟩
                have hE : endN wd 0 p i = true := by show decide (wd i 3 ≤ p) = _; first | exact decide_eq_true (by omega) | exact decide_eq_false (by omega)
                have hG : begN wd 0 p i = false := by show decide (p ≤ wd i 1) = _; first | exact decide_eq_true (by omega) | exact decide_eq_false (by omega)
                exact ih _ _ ⟨rfl, by rw [← bvW_s (d1 := false) (d2 := true) (d4 := false) (by unfold fB1; rw [hin, hE, hG]; rfl) (by unfold fB2; rw [hin, hE]; rfl) (by unfold fB4; rw [hin, hG]; rfl)]; rfl⟩
              · skip
                refine aw_ic (nI 4) dX10_wordsBy_122 (by decide) ?_
                refine aw_goto dX10_wordsBy_123 ?_
                refine aw_ior dX10_wordsBy_127 ?_
                refine aw_eq (show _ = bv (anyB (fB1 wd inn 0 p) i || false) (anyB (fB2 wd inn 0 p) i || true) (anyB (fB4 wd inn 0 p) i || true) from bv4 true _ _ _) ?_
                refine aw_istore dX10_wordsBy_128 (Nat.le_of_ble_eq_true rfl) ?_
                refine aw_inc (nI (i + 1)) dX10_wordsBy_130 rfl (Nat.le_of_ble_eq_true rfl) (nI_1 i) ?_
                refine aw_goto dX10_wordsBy_133 ?_
                have hin := (hp i hi).mp ⟨h_45, h_35⟩
                have hE : endN wd 0 p i = true := by show decide (wd i 3 ≤ p) = _; first | exact decide_eq_true (by omega) | exact decide_eq_false (by omega)
                have hG : begN wd 0 p i = true := by show decide (p ≤ wd i 1) = _; first | exact decide_eq_true (by omega) | exact decide_eq_false (by omega)
                exact ih _ _ ⟨rfl, by rw [← bvW_s (d1 := false) (d2 := true) (d4 := true) (by unfold fB1; rw [hin, hE, hG]; rfl) (by unfold fB2; rw [hin, hE]; rfl) (by unfold fB4; rw [hin, hG]; rfl)]; rfl⟩
          · skip
            refine aw_aload_n dX10_wordsBy_62 rfl ?_
            refine aw_iload dX10_wordsBy_63 rfl ?_
            refine aw_iload dX10_wordsBy_65 rfl ?_
            refine aw_ic (nI 2) dX10_wordsBy_67 (by decide) ?_
            refine aw_iadd dX10_wordsBy_68 ?_
            refine aw_eq (show _ = nI 3 by decide) ?_
            refine cqi2 dX10_wordsBy_69 km10_177 ok_X10_boxAt rfl rfl (by decide) k_176 (Nat.le_of_ble_eq_true rfl) ⟨Nat.le_of_ble_eq_true rfl, Nat.le_of_ble_eq_true rfl⟩ rfl rfl (ct_boxAt (r := i) (w := 3) (by omega)) ?_
            refine aw_eq (hw i 3 hi (by decide)) ?_
            refine aw_iload_n dX10_wordsBy_72 rfl ?_
            refine aw_icmp_leN dX10_wordsBy_73 rfl rfl (by omega) (by omega) (fun h_73 => ?_) (fun h_73 => ?_)
            · skip
              refine aw_ic (nI 0) dX10_wordsBy_80 (by decide) ?_
              refine aw_ior dX10_wordsBy_81 ?_
              refine aw_eq (show _ = bv (anyB (fB1 wd inn 0 p) i || false) (anyB (fB2 wd inn 0 p) i) (anyB (fB4 wd inn 0 p) i) from bv1 false _ _ _) ?_
              refine aw_istore dX10_wordsBy_82 (Nat.le_of_ble_eq_true rfl) ?_
              refine aw_iload dX10_wordsBy_84 rfl ?_
              refine aw_aload_n dX10_wordsBy_86 rfl ?_
              refine aw_iload dX10_wordsBy_87 rfl ?_
              refine aw_iload dX10_wordsBy_89 rfl ?_
              refine aw_ic (nI 2) dX10_wordsBy_91 (by decide) ?_
              refine aw_iadd dX10_wordsBy_92 ?_
              refine aw_eq (show _ = nI 3 by decide) ?_
              refine cqi2 dX10_wordsBy_93 km10_177 ok_X10_boxAt rfl rfl (by decide) k_176 (Nat.le_of_ble_eq_true rfl) ⟨Nat.le_of_ble_eq_true rfl, Nat.le_of_ble_eq_true rfl⟩ rfl rfl (ct_boxAt (r := i) (w := 3) (by omega)) ?_
              refine aw_eq (hw i 3 hi (by decide)) ?_
              refine aw_iload_n dX10_wordsBy_96 rfl ?_
              refine aw_icmp_gtN dX10_wordsBy_97 rfl rfl (by omega) (by omega) (fun h_97 => ?_) (fun h_97 => ?_)
              · skip
                refine aw_ic (nI 0) dX10_wordsBy_104 (by decide) ?_
                refine aw_ior dX10_wordsBy_105 ?_
                refine aw_eq (show _ = bv (anyB (fB1 wd inn 0 p) i || false) (anyB (fB2 wd inn 0 p) i || false) (anyB (fB4 wd inn 0 p) i) from bv2 false _ _ _) ?_
                refine aw_istore dX10_wordsBy_106 (Nat.le_of_ble_eq_true rfl) ?_
                refine aw_iload dX10_wordsBy_108 rfl ?_
                refine aw_aload_n dX10_wordsBy_110 rfl ?_
                refine aw_iload dX10_wordsBy_111 rfl ?_
                refine aw_iload dX10_wordsBy_113 rfl ?_
                refine cqi2 dX10_wordsBy_115 km10_177 ok_X10_boxAt rfl rfl (by decide) k_176 (Nat.le_of_ble_eq_true rfl) ⟨Nat.le_of_ble_eq_true rfl, Nat.le_of_ble_eq_true rfl⟩ rfl rfl (ct_boxAt (r := i) (w := 1) (by omega)) ?_
                refine aw_eq (hw i 1 hi (by decide)) ?_
                refine aw_iload_n dX10_wordsBy_118 rfl ?_
                refine aw_icmp_ltN dX10_wordsBy_119 rfl rfl (by omega) (by omega) (fun h_119 => ?_) (fun h_119 => ?_)
                · skip
                  refine aw_ic (nI 0) dX10_wordsBy_126 (by decide) ?_
                  refine aw_ior dX10_wordsBy_127 ?_
                  refine aw_eq (show _ = bv (anyB (fB1 wd inn 0 p) i || false) (anyB (fB2 wd inn 0 p) i || false) (anyB (fB4 wd inn 0 p) i || false) from bv4 false _ _ _) ?_
                  refine aw_istore dX10_wordsBy_128 (Nat.le_of_ble_eq_true rfl) ?_
                  refine aw_inc (nI (i + 1)) dX10_wordsBy_130 rfl (Nat.le_of_ble_eq_true rfl) (nI_1 i) ?_
                  refine aw_goto dX10_wordsBy_133 ?_
                  exact absurd (show False by omega) id
                · skip
                  refine aw_ic (nI 4) dX10_wordsBy_122 (by decide) ?_
                  refine aw_goto dX10_wordsBy_123 ?_
                  refine aw_ior dX10_wordsBy_127 ?_
                  refine aw_eq (show _ = bv (anyB (fB1 wd inn 0 p) i || false) (anyB (fB2 wd inn 0 p) i || false) (anyB (fB4 wd inn 0 p) i || true) from bv4 true _ _ _) ?_
                  refine aw_istore dX10_wordsBy_128 (Nat.le_of_ble_eq_true rfl) ?_
                  refine aw_inc (nI (i + 1)) dX10_wordsBy_130 rfl (Nat.le_of_ble_eq_true rfl) (nI_1 i) ?_
                  refine aw_goto dX10_wordsBy_133 ?_
                  have hin := (hp i hi).mp ⟨h_45, h_35⟩
                  have hE : endN wd 0 p i = false := by show decide (wd i 3 ≤ p) = _; first | exact decide_eq_true (by omega) | exact decide_eq_false (by omega)
                  have hG : begN wd 0 p i = true := by show decide (p ≤ wd i 1) = _; first | exact decide_eq_true (by omega) | exact decide_eq_false (by omega)
                  exact ih _ _ ⟨rfl, by rw [← bvW_s (d1 := false) (d2 := false) (d4 := true) (by unfold fB1; rw [hin, hE, hG]; rfl) (by unfold fB2; rw [hin, hE]; rfl) (by unfold fB4; rw [hin, hG]; rfl)]; rfl⟩
              · skip
                refine aw_ic (nI 2) dX10_wordsBy_100 (by decide) ?_
                refine aw_goto dX10_wordsBy_101 ?_
                refine aw_ior dX10_wordsBy_105 ?_
                refine aw_eq (show _ = bv (anyB (fB1 wd inn 0 p) i || false) (anyB (fB2 wd inn 0 p) i || true) (anyB (fB4 wd inn 0 p) i) from bv2 true _ _ _) ?_
                refine aw_istore dX10_wordsBy_106 (Nat.le_of_ble_eq_true rfl) ?_
                refine aw_iload dX10_wordsBy_108 rfl ?_
                refine aw_aload_n dX10_wordsBy_110 rfl ?_
                refine aw_iload dX10_wordsBy_111 rfl ?_
                refine aw_iload dX10_wordsBy_113 rfl ?_
                refine cqi2 dX10_wordsBy_115 km10_177 ok_X10_boxAt rfl rfl (by decide) k_176 (Nat.le_of_ble_eq_true rfl) ⟨Nat.le_of_ble_eq_true rfl, Nat.le_of_ble_eq_true rfl⟩ rfl rfl (ct_boxAt (r := i) (w := 1) (by omega)) ?_
                refine aw_eq (hw i 1 hi (by decide)) ?_
                refine aw_iload_n dX10_wordsBy_118 rfl ?_
                refine aw_icmp_ltN dX10_wordsBy_119 rfl rfl (by omega) (by omega) (fun h_119 => ?_) (fun h_119 => ?_)
                · skip
                  refine aw_ic (nI 0) dX10_wordsBy_126 (by decide) ?_
                  refine aw_ior dX10_wordsBy_127 ?_
                  refine aw_eq (show _ = bv (anyB (fB1 wd inn 0 p) i || false) (anyB (fB2 wd inn 0 p) i || true) (anyB (fB4 wd inn 0 p) i || false) from bv4 false _ _ _) ?_
                  refine aw_istore dX10_wordsBy_128 (Nat.le_of_ble_eq_true rfl) ?_
                  refine aw_inc (nI (i + 1)) dX10_wordsBy_130 rfl (Nat.le_of_ble_eq_true rfl) (nI_1 i) ?_
                  refine aw_goto dX10_wordsBy_133 ?_
                  have hin := (hp i hi).mp ⟨h_45, h_35⟩
                  have hE : endN wd 0 p i = true := by show decide (wd i 3 ≤ p) = _; first | exact decide_eq_true (by omega) | exact decide_eq_false (by omega)
                  have hG : begN wd 0 p i = false := by show decide (p ≤ wd i 1) = _; first | exact decide_eq_true (by omega) | exact decide_eq_false (by omega)
                  exact ih _ _ ⟨rfl, by rw [← bvW_s (d1 := false) (d2 := true) (d4 := false) (by unfold fB1; rw [hin, hE, hG]; rfl) (by unfold fB2; rw [hin, hE]; rfl) (by unfold fB4; rw [hin, hG]; rfl)]; rfl⟩
                · skip
                  refine aw_ic (nI 4) dX10_wordsBy_122 (by decide) ?_
                  refine aw_goto dX10_wordsBy_123 ?_
                  refine aw_ior dX10_wordsBy_127 ?_
                  refine aw_eq (show _ = bv (anyB (fB1 wd inn 0 p) i || false) (anyB (fB2 wd inn 0 p) i || true) (anyB (fB4 wd inn 0 p) i || true) from bv4 true _ _ _) ?_
                  refine aw_istore dX10_wordsBy_128 (Nat.le_of_ble_eq_true rfl) ?_
                  refine aw_inc (nI (i + 1)) dX10_wordsBy_130 rfl (Nat.le_of_ble_eq_true rfl) (nI_1 i) ?_
                  refine aw_goto dX10_wordsBy_133 ?_
                  have hin := (hp i hi).mp ⟨h_45, h_35⟩
                  have hE : endN wd 0 p i = true := by show decide (wd i 3 ≤ p) = _; first | exact decide_eq_true (by omega) | exact decide_eq_false (by omega)
                  have hG : begN wd 0 p i = true := by show decide (p ≤ wd i 1) = _; first | exact decide_eq_true (by omega) | exact decide_eq_false (by omega)
                  exact ih _ _ ⟨rfl, by rw [← bvW_s (d1 := false) (d2 := true) (d4 := true) (by unfold fB1; rw [hin, hE, hG]; rfl) (by unfold fB2; rw [hin, hE]; rfl) (by unfold fB4; rw [hin, hG]; rfl)]; rfl⟩
            · skip
              refine aw_ic (nI 1) dX10_wordsBy_76 (by decide) ?_
              refine aw_goto dX10_wordsBy_77 ?_
              refine aw_ior dX10_wordsBy_81 ?_
              refine aw_eq (show _ = bv (anyB (fB1 wd inn 0 p) i || true) (anyB (fB2 wd inn 0 p) i) (anyB (fB4 wd inn 0 p) i) from bv1 true _ _ _) ?_
              refine aw_istore dX10_wordsBy_82 (Nat.le_of_ble_eq_true rfl) ?_
              refine aw_iload dX10_wordsBy_84 rfl ?_
              refine aw_aload_n dX10_wordsBy_86 rfl ?_
              refine aw_iload dX10_wordsBy_87 rfl ?_
              refine aw_iload dX10_wordsBy_89 rfl ?_
              refine aw_ic (nI 2) dX10_wordsBy_91 (by decide) ?_
              refine aw_iadd dX10_wordsBy_92 ?_
              refine aw_eq (show _ = nI 3 by decide) ?_
              refine cqi2 dX10_wordsBy_93 km10_177 ok_X10_boxAt rfl rfl (by decide) k_176 (Nat.le_of_ble_eq_true rfl) ⟨Nat.le_of_ble_eq_true rfl, Nat.le_of_ble_eq_true rfl⟩ rfl rfl (ct_boxAt (r := i) (w := 3) (by omega)) ?_
              refine aw_eq (hw i 3 hi (by decide)) ?_
              refine aw_iload_n dX10_wordsBy_96 rfl ?_
              refine aw_icmp_gtN dX10_wordsBy_97 rfl rfl (by omega) (by omega) (fun h_97 => ?_) (fun h_97 => ?_)
              · skip
                refine aw_ic (nI 0) dX10_wordsBy_104 (by decide) ?_
                refine aw_ior dX10_wordsBy_105 ?_
                refine aw_eq (show _ = bv (anyB (fB1 wd inn 0 p) i || true) (anyB (fB2 wd inn 0 p) i || false) (anyB (fB4 wd inn 0 p) i) from bv2 false _ _ _) ?_
                refine aw_istore dX10_wordsBy_106 (Nat.le_of_ble_eq_true rfl) ?_
                refine aw_iload dX10_wordsBy_108 rfl ?_
                refine aw_aload_n dX10_wordsBy_110 rfl ?_
                refine aw_iload dX10_wordsBy_111 rfl ?_
                refine aw_iload dX10_wordsBy_113 rfl ?_
                refine cqi2 dX10_wordsBy_115 km10_177 ok_X10_boxAt rfl rfl (by decide) k_176 (Nat.le_of_ble_eq_true rfl) ⟨Nat.le_of_ble_eq_true rfl, Nat.le_of_ble_eq_true rfl⟩ rfl rfl (ct_boxAt (r := i) (w := 1) (by omega)) ?_
                refine aw_eq (hw i 1 hi (by decide)) ?_
                refine aw_iload_n dX10_wordsBy_118 rfl ?_
                refine aw_icmp_ltN dX10_wordsBy_119 rfl rfl (by omega) (by omega) (fun h_119 => ?_) (fun h_119 => ?_)
                · skip
                  refine aw_ic (nI 0) dX10_wordsBy_126 (by decide) ?_
                  refine aw_ior dX10_wordsBy_127 ?_
                  refine aw_eq (show _ = bv (anyB (fB1 wd inn 0 p) i || true) (anyB (fB2 wd inn 0 p) i || false) (anyB (fB4 wd inn 0 p) i || false) from bv4 false _ _ _) ?_
                  refine aw_istore dX10_wordsBy_128 (Nat.le_of_ble_eq_true rfl) ?_
                  refine aw_inc (nI (i + 1)) dX10_wordsBy_130 rfl (Nat.le_of_ble_eq_true rfl) (nI_1 i) ?_
                  refine aw_goto dX10_wordsBy_133 ?_
                  have hin := (hp i hi).mp ⟨h_45, h_35⟩
                  have hE : endN wd 0 p i = false := by show decide (wd i 3 ≤ p) = _; first | exact decide_eq_true (by omega) | exact decide_eq_false (by omega)
                  have hG : begN wd 0 p i = false := by show decide (p ≤ wd i 1) = _; first | exact decide_eq_true (by omega) | exact decide_eq_false (by omega)
                  exact ih _ _ ⟨rfl, by rw [← bvW_s (d1 := true) (d2 := false) (d4 := false) (by unfold fB1; rw [hin, hE, hG]; rfl) (by unfold fB2; rw [hin, hE]; rfl) (by unfold fB4; rw [hin, hG]; rfl)]; rfl⟩
                · skip
                  refine aw_ic (nI 4) dX10_wordsBy_122 (by decide) ?_
                  refine aw_goto dX10_wordsBy_123 ?_
                  refine aw_ior dX10_wordsBy_127 ?_
                  refine aw_eq (show _ = bv (anyB (fB1 wd inn 0 p) i || true) (anyB (fB2 wd inn 0 p) i || false) (anyB (fB4 wd inn 0 p) i || true) from bv4 true _ _ _) ?_
                  refine aw_istore dX10_wordsBy_128 (Nat.le_of_ble_eq_true rfl) ?_
                  refine aw_inc (nI (i + 1)) dX10_wordsBy_130 rfl (Nat.le_of_ble_eq_true rfl) (nI_1 i) ?_
                  refine aw_goto dX10_wordsBy_133 ?_
                  exact absurd (show False by omega) id
              · skip
                refine aw_ic (nI 2) dX10_wordsBy_100 (by decide) ?_
                refine aw_goto dX10_wordsBy_101 ?_
                refine aw_ior dX10_wordsBy_105 ?_
                refine aw_eq (show _ = bv (anyB (fB1 wd inn 0 p) i || true) (anyB (fB2 wd inn 0 p) i || true) (anyB (fB4 wd inn 0 p) i) from bv2 true _ _ _) ?_
                refine aw_istore dX10_wordsBy_106 (Nat.le_of_ble_eq_true rfl) ?_
                refine aw_iload dX10_wordsBy_108 rfl ?_
                refine aw_aload_n dX10_wordsBy_110 rfl ?_
                refine aw_iload dX10_wordsBy_111 rfl ?_
                refine aw_iload dX10_wordsBy_113 rfl ?_
                refine cqi2 dX10_wordsBy_115 km10_177 ok_X10_boxAt rfl rfl (by decide) k_176 (Nat.le_of_ble_eq_true rfl) ⟨Nat.le_of_ble_eq_true rfl, Nat.le_of_ble_eq_true rfl⟩ rfl rfl (ct_boxAt (r := i) (w := 1) (by omega)) ?_
                refine aw_eq (hw i 1 hi (by decide)) ?_
                refine aw_iload_n dX10_wordsBy_118 rfl ?_
                refine aw_icmp_ltN dX10_wordsBy_119 rfl rfl (by omega) (by omega) (fun h_119 => ?_) (fun h_119 => ?_)
                · skip
                  refine aw_ic (nI 0) dX10_wordsBy_126 (by decide) ?_
                  refine aw_ior dX10_wordsBy_127 ?_
                  refine aw_eq (show _ = bv (anyB (fB1 wd inn 0 p) i || true) (anyB (fB2 wd inn 0 p) i || true) (anyB (fB4 wd inn 0 p) i || false) from bv4 false _ _ _) ?_
                  refine aw_istore dX10_wordsBy_128 (Nat.le_of_ble_eq_true rfl) ?_
                  refine aw_inc (nI (i + 1)) dX10_wordsBy_130 rfl (Nat.le_of_ble_eq_true rfl) (nI_1 i) ?_
                  refine aw_goto dX10_wordsBy_133 ?_
                  exact absurd (show False by omega) id
                · skip
                  refine aw_ic (nI 4) dX10_wordsBy_122 (by decide) ?_
                  refine aw_goto dX10_wordsBy_123 ?_
                  refine aw_ior dX10_wordsBy_127 ?_
                  refine aw_eq (show _ = bv (anyB (fB1 wd inn 0 p) i || true) (anyB (fB2 wd inn 0 p) i || true) (anyB (fB4 wd inn 0 p) i || true) from bv4 true _ _ _) ?_
                  refine aw_istore dX10_wordsBy_128 (Nat.le_of_ble_eq_true rfl) ?_
                  refine aw_inc (nI (i + 1)) dX10_wordsBy_130 rfl (Nat.le_of_ble_eq_true rfl) (nI_1 i) ?_
                  refine aw_goto dX10_wordsBy_133 ?_
                  exact absurd (show False by omega) id
    · rintro σ2 lv2 ⟨rfl, rfl⟩
      refine aw_iload dX10_wordsBy_18 rfl ?_
      refine aw_aload_n dX10_wordsBy_20 rfl ?_
      refine gf10_boxMany dX10_wordsBy_21 kf10_92 k_176 ?_
      refine aw_eq hcw ?_
      refine aw_icmp_geN dX10_wordsBy_24 rfl rfl (by omega) (by omega) (fun h_24 => ?_) (fun h_24 => absurd h_24 (by omega))
      refine aw_iload dX10_wordsBy_136 rfl ?_
      exact aw_ireti dX10_wordsBy_138 (⟨rfl, rfl⟩)
  · skip
    refine aw_ic (nI 0) dX10_wordsBy_0 (by decide) ?_
    refine aw_istore dX10_wordsBy_1 (Nat.le_of_ble_eq_true rfl) ?_
    refine aw_iload_n dX10_wordsBy_3 rfl ?_
    refine aw_ic (nI 1) dX10_wordsBy_4 (by decide) ?_
    refine aw_icmp_neN dX10_wordsBy_5 (a := 1) rfl (b := 1) rfl (by decide) (by decide) (fun h_5 => absurd h_5 (by omega)) (fun h_5 => ?_)
    refine aw_ic (nI 0) dX10_wordsBy_8 (by decide) ?_
    refine aw_goto dX10_wordsBy_9 ?_
    refine aw_istore dX10_wordsBy_13 (Nat.le_of_ble_eq_true rfl) ?_
    refine aw_ic (nI 0) dX10_wordsBy_15 (by decide) ?_
    refine aw_istore dX10_wordsBy_16 (Nat.le_of_ble_eq_true rfl) ?_
    refine for_ux (fun i σ' lv' => σ = σ' ∧ lv' = [some (.ref (ad g 176)), some (.int c), some (.int (nI 1)), some (.int (nI p)), some (.int (bvW wd inn 1 p i)), some (.int (nI 0)), some (.int (nI i))]) (nw) ?_ ?_ (0) _ _ (by omega) (⟨rfl, by rw [bvW_0]; rfl⟩)
    · rintro i σ2 lv2 hi ⟨rfl, rfl⟩ ih
      have b0 := hwb i 0
      have b1 := hwb i 1
      have b2 := hwb i 2
      have b3 := hwb i 3
      refine aw_iload dX10_wordsBy_18 rfl ?_
      refine aw_aload_n dX10_wordsBy_20 rfl ?_
      refine gf10_boxMany dX10_wordsBy_21 kf10_92 k_176 ?_
      refine aw_eq hcw ?_
      refine aw_icmp_geN dX10_wordsBy_24 rfl rfl (by omega) (by omega) (fun h_24 => absurd h_24 (by omega)) (fun h_24 => ?_)
      refine aw_aload_n dX10_wordsBy_27 rfl ?_
      refine gf10_wordCell dX10_wordsBy_28 kf10_49 k_176 ?_
      refine aw_eqr (b := 190) rfl ?_
      refine aw_iload dX10_wordsBy_31 rfl ?_
      refine aw_ld (i) dX10_wordsBy_33 k_190 (rfl) (by omega) ?_
      refine aw_iload_n dX10_wordsBy_34 rfl ?_
      refine aw_icmp_ne dX10_wordsBy_35 (fun h_35 => ?_) (fun h_35 => ?_)
      · skip
        refine aw_inc (nI (i + 1)) dX10_wordsBy_130 rfl (Nat.le_of_ble_eq_true rfl) (nI_1 i) ?_
        refine aw_goto dX10_wordsBy_133 ?_
        exact ih _ _ ⟨rfl, by rw [← bvW_n (fun z => h_35 ((hp i hi).mpr z).2)]; rfl⟩
      · skip
        refine aw_aload_n dX10_wordsBy_38 rfl ?_
        refine gf10_wordTable dX10_wordsBy_39 kf10_46 k_176 ?_
        refine aw_eqr (b := 189) rfl ?_
        refine aw_iload dX10_wordsBy_42 rfl ?_
        refine aw_ld (i) dX10_wordsBy_44 k_189 (rfl) (by omega) ?_
        refine aw_if_lt dX10_wordsBy_45 (fun h_45 => ?_) (fun h_45 => ?_)
        · skip
          refine aw_inc (nI (i + 1)) dX10_wordsBy_130 rfl (Nat.le_of_ble_eq_true rfl) (nI_1 i) ?_
          refine aw_goto dX10_wordsBy_133 ?_
          exact ih _ _ ⟨rfl, by rw [← bvW_n (fun z => ((hp i hi).mpr z).1 h_45)]; rfl⟩
        · skip
          refine aw_iload dX10_wordsBy_48 rfl ?_
          refine aw_aload_n dX10_wordsBy_50 rfl ?_
          refine aw_iload dX10_wordsBy_51 rfl ?_
          refine aw_iload dX10_wordsBy_53 rfl ?_
          refine cqi2 dX10_wordsBy_55 km10_177 ok_X10_boxAt rfl rfl (by decide) k_176 (Nat.le_of_ble_eq_true rfl) ⟨Nat.le_of_ble_eq_true rfl, Nat.le_of_ble_eq_true rfl⟩ rfl rfl (ct_boxAt (r := i) (w := 0) (by omega)) ?_
          refine aw_eq (hw i 0 hi (by decide)) ?_
          refine aw_iload_n dX10_wordsBy_58 rfl ?_
          refine aw_icmp_geN dX10_wordsBy_59 rfl rfl (by omega) (by omega) (fun h_59 => ?_) (fun h_59 => ?_)
          · skip
            refine aw_ic (nI 0) dX10_wordsBy_80 (by decide) ?_
            refine aw_ior dX10_wordsBy_81 ?_
            refine aw_eq (show _ = bv (anyB (fB1 wd inn 1 p) i || false) (anyB (fB2 wd inn 1 p) i) (anyB (fB4 wd inn 1 p) i) from bv1 false _ _ _) ?_
            refine aw_istore dX10_wordsBy_82 (Nat.le_of_ble_eq_true rfl) ?_
            refine aw_iload dX10_wordsBy_84 rfl ?_
            refine aw_aload_n dX10_wordsBy_86 rfl ?_
            refine aw_iload dX10_wordsBy_87 rfl ?_
            refine aw_iload dX10_wordsBy_89 rfl ?_
            refine aw_ic (nI 2) dX10_wordsBy_91 (by decide) ?_
            refine aw_iadd dX10_wordsBy_92 ?_
            refine aw_eq (show _ = nI 2 by decide) ?_
            refine cqi2 dX10_wordsBy_93 km10_177 ok_X10_boxAt rfl rfl (by decide) k_176 (Nat.le_of_ble_eq_true rfl) ⟨Nat.le_of_ble_eq_true rfl, Nat.le_of_ble_eq_true rfl⟩ rfl rfl (ct_boxAt (r := i) (w := 2) (by omega)) ?_
            refine aw_eq (hw i 2 hi (by decide)) ?_
            refine aw_iload_n dX10_wordsBy_96 rfl ?_
            refine aw_icmp_gtN dX10_wordsBy_97 rfl rfl (by omega) (by omega) (fun h_97 => ?_) (fun h_97 => ?_)
            · skip
              refine aw_ic (nI 0) dX10_wordsBy_104 (by decide) ?_
              refine aw_ior dX10_wordsBy_105 ?_
              refine aw_eq (show _ = bv (anyB (fB1 wd inn 1 p) i || false) (anyB (fB2 wd inn 1 p) i || false) (anyB (fB4 wd inn 1 p) i) from bv2 false _ _ _) ?_
              refine aw_istore dX10_wordsBy_106 (Nat.le_of_ble_eq_true rfl) ?_
              refine aw_iload dX10_wordsBy_108 rfl ?_
              refine aw_aload_n dX10_wordsBy_110 rfl ?_
              refine aw_iload dX10_wordsBy_111 rfl ?_
              refine aw_iload dX10_wordsBy_113 rfl ?_
              refine cqi2 dX10_wordsBy_115 km10_177 ok_X10_boxAt rfl rfl (by decide) k_176 (Nat.le_of_ble_eq_true rfl) ⟨Nat.le_of_ble_eq_true rfl, Nat.le_of_ble_eq_true rfl⟩ rfl rfl (ct_boxAt (r := i) (w := 0) (by omega)) ?_
              refine aw_eq (hw i 0 hi (by decide)) ?_
              refine aw_iload_n dX10_wordsBy_118 rfl ?_
              refine aw_icmp_ltN dX10_wordsBy_119 rfl rfl (by omega) (by omega) (fun h_119 => ?_) (fun h_119 => ?_)
              · skip
                refine aw_ic (nI 0) dX10_wordsBy_126 (by decide) ?_
                refine aw_ior dX10_wordsBy_127 ?_
                refine aw_eq (show _ = bv (anyB (fB1 wd inn 1 p) i || false) (anyB (fB2 wd inn 1 p) i || false) (anyB (fB4 wd inn 1 p) i || false) from bv4 false _ _ _) ?_
                refine aw_istore dX10_wordsBy_128 (Nat.le_of_ble_eq_true rfl) ?_
                refine aw_inc (nI (i + 1)) dX10_wordsBy_130 rfl (Nat.le_of_ble_eq_true rfl) (nI_1 i) ?_
                refine aw_goto dX10_wordsBy_133 ?_
                exact absurd (show False by omega) id
              · skip
                refine aw_ic (nI 4) dX10_wordsBy_122 (by decide) ?_
                refine aw_goto dX10_wordsBy_123 ?_
                refine aw_ior dX10_wordsBy_127 ?_
                refine aw_eq (show _ = bv (anyB (fB1 wd inn 1 p) i || false) (anyB (fB2 wd inn 1 p) i || false) (anyB (fB4 wd inn 1 p) i || true) from bv4 true _ _ _) ?_
                refine aw_istore dX10_wordsBy_128 (Nat.le_of_ble_eq_true rfl) ?_
                refine aw_inc (nI (i + 1)) dX10_wordsBy_130 rfl (Nat.le_of_ble_eq_true rfl) (nI_1 i) ?_
                refine aw_goto dX10_wordsBy_133 ?_
                have hin := (hp i hi).mp ⟨h_45, h_35⟩
                have hE : endN wd 1 p i = false := by show decide (wd i 2 ≤ p) = _; first | exact decide_eq_true (by omega) | exact decide_eq_false (by omega)
                have hG : begN wd 1 p i = true := by show decide (p ≤ wd i 0) = _; first | exact decide_eq_true (by omega) | exact decide_eq_false (by omega)
                exact ih _ _ ⟨rfl, by rw [← bvW_s (d1 := false) (d2 := false) (d4 := true) (by unfold fB1; rw [hin, hE, hG]; rfl) (by unfold fB2; rw [hin, hE]; rfl) (by unfold fB4; rw [hin, hG]; rfl)]; rfl⟩
            · skip
              refine aw_ic (nI 2) dX10_wordsBy_100 (by decide) ?_
              refine aw_goto dX10_wordsBy_101 ?_
              refine aw_ior dX10_wordsBy_105 ?_
              refine aw_eq (show _ = bv (anyB (fB1 wd inn 1 p) i || false) (anyB (fB2 wd inn 1 p) i || true) (anyB (fB4 wd inn 1 p) i) from bv2 true _ _ _) ?_
              refine aw_istore dX10_wordsBy_106 (Nat.le_of_ble_eq_true rfl) ?_
              refine aw_iload dX10_wordsBy_108 rfl ?_
              refine aw_aload_n dX10_wordsBy_110 rfl ?_
              refine aw_iload dX10_wordsBy_111 rfl ?_
              refine aw_iload dX10_wordsBy_113 rfl ?_
              refine cqi2 dX10_wordsBy_115 km10_177 ok_X10_boxAt rfl rfl (by decide) k_176 (Nat.le_of_ble_eq_true rfl) ⟨Nat.le_of_ble_eq_true rfl, Nat.le_of_ble_eq_true rfl⟩ rfl rfl (ct_boxAt (r := i) (w := 0) (by omega)) ?_
              refine aw_eq (hw i 0 hi (by decide)) ?_
              refine aw_iload_n dX10_wordsBy_118 rfl ?_
              refine aw_icmp_ltN dX10_wordsBy_119 rfl rfl (by omega) (by omega) (fun h_119 => ?_) (fun h_119 => ?_)
              · skip
                refine aw_ic (nI 0) dX10_wordsBy_126 (by decide) ?_
                refine aw_ior dX10_wordsBy_127 ?_
                refine aw_eq (show _ = bv (anyB (fB1 wd inn 1 p) i || false) (anyB (fB2 wd inn 1 p) i || true) (anyB (fB4 wd inn 1 p) i || false) from bv4 false _ _ _) ?_
                refine aw_istore dX10_wordsBy_128 (Nat.le_of_ble_eq_true rfl) ?_
                refine aw_inc (nI (i + 1)) dX10_wordsBy_130 rfl (Nat.le_of_ble_eq_true rfl) (nI_1 i) ?_
                refine aw_goto dX10_wordsBy_133 ?_
                have hin := (hp i hi).mp ⟨h_45, h_35⟩
                have hE : endN wd 1 p i = true := by show decide (wd i 2 ≤ p) = _; first | exact decide_eq_true (by omega) | exact decide_eq_false (by omega)
                have hG : begN wd 1 p i = false := by show decide (p ≤ wd i 0) = _; first | exact decide_eq_true (by omega) | exact decide_eq_false (by omega)
                exact ih _ _ ⟨rfl, by rw [← bvW_s (d1 := false) (d2 := true) (d4 := false) (by unfold fB1; rw [hin, hE, hG]; rfl) (by unfold fB2; rw [hin, hE]; rfl) (by unfold fB4; rw [hin, hG]; rfl)]; rfl⟩
              · skip
                refine aw_ic (nI 4) dX10_wordsBy_122 (by decide) ?_
                refine aw_goto dX10_wordsBy_123 ?_
                refine aw_ior dX10_wordsBy_127 ?_
                refine aw_eq (show _ = bv (anyB (fB1 wd inn 1 p) i || false) (anyB (fB2 wd inn 1 p) i || true) (anyB (fB4 wd inn 1 p) i || true) from bv4 true _ _ _) ?_
                refine aw_istore dX10_wordsBy_128 (Nat.le_of_ble_eq_true rfl) ?_
                refine aw_inc (nI (i + 1)) dX10_wordsBy_130 rfl (Nat.le_of_ble_eq_true rfl) (nI_1 i) ?_
                refine aw_goto dX10_wordsBy_133 ?_
                have hin := (hp i hi).mp ⟨h_45, h_35⟩
                have hE : endN wd 1 p i = true := by show decide (wd i 2 ≤ p) = _; first | exact decide_eq_true (by omega) | exact decide_eq_false (by omega)
                have hG : begN wd 1 p i = true := by show decide (p ≤ wd i 0) = _; first | exact decide_eq_true (by omega) | exact decide_eq_false (by omega)
                exact ih _ _ ⟨rfl, by rw [← bvW_s (d1 := false) (d2 := true) (d4 := true) (by unfold fB1; rw [hin, hE, hG]; rfl) (by unfold fB2; rw [hin, hE]; rfl) (by unfold fB4; rw [hin, hG]; rfl)]; rfl⟩
          · skip
            refine aw_aload_n dX10_wordsBy_62 rfl ?_
            refine aw_iload dX10_wordsBy_63 rfl ?_
            refine aw_iload dX10_wordsBy_65 rfl ?_
            refine aw_ic (nI 2) dX10_wordsBy_67 (by decide) ?_
            refine aw_iadd dX10_wordsBy_68 ?_
            refine aw_eq (show _ = nI 2 by decide) ?_
            refine cqi2 dX10_wordsBy_69 km10_177 ok_X10_boxAt rfl rfl (by decide) k_176 (Nat.le_of_ble_eq_true rfl) ⟨Nat.le_of_ble_eq_true rfl, Nat.le_of_ble_eq_true rfl⟩ rfl rfl (ct_boxAt (r := i) (w := 2) (by omega)) ?_
            refine aw_eq (hw i 2 hi (by decide)) ?_
            refine aw_iload_n dX10_wordsBy_72 rfl ?_
            refine aw_icmp_leN dX10_wordsBy_73 rfl rfl (by omega) (by omega) (fun h_73 => ?_) (fun h_73 => ?_)
            · skip
              refine aw_ic (nI 0) dX10_wordsBy_80 (by decide) ?_
              refine aw_ior dX10_wordsBy_81 ?_
              refine aw_eq (show _ = bv (anyB (fB1 wd inn 1 p) i || false) (anyB (fB2 wd inn 1 p) i) (anyB (fB4 wd inn 1 p) i) from bv1 false _ _ _) ?_
              refine aw_istore dX10_wordsBy_82 (Nat.le_of_ble_eq_true rfl) ?_
              refine aw_iload dX10_wordsBy_84 rfl ?_
              refine aw_aload_n dX10_wordsBy_86 rfl ?_
              refine aw_iload dX10_wordsBy_87 rfl ?_
              refine aw_iload dX10_wordsBy_89 rfl ?_
              refine aw_ic (nI 2) dX10_wordsBy_91 (by decide) ?_
              refine aw_iadd dX10_wordsBy_92 ?_
              refine aw_eq (show _ = nI 2 by decide) ?_
              refine cqi2 dX10_wordsBy_93 km10_177 ok_X10_boxAt rfl rfl (by decide) k_176 (Nat.le_of_ble_eq_true rfl) ⟨Nat.le_of_ble_eq_true rfl, Nat.le_of_ble_eq_true rfl⟩ rfl rfl (ct_boxAt (r := i) (w := 2) (by omega)) ?_
              refine aw_eq (hw i 2 hi (by decide)) ?_
              refine aw_iload_n dX10_wordsBy_96 rfl ?_
              refine aw_icmp_gtN dX10_wordsBy_97 rfl rfl (by omega) (by omega) (fun h_97 => ?_) (fun h_97 => ?_)
              · skip
                refine aw_ic (nI 0) dX10_wordsBy_104 (by decide) ?_
                refine aw_ior dX10_wordsBy_105 ?_
                refine aw_eq (show _ = bv (anyB (fB1 wd inn 1 p) i || false) (anyB (fB2 wd inn 1 p) i || false) (anyB (fB4 wd inn 1 p) i) from bv2 false _ _ _) ?_
                refine aw_istore dX10_wordsBy_106 (Nat.le_of_ble_eq_true rfl) ?_
                refine aw_iload dX10_wordsBy_108 rfl ?_
                refine aw_aload_n dX10_wordsBy_110 rfl ?_
                refine aw_iload dX10_wordsBy_111 rfl ?_
                refine aw_iload dX10_wordsBy_113 rfl ?_
                refine cqi2 dX10_wordsBy_115 km10_177 ok_X10_boxAt rfl rfl (by decide) k_176 (Nat.le_of_ble_eq_true rfl) ⟨Nat.le_of_ble_eq_true rfl, Nat.le_of_ble_eq_true rfl⟩ rfl rfl (ct_boxAt (r := i) (w := 0) (by omega)) ?_
                refine aw_eq (hw i 0 hi (by decide)) ?_
                refine aw_iload_n dX10_wordsBy_118 rfl ?_
                refine aw_icmp_ltN dX10_wordsBy_119 rfl rfl (by omega) (by omega) (fun h_119 => ?_) (fun h_119 => ?_)
                · skip
                  refine aw_ic (nI 0) dX10_wordsBy_126 (by decide) ?_
                  refine aw_ior dX10_wordsBy_127 ?_
                  refine aw_eq (show _ = bv (anyB (fB1 wd inn 1 p) i || false) (anyB (fB2 wd inn 1 p) i || false) (anyB (fB4 wd inn 1 p) i || false) from bv4 false _ _ _) ?_
                  refine aw_istore dX10_wordsBy_128 (Nat.le_of_ble_eq_true rfl) ?_
                  refine aw_inc (nI (i + 1)) dX10_wordsBy_130 rfl (Nat.le_of_ble_eq_true rfl) (nI_1 i) ?_
                  refine aw_goto dX10_wordsBy_133 ?_
                  exact absurd (show False by omega) id
                · skip
                  refine aw_ic (nI 4) dX10_wordsBy_122 (by decide) ?_
                  refine aw_goto dX10_wordsBy_123 ?_
                  refine aw_ior dX10_wordsBy_127 ?_
                  refine aw_eq (show _ = bv (anyB (fB1 wd inn 1 p) i || false) (anyB (fB2 wd inn 1 p) i || false) (anyB (fB4 wd inn 1 p) i || true) from bv4 true _ _ _) ?_
                  refine aw_istore dX10_wordsBy_128 (Nat.le_of_ble_eq_true rfl) ?_
                  refine aw_inc (nI (i + 1)) dX10_wordsBy_130 rfl (Nat.le_of_ble_eq_true rfl) (nI_1 i) ?_
                  refine aw_goto dX10_wordsBy_133 ?_
                  have hin := (hp i hi).mp ⟨h_45, h_35⟩
                  have hE : endN wd 1 p i = false := by show decide (wd i 2 ≤ p) = _; first | exact decide_eq_true (by omega) | exact decide_eq_false (by omega)
                  have hG : begN wd 1 p i = true := by show decide (p ≤ wd i 0) = _; first | exact decide_eq_true (by omega) | exact decide_eq_false (by omega)
                  exact ih _ _ ⟨rfl, by rw [← bvW_s (d1 := false) (d2 := false) (d4 := true) (by unfold fB1; rw [hin, hE, hG]; rfl) (by unfold fB2; rw [hin, hE]; rfl) (by unfold fB4; rw [hin, hG]; rfl)]; rfl⟩
              · skip
                refine aw_ic (nI 2) dX10_wordsBy_100 (by decide) ?_
                refine aw_goto dX10_wordsBy_101 ?_
                refine aw_ior dX10_wordsBy_105 ?_
                refine aw_eq (show _ = bv (anyB (fB1 wd inn 1 p) i || false) (anyB (fB2 wd inn 1 p) i || true) (anyB (fB4 wd inn 1 p) i) from bv2 true _ _ _) ?_
                refine aw_istore dX10_wordsBy_106 (Nat.le_of_ble_eq_true rfl) ?_
                refine aw_iload dX10_wordsBy_108 rfl ?_
                refine aw_aload_n dX10_wordsBy_110 rfl ?_
                refine aw_iload dX10_wordsBy_111 rfl ?_
                refine aw_iload dX10_wordsBy_113 rfl ?_
                refine cqi2 dX10_wordsBy_115 km10_177 ok_X10_boxAt rfl rfl (by decide) k_176 (Nat.le_of_ble_eq_true rfl) ⟨Nat.le_of_ble_eq_true rfl, Nat.le_of_ble_eq_true rfl⟩ rfl rfl (ct_boxAt (r := i) (w := 0) (by omega)) ?_
                refine aw_eq (hw i 0 hi (by decide)) ?_
                refine aw_iload_n dX10_wordsBy_118 rfl ?_
                refine aw_icmp_ltN dX10_wordsBy_119 rfl rfl (by omega) (by omega) (fun h_119 => ?_) (fun h_119 => ?_)
                · skip
                  refine aw_ic (nI 0) dX10_wordsBy_126 (by decide) ?_
                  refine aw_ior dX10_wordsBy_127 ?_
                  refine aw_eq (show _ = bv (anyB (fB1 wd inn 1 p) i || false) (anyB (fB2 wd inn 1 p) i || true) (anyB (fB4 wd inn 1 p) i || false) from bv4 false _ _ _) ?_
                  refine aw_istore dX10_wordsBy_128 (Nat.le_of_ble_eq_true rfl) ?_
                  refine aw_inc (nI (i + 1)) dX10_wordsBy_130 rfl (Nat.le_of_ble_eq_true rfl) (nI_1 i) ?_
                  refine aw_goto dX10_wordsBy_133 ?_
                  have hin := (hp i hi).mp ⟨h_45, h_35⟩
                  have hE : endN wd 1 p i = true := by show decide (wd i 2 ≤ p) = _; first | exact decide_eq_true (by omega) | exact decide_eq_false (by omega)
                  have hG : begN wd 1 p i = false := by show decide (p ≤ wd i 0) = _; first | exact decide_eq_true (by omega) | exact decide_eq_false (by omega)
                  exact ih _ _ ⟨rfl, by rw [← bvW_s (d1 := false) (d2 := true) (d4 := false) (by unfold fB1; rw [hin, hE, hG]; rfl) (by unfold fB2; rw [hin, hE]; rfl) (by unfold fB4; rw [hin, hG]; rfl)]; rfl⟩
                · skip
                  refine aw_ic (nI 4) dX10_wordsBy_122 (by decide) ?_
                  refine aw_goto dX10_wordsBy_123 ?_
                  refine aw_ior dX10_wordsBy_127 ?_
                  refine aw_eq (show _ = bv (anyB (fB1 wd inn 1 p) i || false) (anyB (fB2 wd inn 1 p) i || true) (anyB (fB4 wd inn 1 p) i || true) from bv4 true _ _ _) ?_
                  refine aw_istore dX10_wordsBy_128 (Nat.le_of_ble_eq_true rfl) ?_
                  refine aw_inc (nI (i + 1)) dX10_wordsBy_130 rfl (Nat.le_of_ble_eq_true rfl) (nI_1 i) ?_
                  refine aw_goto dX10_wordsBy_133 ?_
                  have hin := (hp i hi).mp ⟨h_45, h_35⟩
                  have hE : endN wd 1 p i = true := by show decide (wd i 2 ≤ p) = _; first | exact decide_eq_true (by omega) | exact decide_eq_false (by omega)
                  have hG : begN wd 1 p i = true := by show decide (p ≤ wd i 0) = _; first | exact decide_eq_true (by omega) | exact decide_eq_false (by omega)
                  exact ih _ _ ⟨rfl, by rw [← bvW_s (d1 := false) (d2 := true) (d4 := true) (by unfold fB1; rw [hin, hE, hG]; rfl) (by unfold fB2; rw [hin, hE]; rfl) (by unfold fB4; rw [hin, hG]; rfl)]; rfl⟩
            · skip
              refine aw_ic (nI 1) dX10_wordsBy_76 (by decide) ?_
              refine aw_goto dX10_wordsBy_77 ?_
              refine aw_ior dX10_wordsBy_81 ?_
              refine aw_eq (show _ = bv (anyB (fB1 wd inn 1 p) i || true) (anyB (fB2 wd inn 1 p) i) (anyB (fB4 wd inn 1 p) i) from bv1 true _ _ _) ?_
              refine aw_istore dX10_wordsBy_82 (Nat.le_of_ble_eq_true rfl) ?_
              refine aw_iload dX10_wordsBy_84 rfl ?_
              refine aw_aload_n dX10_wordsBy_86 rfl ?_
              refine aw_iload dX10_wordsBy_87 rfl ?_
              refine aw_iload dX10_wordsBy_89 rfl ?_
              refine aw_ic (nI 2) dX10_wordsBy_91 (by decide) ?_
              refine aw_iadd dX10_wordsBy_92 ?_
              refine aw_eq (show _ = nI 2 by decide) ?_
              refine cqi2 dX10_wordsBy_93 km10_177 ok_X10_boxAt rfl rfl (by decide) k_176 (Nat.le_of_ble_eq_true rfl) ⟨Nat.le_of_ble_eq_true rfl, Nat.le_of_ble_eq_true rfl⟩ rfl rfl (ct_boxAt (r := i) (w := 2) (by omega)) ?_
              refine aw_eq (hw i 2 hi (by decide)) ?_
              refine aw_iload_n dX10_wordsBy_96 rfl ?_
              refine aw_icmp_gtN dX10_wordsBy_97 rfl rfl (by omega) (by omega) (fun h_97 => ?_) (fun h_97 => ?_)
              · skip
                refine aw_ic (nI 0) dX10_wordsBy_104 (by decide) ?_
                refine aw_ior dX10_wordsBy_105 ?_
                refine aw_eq (show _ = bv (anyB (fB1 wd inn 1 p) i || true) (anyB (fB2 wd inn 1 p) i || false) (anyB (fB4 wd inn 1 p) i) from bv2 false _ _ _) ?_
                refine aw_istore dX10_wordsBy_106 (Nat.le_of_ble_eq_true rfl) ?_
                refine aw_iload dX10_wordsBy_108 rfl ?_
                refine aw_aload_n dX10_wordsBy_110 rfl ?_
                refine aw_iload dX10_wordsBy_111 rfl ?_
                refine aw_iload dX10_wordsBy_113 rfl ?_
                refine cqi2 dX10_wordsBy_115 km10_177 ok_X10_boxAt rfl rfl (by decide) k_176 (Nat.le_of_ble_eq_true rfl) ⟨Nat.le_of_ble_eq_true rfl, Nat.le_of_ble_eq_true rfl⟩ rfl rfl (ct_boxAt (r := i) (w := 0) (by omega)) ?_
                refine aw_eq (hw i 0 hi (by decide)) ?_
                refine aw_iload_n dX10_wordsBy_118 rfl ?_
                refine aw_icmp_ltN dX10_wordsBy_119 rfl rfl (by omega) (by omega) (fun h_119 => ?_) (fun h_119 => ?_)
                · skip
                  refine aw_ic (nI 0) dX10_wordsBy_126 (by decide) ?_
                  refine aw_ior dX10_wordsBy_127 ?_
                  refine aw_eq (show _ = bv (anyB (fB1 wd inn 1 p) i || true) (anyB (fB2 wd inn 1 p) i || false) (anyB (fB4 wd inn 1 p) i || false) from bv4 false _ _ _) ?_
                  refine aw_istore dX10_wordsBy_128 (Nat.le_of_ble_eq_true rfl) ?_
                  refine aw_inc (nI (i + 1)) dX10_wordsBy_130 rfl (Nat.le_of_ble_eq_true rfl) (nI_1 i) ?_
                  refine aw_goto dX10_wordsBy_133 ?_
                  have hin := (hp i hi).mp ⟨h_45, h_35⟩
                  have hE : endN wd 1 p i = false := by show decide (wd i 2 ≤ p) = _; first | exact decide_eq_true (by omega) | exact decide_eq_false (by omega)
                  have hG : begN wd 1 p i = false := by show decide (p ≤ wd i 0) = _; first | exact decide_eq_true (by omega) | exact decide_eq_false (by omega)
                  exact ih _ _ ⟨rfl, by rw [← bvW_s (d1 := true) (d2 := false) (d4 := false) (by unfold fB1; rw [hin, hE, hG]; rfl) (by unfold fB2; rw [hin, hE]; rfl) (by unfold fB4; rw [hin, hG]; rfl)]; rfl⟩
                · skip
                  refine aw_ic (nI 4) dX10_wordsBy_122 (by decide) ?_
                  refine aw_goto dX10_wordsBy_123 ?_
                  refine aw_ior dX10_wordsBy_127 ?_
                  refine aw_eq (show _ = bv (anyB (fB1 wd inn 1 p) i || true) (anyB (fB2 wd inn 1 p) i || false) (anyB (fB4 wd inn 1 p) i || true) from bv4 true _ _ _) ?_
                  refine aw_istore dX10_wordsBy_128 (Nat.le_of_ble_eq_true rfl) ?_
                  refine aw_inc (nI (i + 1)) dX10_wordsBy_130 rfl (Nat.le_of_ble_eq_true rfl) (nI_1 i) ?_
                  refine aw_goto dX10_wordsBy_133 ?_
                  exact absurd (show False by omega) id
              · skip
                refine aw_ic (nI 2) dX10_wordsBy_100 (by decide) ?_
                refine aw_goto dX10_wordsBy_101 ?_
                refine aw_ior dX10_wordsBy_105 ?_
                refine aw_eq (show _ = bv (anyB (fB1 wd inn 1 p) i || true) (anyB (fB2 wd inn 1 p) i || true) (anyB (fB4 wd inn 1 p) i) from bv2 true _ _ _) ?_
                refine aw_istore dX10_wordsBy_106 (Nat.le_of_ble_eq_true rfl) ?_
                refine aw_iload dX10_wordsBy_108 rfl ?_
                refine aw_aload_n dX10_wordsBy_110 rfl ?_
                refine aw_iload dX10_wordsBy_111 rfl ?_
                refine aw_iload dX10_wordsBy_113 rfl ?_
                refine cqi2 dX10_wordsBy_115 km10_177 ok_X10_boxAt rfl rfl (by decide) k_176 (Nat.le_of_ble_eq_true rfl) ⟨Nat.le_of_ble_eq_true rfl, Nat.le_of_ble_eq_true rfl⟩ rfl rfl (ct_boxAt (r := i) (w := 0) (by omega)) ?_
                refine aw_eq (hw i 0 hi (by decide)) ?_
                refine aw_iload_n dX10_wordsBy_118 rfl ?_
                refine aw_icmp_ltN dX10_wordsBy_119 rfl rfl (by omega) (by omega) (fun h_119 => ?_) (fun h_119 => ?_)
                · skip
                  refine aw_ic (nI 0) dX10_wordsBy_126 (by decide) ?_
                  refine aw_ior dX10_wordsBy_127 ?_
                  refine aw_eq (show _ = bv (anyB (fB1 wd inn 1 p) i || true) (anyB (fB2 wd inn 1 p) i || true) (anyB (fB4 wd inn 1 p) i || false) from bv4 false _ _ _) ?_
                  refine aw_istore dX10_wordsBy_128 (Nat.le_of_ble_eq_true rfl) ?_
                  refine aw_inc (nI (i + 1)) dX10_wordsBy_130 rfl (Nat.le_of_ble_eq_true rfl) (nI_1 i) ?_
                  refine aw_goto dX10_wordsBy_133 ?_
                  exact absurd (show False by omega) id
                · skip
                  refine aw_ic (nI 4) dX10_wordsBy_122 (by decide) ?_
                  refine aw_goto dX10_wordsBy_123 ?_
                  refine aw_ior dX10_wordsBy_127 ?_
                  refine aw_eq (show _ = bv (anyB (fB1 wd inn 1 p) i || true) (anyB (fB2 wd inn 1 p) i || true) (anyB (fB4 wd inn 1 p) i || true) from bv4 true _ _ _) ?_
                  refine aw_istore dX10_wordsBy_128 (Nat.le_of_ble_eq_true rfl) ?_
                  refine aw_inc (nI (i + 1)) dX10_wordsBy_130 rfl (Nat.le_of_ble_eq_true rfl) (nI_1 i) ?_
                  refine aw_goto dX10_wordsBy_133 ?_
                  exact absurd (show False by omega) id
    · rintro σ2 lv2 ⟨rfl, rfl⟩
      refine aw_iload dX10_wordsBy_18 rfl ?_
      refine aw_aload_n dX10_wordsBy_20 rfl ?_
      refine gf10_boxMany dX10_wordsBy_21 kf10_92 k_176 ?_
      refine aw_eq hcw ?_
      refine aw_icmp_geN dX10_wordsBy_24 rfl rfl (by omega) (by omega) (fun h_24 => ?_) (fun h_24 => absurd h_24 (by omega))
      refine aw_iload dX10_wordsBy_136 rfl ?_
      exact aw_ireti dX10_wordsBy_138 (⟨rfl, rfl⟩)

/-- what is noted of the missed ones so far -/
def MsN (J : Nat → Nat → Int32) (CF : Nat) (k : Int32) (l : List (Nat × Nat × Nat)) : Prop := J 339 176 = nI l.length ∧ ∀ i e, l[i]? = some e → nI i = k → J 340 176 = nI (CF + e.1) ∧ J 341 176 = nI e.2.1 ∧ J 342 176 = nI e.2.2
def MsF (I J : Nat → Nat → Int32) : Prop := ∀ f q, (f < 339 ∨ 342 < f ∨ q ≠ 176) → J f q = I f q
theorem MsF.put {I J : Nat → Nat → Int32} (h : MsF I J) {f : Nat} (hf : 339 ≤ f ∧ f ≤ 342) (v : Int32) : MsF I (uI J f 176 v) := fun f' q hq => by
  unfold uI
  rw [if_neg (by omega)]
  exact h f' q hq
theorem MsN.no {J : Nat → Nat → Int32} {CF : Nat} {k : Int32} {l : List (Nat × Nat × Nat)} (h : MsN J CF k l) (e : Nat × Nat × Nat) (hk : ¬ nI l.length = k) : MsN (uI (uI (uI (uI J 340 176 (J 340 176)) 341 176 (J 341 176)) 342 176 (J 342 176)) 339 176 (nI (l.length + 1))) CF k (l ++ [e]) := by
  rw [uI_same, uI_same, uI_same]
  refine ⟨by rw [uI_s, List.length_append]; rfl, fun i x hx hi => ?_⟩
  rw [uI_f (by decide), uI_f (by decide), uI_f (by decide)]
  refine h.2 i x ?_ hi
  rw [List.getElem?_append] at hx
  by_cases z : i < l.length
  · rw [if_pos z] at hx
    exact hx
  · rw [if_neg z] at hx
    have : i - l.length = 0 := by
      rcases Nat.eq_zero_or_pos (i - l.length) with y | y
      · exact y
      · rw [List.getElem?_eq_none (by simp; omega)] at hx
        cases hx
    rw [show i = l.length by omega] at hi
    exact absurd hi hk
theorem MsN.yes {J : Nat → Nat → Int32} {CF : Nat} {k : Int32} {l : List (Nat × Nat × Nat)} {q w ln : Nat} (h : MsN J CF k l) (hb : l.length < 2 ^ 31) (hk : nI l.length = k) : MsN (uI (uI (uI (uI J 340 176 (nI (CF + q))) 341 176 (nI w)) 342 176 (nI ln)) 339 176 (nI (l.length + 1))) CF k (l ++ [(q, w, ln)]) := by
  refine ⟨by rw [uI_s, List.length_append]; rfl, fun i x hx hi => ?_⟩
  rw [uI_f (by decide), uI_f (by decide), uI_f (by decide), uI_s, uI_f (by decide), uI_f (by decide), uI_s, uI_f (by decide), uI_s]
  rw [List.getElem?_append] at hx
  by_cases z : i < l.length
  · have := congrArg Int32.toInt (hi.trans hk.symm)
    rw [nI_toInt (by omega), nI_toInt hb] at this
    omega
  · rw [if_neg z] at hx
    have h0 : i - l.length = 0 := by
      rcases Nat.eq_zero_or_pos (i - l.length) with y | y
      · exact y
      · rw [List.getElem?_eq_none (by simp; omega)] at hx
        cases hx
    rw [h0] at hx
    cases hx
    exact ⟨rfl, rfl, rfl⟩
theorem misL_s {kc : Nat → Bool} {q w a n : Nat} : misL kc q w a (n + 1) = misL kc q w a n ++ (if kc (a + n) = true then [(q, w, a + n)] else []) := rfl
set_option maxHeartbeats 4000000 in
set_option maxRecDepth 100000 in
theorem ct_missBy {g : GG} {σ : SG} {t q w a s CF nw : Nat} {k : Int32} {l : List (Nat × Nat × Nat)} {pl : Nat → Nat} {wd : Nat → Nat → Nat} {inn : Nat → Bool} (ht : t < 6) (hcq : CF + q < 121) (hw2 : w < 2) (hca : σ.2.1 188 (6 * (CF + q) + w) = nI a) (hcs : σ.2.1 188 (6 * (CF + q) + (2 + w)) = nI s) (hs1 : 1 ≤ s) (hsb : a + s ≤ 21) (hl : ∀ k, k ≤ 21 → k < a + s → σ.2.1 183 (44 * t + 22 * w + k) = nI (pl k)) (hpb : ∀ k, pl k ≤ 99) (hcw : σ.1 323 176 = nI nw) (hnw : nw ≤ 20) (hw : ∀ p k, p < nw → k < 4 → σ.2.1 178 (4 * p + k) = nI (wd p k)) (hwb : ∀ p k, wd p k ≤ 99) (hp : ∀ y, y < nw → ((¬ σ.2.1 189 y < 0 ∧ σ.2.1 190 y = nI (CF + q)) ↔ inn y = true)) (hN : MsN σ.1 CF k l) (hlb : l.length ≤ 2000) : Ctv g yX10_missBy cX10_missBy 8 (rmm 2 48) [.ref (ad g 176), .int (nI t), .int (nI (CF + q)), .int (nI w), .int k] σ (fun σ' => ∃ J, σ' = (J, σ.2.1, σ.2.2) ∧ MsF σ.1 J ∧ MsN J CF k (l ++ misL (fun l => kcN wd inn nw w (pl l)) q w (a + 1) (s - 1))) := by
  refine ct_of (own := RX10) (lv := [some (.ref (ad g 176)), some (.int (nI t)), some (.int (nI (CF + q))), some (.int (nI w)), some (.int k), none, none, none]) rfl (by decide) (Nat.le_of_ble_eq_true rfl) (by intro u hu; simp only [List.mem_cons, List.not_mem_nil, or_false] at hu; rcases hu with rfl | rfl | rfl | rfl | rfl <;> rfl) (lv_ok [.ref (ad g 176), .int (nI t), .int (nI (CF + q)), .int (nI w), .int k] 3) ?_
  rcases (by omega : w = 0 ∨ w = 1) with rfl | rfl
  · skip
    refine aw_aload_n dX10_missBy_0 rfl ?_
    refine aw_iload_n dX10_missBy_1 rfl ?_
    refine aw_iload_n dX10_missBy_2 rfl ?_
    refine aw_ic (nI 1) dX10_missBy_3 (by decide) ?_
    refine aw_icmp_neN dX10_missBy_4 (a := 0) rfl (b := 1) rfl (by decide) (by decide) (fun h_4 => ?_) (fun h_4 => absurd h_4 (by omega))
    refine aw_ic (nI 0) dX10_missBy_11 (by decide) ?_
    refine cqi2 dX10_missBy_12 km10_174 ok_X10_cellAt rfl rfl (by decide) k_176 (Nat.le_of_ble_eq_true rfl) ⟨Nat.le_of_ble_eq_true rfl, Nat.le_of_ble_eq_true rfl⟩ rfl rfl (ct_cellAt (r := CF + q) (w := 0) (by omega)) ?_
    refine aw_eq hca ?_
    refine aw_istore dX10_missBy_15 (Nat.le_of_ble_eq_true rfl) ?_
    refine aw_aload_n dX10_missBy_17 rfl ?_
    refine aw_iload_n dX10_missBy_18 rfl ?_
    refine aw_iload_n dX10_missBy_19 rfl ?_
    refine aw_ic (nI 1) dX10_missBy_20 (by decide) ?_
    refine aw_icmp_neN dX10_missBy_21 (a := 0) rfl (b := 1) rfl (by decide) (by decide) (fun h_21 => ?_) (fun h_21 => absurd h_21 (by omega))
    refine aw_ic (nI 2) dX10_missBy_28 (by decide) ?_
    refine cqi2 dX10_missBy_29 km10_174 ok_X10_cellAt rfl rfl (by decide) k_176 (Nat.le_of_ble_eq_true rfl) ⟨Nat.le_of_ble_eq_true rfl, Nat.le_of_ble_eq_true rfl⟩ rfl rfl (ct_cellAt (r := CF + q) (w := 2) (by omega)) ?_
    refine aw_eq hcs ?_
    refine aw_istore dX10_missBy_32 (Nat.le_of_ble_eq_true rfl) ?_
    refine aw_iload dX10_missBy_34 rfl ?_
    refine aw_ic (nI 1) dX10_missBy_36 (by decide) ?_
    refine aw_iadd dX10_missBy_37 ?_
    refine aw_eq (show _ = nI (a + 1 + 0) by rw [nI_add]) ?_
    refine aw_istore dX10_missBy_38 (Nat.le_of_ble_eq_true rfl) ?_
    refine for_ux (fun i σ' lv' => ∃ J, σ' = (J, σ.2.1, σ.2.2) ∧ MsF σ.1 J ∧ MsN J CF k (l ++ misL (fun l => kcN wd inn nw 0 (pl l)) q 0 (a + 1) i) ∧ lv' = [some (.ref (ad g 176)), some (.int (nI t)), some (.int (nI (CF + q))), some (.int (nI 0)), some (.int k), some (.int (nI a)), some (.int (nI s)), some (.int (nI (a + 1 + i)))]) (s - 1) ?_ ?_ (0) _ _ (by omega) (⟨σ.1, rfl, fun _ _ _ => rfl, by rw [show misL (fun l => kcN wd inn nw 0 (pl l)) q 0 (a + 1) 0 = [] from rfl, List.append_nil]; exact hN, rfl⟩)
    · rintro i σ2 lv2 hi ⟨J, rfl, hM, hN, rfl⟩ ih
      have hlen : (l ++ misL (fun l => kcN wd inn nw 0 (pl l)) q 0 (a + 1) i).length ≤ 2000 + 30 := by rw [List.length_append]; have := misL_le (fun l => kcN wd inn nw 0 (pl l)) q 0 (a + 1) i; omega
      by_cases hy : kcN wd inn nw 0 (pl (a + 1 + i)) = true
      · skip
        by_cases hk : nI (l ++ misL (fun l => kcN wd inn nw 0 (pl l)) q 0 (a + 1) i).length = k
        · skip
          refine aw_iload dX10_missBy_40 rfl ?_
          refine aw_iload dX10_missBy_42 rfl ?_
          refine aw_iload dX10_missBy_44 rfl ?_
          refine aw_iadd dX10_missBy_46 ?_
          refine aw_eq (nI_add _ _) ?_
          refine aw_icmp_geN dX10_missBy_47 rfl rfl (by omega) (by omega) (fun h_47 => absurd h_47 (by omega)) (fun h_47 => ?_)
          refine aw_aload_n dX10_missBy_50 rfl ?_
          refine aw_iload_n dX10_missBy_51 rfl ?_
          refine aw_iload_n dX10_missBy_52 rfl ?_
          refine aw_aload_n dX10_missBy_53 rfl ?_
          refine aw_iload_n dX10_missBy_54 rfl ?_
          refine aw_iload_n dX10_missBy_55 rfl ?_
          refine aw_iload dX10_missBy_56 rfl ?_
          refine cqi3 dX10_missBy_58 km10_155 ok_X10_lineAt rfl rfl (by decide) k_176 (Nat.le_of_ble_eq_true rfl) ⟨Nat.le_of_ble_eq_true rfl, Nat.le_of_ble_eq_true rfl⟩ rfl rfl (ct_lineAt (t := t) (w := 0) (k := a + 1 + i) (by omega)) ?_
          refine aw_eq (hl (a + 1 + i) (by omega) (by omega)) ?_
          refine cqi3 dX10_missBy_61 km10_208 ok_X10_wordsBy rfl rfl (by decide) k_176 (Nat.le_of_ble_eq_true rfl) ⟨Nat.le_of_ble_eq_true rfl, Nat.le_of_ble_eq_true rfl⟩ rfl rfl (ct_wordsBy (w := 0) (p := pl (a + 1 + i)) ((hM _ _ (Or.inl (by decide))).trans hcw) hnw hw hwb hp (by decide) (hpb _)) ?_
          refine aw_bi (nI 6) dX10_missBy_64 (by decide) ?_
          refine aw_icmp_ne dX10_missBy_66 (fun h_66 => absurd h_66 (not_not_intro (bvW_6.mpr hy))) (fun h_66 => ?_)
          refine aw_aload_n dX10_missBy_69 rfl ?_
          refine aw_aload_n dX10_missBy_70 rfl ?_
          refine gf10_missedMany dX10_missBy_71 kf10_211 k_176 ?_
          refine aw_eq (show _ = nI (l ++ misL (fun l => kcN wd inn nw 0 (pl l)) q 0 (a + 1) i).length from hN.1) ?_
          refine aw_iload dX10_missBy_74 rfl ?_
          refine aw_icmp_ne dX10_missBy_76 (fun h_76 => absurd h_76 (not_not_intro hk)) (fun h_76 => ?_)
          refine aw_iload_n dX10_missBy_79 rfl ?_
          refine aw_goto dX10_missBy_80 ?_
          refine pf10_missedCell dX10_missBy_87 kf10_214 k_176 ?_
          refine aw_aload_n dX10_missBy_90 rfl ?_
          refine aw_aload_n dX10_missBy_91 rfl ?_
          refine gf10_missedMany dX10_missBy_92 kf10_211 k_176 ?_
          refine aw_eq (show _ = nI (l ++ misL (fun l => kcN wd inn nw 0 (pl l)) q 0 (a + 1) i).length from (uI_f (by decide)).trans hN.1) ?_
          refine aw_iload dX10_missBy_95 rfl ?_
          refine aw_icmp_ne dX10_missBy_97 (fun h_97 => absurd h_97 (not_not_intro hk)) (fun h_97 => ?_)
          refine aw_iload_n dX10_missBy_100 rfl ?_
          refine aw_goto dX10_missBy_101 ?_
          refine pf10_missedWay dX10_missBy_108 kf10_217 k_176 ?_
          refine aw_aload_n dX10_missBy_111 rfl ?_
          refine aw_aload_n dX10_missBy_112 rfl ?_
          refine gf10_missedMany dX10_missBy_113 kf10_211 k_176 ?_
          refine aw_eq (show _ = nI (l ++ misL (fun l => kcN wd inn nw 0 (pl l)) q 0 (a + 1) i).length from (uI_f (by decide)).trans ((uI_f (by decide)).trans hN.1)) ?_
          refine aw_iload dX10_missBy_116 rfl ?_
          refine aw_icmp_ne dX10_missBy_118 (fun h_118 => absurd h_118 (not_not_intro hk)) (fun h_118 => ?_)
          refine aw_iload dX10_missBy_121 rfl ?_
          refine aw_goto dX10_missBy_123 ?_
          refine pf10_missedLine dX10_missBy_130 kf10_220 k_176 ?_
          refine aw_aload_n dX10_missBy_133 rfl ?_
          refine aw_dup dX10_missBy_134 rfl ?_
          refine gf10_missedMany dX10_missBy_135 kf10_211 k_176 ?_
          refine aw_eq (show _ = nI (l ++ misL (fun l => kcN wd inn nw 0 (pl l)) q 0 (a + 1) i).length from (uI_f (by decide)).trans ((uI_f (by decide)).trans ((uI_f (by decide)).trans hN.1))) ?_
          refine aw_ic (nI 1) dX10_missBy_138 (by decide) ?_
          refine aw_iadd dX10_missBy_139 ?_
          refine aw_eq (nI_add _ _) ?_
          refine pf10_missedMany dX10_missBy_140 kf10_211 k_176 ?_
          refine aw_inc (nI (a + 1 + (i + 1))) dX10_missBy_143 rfl (Nat.le_of_ble_eq_true rfl) (nI_1 _) ?_
          refine aw_goto dX10_missBy_146 ?_
          exact ih _ _ ⟨_, rfl, ((((hM.put (f := 340) (by decide) _).put (f := 341) (by decide) _).put (f := 342) (by decide) _).put (f := 339) (by decide) _), by rw [misL_s, if_pos (show (fun l => kcN wd inn nw 0 (pl l)) (a + 1 + i) = true from hy), ← List.append_assoc]; exact hN.yes (by omega) hk, rfl⟩
        · skip
          refine aw_iload dX10_missBy_40 rfl ?_
          refine aw_iload dX10_missBy_42 rfl ?_
          refine aw_iload dX10_missBy_44 rfl ?_
          refine aw_iadd dX10_missBy_46 ?_
          refine aw_eq (nI_add _ _) ?_
          refine aw_icmp_geN dX10_missBy_47 rfl rfl (by omega) (by omega) (fun h_47 => absurd h_47 (by omega)) (fun h_47 => ?_)
          refine aw_aload_n dX10_missBy_50 rfl ?_
          refine aw_iload_n dX10_missBy_51 rfl ?_
          refine aw_iload_n dX10_missBy_52 rfl ?_
          refine aw_aload_n dX10_missBy_53 rfl ?_
          refine aw_iload_n dX10_missBy_54 rfl ?_
          refine aw_iload_n dX10_missBy_55 rfl ?_
          refine aw_iload dX10_missBy_56 rfl ?_
          refine cqi3 dX10_missBy_58 km10_155 ok_X10_lineAt rfl rfl (by decide) k_176 (Nat.le_of_ble_eq_true rfl) ⟨Nat.le_of_ble_eq_true rfl, Nat.le_of_ble_eq_true rfl⟩ rfl rfl (ct_lineAt (t := t) (w := 0) (k := a + 1 + i) (by omega)) ?_
          refine aw_eq (hl (a + 1 + i) (by omega) (by omega)) ?_
          refine cqi3 dX10_missBy_61 km10_208 ok_X10_wordsBy rfl rfl (by decide) k_176 (Nat.le_of_ble_eq_true rfl) ⟨Nat.le_of_ble_eq_true rfl, Nat.le_of_ble_eq_true rfl⟩ rfl rfl (ct_wordsBy (w := 0) (p := pl (a + 1 + i)) ((hM _ _ (Or.inl (by decide))).trans hcw) hnw hw hwb hp (by decide) (hpb _)) ?_
          refine aw_bi (nI 6) dX10_missBy_64 (by decide) ?_
          refine aw_icmp_ne dX10_missBy_66 (fun h_66 => absurd h_66 (not_not_intro (bvW_6.mpr hy))) (fun h_66 => ?_)
          refine aw_aload_n dX10_missBy_69 rfl ?_
          refine aw_aload_n dX10_missBy_70 rfl ?_
          refine gf10_missedMany dX10_missBy_71 kf10_211 k_176 ?_
          refine aw_eq (show _ = nI (l ++ misL (fun l => kcN wd inn nw 0 (pl l)) q 0 (a + 1) i).length from hN.1) ?_
          refine aw_iload dX10_missBy_74 rfl ?_
          refine aw_icmp_ne dX10_missBy_76 (fun h_76 => ?_) (fun h_76 => absurd h_76 (hk))
          refine aw_aload_n dX10_missBy_83 rfl ?_
          refine gf10_missedCell dX10_missBy_84 kf10_214 k_176 ?_
          refine pf10_missedCell dX10_missBy_87 kf10_214 k_176 ?_
          refine aw_aload_n dX10_missBy_90 rfl ?_
          refine aw_aload_n dX10_missBy_91 rfl ?_
          refine gf10_missedMany dX10_missBy_92 kf10_211 k_176 ?_
          refine aw_eq (show _ = nI (l ++ misL (fun l => kcN wd inn nw 0 (pl l)) q 0 (a + 1) i).length from (uI_f (by decide)).trans hN.1) ?_
          refine aw_iload dX10_missBy_95 rfl ?_
          refine aw_icmp_ne dX10_missBy_97 (fun h_97 => ?_) (fun h_97 => absurd h_97 (hk))
          refine aw_aload_n dX10_missBy_104 rfl ?_
          refine gf10_missedWay dX10_missBy_105 kf10_217 k_176 ?_
          refine aw_eq (uI_f (by decide)) ?_
          refine pf10_missedWay dX10_missBy_108 kf10_217 k_176 ?_
          refine aw_aload_n dX10_missBy_111 rfl ?_
          refine aw_aload_n dX10_missBy_112 rfl ?_
          refine gf10_missedMany dX10_missBy_113 kf10_211 k_176 ?_
          refine aw_eq (show _ = nI (l ++ misL (fun l => kcN wd inn nw 0 (pl l)) q 0 (a + 1) i).length from (uI_f (by decide)).trans ((uI_f (by decide)).trans hN.1)) ?_
          refine aw_iload dX10_missBy_116 rfl ?_
          refine aw_icmp_ne dX10_missBy_118 (fun h_118 => ?_) (fun h_118 => absurd h_118 (hk))
          refine aw_aload_n dX10_missBy_126 rfl ?_
          refine gf10_missedLine dX10_missBy_127 kf10_220 k_176 ?_
          refine aw_eq ((uI_f (by decide)).trans (uI_f (by decide))) ?_
          refine pf10_missedLine dX10_missBy_130 kf10_220 k_176 ?_
          refine aw_aload_n dX10_missBy_133 rfl ?_
          refine aw_dup dX10_missBy_134 rfl ?_
          refine gf10_missedMany dX10_missBy_135 kf10_211 k_176 ?_
          refine aw_eq (show _ = nI (l ++ misL (fun l => kcN wd inn nw 0 (pl l)) q 0 (a + 1) i).length from (uI_f (by decide)).trans ((uI_f (by decide)).trans ((uI_f (by decide)).trans hN.1))) ?_
          refine aw_ic (nI 1) dX10_missBy_138 (by decide) ?_
          refine aw_iadd dX10_missBy_139 ?_
          refine aw_eq (nI_add _ _) ?_
          refine pf10_missedMany dX10_missBy_140 kf10_211 k_176 ?_
          refine aw_inc (nI (a + 1 + (i + 1))) dX10_missBy_143 rfl (Nat.le_of_ble_eq_true rfl) (nI_1 _) ?_
          refine aw_goto dX10_missBy_146 ?_
          exact ih _ _ ⟨_, rfl, ((((hM.put (f := 340) (by decide) _).put (f := 341) (by decide) _).put (f := 342) (by decide) _).put (f := 339) (by decide) _), by rw [misL_s, if_pos (show (fun l => kcN wd inn nw 0 (pl l)) (a + 1 + i) = true from hy), ← List.append_assoc]; exact hN.no (q, 0, a + 1 + i) hk, rfl⟩
      · skip
        refine aw_iload dX10_missBy_40 rfl ?_
        refine aw_iload dX10_missBy_42 rfl ?_
        refine aw_iload dX10_missBy_44 rfl ?_
        refine aw_iadd dX10_missBy_46 ?_
        refine aw_eq (nI_add _ _) ?_
        refine aw_icmp_geN dX10_missBy_47 rfl rfl (by omega) (by omega) (fun h_47 => absurd h_47 (by omega)) (fun h_47 => ?_)
        refine aw_aload_n dX10_missBy_50 rfl ?_
        refine aw_iload_n dX10_missBy_51 rfl ?_
        refine aw_iload_n dX10_missBy_52 rfl ?_
        refine aw_aload_n dX10_missBy_53 rfl ?_
        refine aw_iload_n dX10_missBy_54 rfl ?_
        refine aw_iload_n dX10_missBy_55 rfl ?_
        refine aw_iload dX10_missBy_56 rfl ?_
        refine cqi3 dX10_missBy_58 km10_155 ok_X10_lineAt rfl rfl (by decide) k_176 (Nat.le_of_ble_eq_true rfl) ⟨Nat.le_of_ble_eq_true rfl, Nat.le_of_ble_eq_true rfl⟩ rfl rfl (ct_lineAt (t := t) (w := 0) (k := a + 1 + i) (by omega)) ?_
        refine aw_eq (hl (a + 1 + i) (by omega) (by omega)) ?_
        refine cqi3 dX10_missBy_61 km10_208 ok_X10_wordsBy rfl rfl (by decide) k_176 (Nat.le_of_ble_eq_true rfl) ⟨Nat.le_of_ble_eq_true rfl, Nat.le_of_ble_eq_true rfl⟩ rfl rfl (ct_wordsBy (w := 0) (p := pl (a + 1 + i)) ((hM _ _ (Or.inl (by decide))).trans hcw) hnw hw hwb hp (by decide) (hpb _)) ?_
        refine aw_bi (nI 6) dX10_missBy_64 (by decide) ?_
        refine aw_icmp_ne dX10_missBy_66 (fun h_66 => ?_) (fun h_66 => absurd h_66 (fun z => hy (bvW_6.mp z)))
        refine aw_inc (nI (a + 1 + (i + 1))) dX10_missBy_143 rfl (Nat.le_of_ble_eq_true rfl) (nI_1 _) ?_
        refine aw_goto dX10_missBy_146 ?_
        exact ih _ _ ⟨J, rfl, hM, by rw [misL_s, if_neg (show ¬ (fun l => kcN wd inn nw 0 (pl l)) (a + 1 + i) = true from hy), List.append_nil]; exact hN, rfl⟩
    · rintro σ2 lv2 ⟨J, rfl, hM, hN, rfl⟩
      refine aw_iload dX10_missBy_40 rfl ?_
      refine aw_iload dX10_missBy_42 rfl ?_
      refine aw_iload dX10_missBy_44 rfl ?_
      refine aw_iadd dX10_missBy_46 ?_
      refine aw_eq (nI_add _ _) ?_
      refine aw_icmp_geN dX10_missBy_47 rfl rfl (by omega) (by omega) (fun h_47 => ?_) (fun h_47 => absurd h_47 (by omega))
      exact aw_ret dX10_missBy_149 (⟨J, rfl, hM, hN⟩)
  · skip
    refine aw_aload_n dX10_missBy_0 rfl ?_
    refine aw_iload_n dX10_missBy_1 rfl ?_
    refine aw_iload_n dX10_missBy_2 rfl ?_
    refine aw_ic (nI 1) dX10_missBy_3 (by decide) ?_
    refine aw_icmp_neN dX10_missBy_4 (a := 1) rfl (b := 1) rfl (by decide) (by decide) (fun h_4 => absurd h_4 (by omega)) (fun h_4 => ?_)
    refine aw_ic (nI 1) dX10_missBy_7 (by decide) ?_
    refine aw_goto dX10_missBy_8 ?_
    refine cqi2 dX10_missBy_12 km10_174 ok_X10_cellAt rfl rfl (by decide) k_176 (Nat.le_of_ble_eq_true rfl) ⟨Nat.le_of_ble_eq_true rfl, Nat.le_of_ble_eq_true rfl⟩ rfl rfl (ct_cellAt (r := CF + q) (w := 1) (by omega)) ?_
    refine aw_eq hca ?_
    refine aw_istore dX10_missBy_15 (Nat.le_of_ble_eq_true rfl) ?_
    refine aw_aload_n dX10_missBy_17 rfl ?_
    refine aw_iload_n dX10_missBy_18 rfl ?_
    refine aw_iload_n dX10_missBy_19 rfl ?_
    refine aw_ic (nI 1) dX10_missBy_20 (by decide) ?_
    refine aw_icmp_neN dX10_missBy_21 (a := 1) rfl (b := 1) rfl (by decide) (by decide) (fun h_21 => absurd h_21 (by omega)) (fun h_21 => ?_)
    refine aw_ic (nI 3) dX10_missBy_24 (by decide) ?_
    refine aw_goto dX10_missBy_25 ?_
    refine cqi2 dX10_missBy_29 km10_174 ok_X10_cellAt rfl rfl (by decide) k_176 (Nat.le_of_ble_eq_true rfl) ⟨Nat.le_of_ble_eq_true rfl, Nat.le_of_ble_eq_true rfl⟩ rfl rfl (ct_cellAt (r := CF + q) (w := 3) (by omega)) ?_
    refine aw_eq hcs ?_
    refine aw_istore dX10_missBy_32 (Nat.le_of_ble_eq_true rfl) ?_
    refine aw_iload dX10_missBy_34 rfl ?_
    refine aw_ic (nI 1) dX10_missBy_36 (by decide) ?_
    refine aw_iadd dX10_missBy_37 ?_
    refine aw_eq (show _ = nI (a + 1 + 0) by rw [nI_add]) ?_
    refine aw_istore dX10_missBy_38 (Nat.le_of_ble_eq_true rfl) ?_
    refine for_ux (fun i σ' lv' => ∃ J, σ' = (J, σ.2.1, σ.2.2) ∧ MsF σ.1 J ∧ MsN J CF k (l ++ misL (fun l => kcN wd inn nw 1 (pl l)) q 1 (a + 1) i) ∧ lv' = [some (.ref (ad g 176)), some (.int (nI t)), some (.int (nI (CF + q))), some (.int (nI 1)), some (.int k), some (.int (nI a)), some (.int (nI s)), some (.int (nI (a + 1 + i)))]) (s - 1) ?_ ?_ (0) _ _ (by omega) (⟨σ.1, rfl, fun _ _ _ => rfl, by rw [show misL (fun l => kcN wd inn nw 1 (pl l)) q 1 (a + 1) 0 = [] from rfl, List.append_nil]; exact hN, rfl⟩)
    · rintro i σ2 lv2 hi ⟨J, rfl, hM, hN, rfl⟩ ih
      have hlen : (l ++ misL (fun l => kcN wd inn nw 1 (pl l)) q 1 (a + 1) i).length ≤ 2000 + 30 := by rw [List.length_append]; have := misL_le (fun l => kcN wd inn nw 1 (pl l)) q 1 (a + 1) i; omega
      by_cases hy : kcN wd inn nw 1 (pl (a + 1 + i)) = true
      · skip
        by_cases hk : nI (l ++ misL (fun l => kcN wd inn nw 1 (pl l)) q 1 (a + 1) i).length = k
        · skip
          refine aw_iload dX10_missBy_40 rfl ?_
          refine aw_iload dX10_missBy_42 rfl ?_
          refine aw_iload dX10_missBy_44 rfl ?_
          refine aw_iadd dX10_missBy_46 ?_
          refine aw_eq (nI_add _ _) ?_
          refine aw_icmp_geN dX10_missBy_47 rfl rfl (by omega) (by omega) (fun h_47 => absurd h_47 (by omega)) (fun h_47 => ?_)
          refine aw_aload_n dX10_missBy_50 rfl ?_
          refine aw_iload_n dX10_missBy_51 rfl ?_
          refine aw_iload_n dX10_missBy_52 rfl ?_
          refine aw_aload_n dX10_missBy_53 rfl ?_
          refine aw_iload_n dX10_missBy_54 rfl ?_
          refine aw_iload_n dX10_missBy_55 rfl ?_
          refine aw_iload dX10_missBy_56 rfl ?_
          refine cqi3 dX10_missBy_58 km10_155 ok_X10_lineAt rfl rfl (by decide) k_176 (Nat.le_of_ble_eq_true rfl) ⟨Nat.le_of_ble_eq_true rfl, Nat.le_of_ble_eq_true rfl⟩ rfl rfl (ct_lineAt (t := t) (w := 1) (k := a + 1 + i) (by omega)) ?_
          refine aw_eq (hl (a + 1 + i) (by omega) (by omega)) ?_
          refine cqi3 dX10_missBy_61 km10_208 ok_X10_wordsBy rfl rfl (by decide) k_176 (Nat.le_of_ble_eq_true rfl) ⟨Nat.le_of_ble_eq_true rfl, Nat.le_of_ble_eq_true rfl⟩ rfl rfl (ct_wordsBy (w := 1) (p := pl (a + 1 + i)) ((hM _ _ (Or.inl (by decide))).trans hcw) hnw hw hwb hp (by decide) (hpb _)) ?_
          refine aw_bi (nI 6) dX10_missBy_64 (by decide) ?_
          refine aw_icmp_ne dX10_missBy_66 (fun h_66 => absurd h_66 (not_not_intro (bvW_6.mpr hy))) (fun h_66 => ?_)
          refine aw_aload_n dX10_missBy_69 rfl ?_
          refine aw_aload_n dX10_missBy_70 rfl ?_
          refine gf10_missedMany dX10_missBy_71 kf10_211 k_176 ?_
          refine aw_eq (show _ = nI (l ++ misL (fun l => kcN wd inn nw 1 (pl l)) q 1 (a + 1) i).length from hN.1) ?_
          refine aw_iload dX10_missBy_74 rfl ?_
          refine aw_icmp_ne dX10_missBy_76 (fun h_76 => absurd h_76 (not_not_intro hk)) (fun h_76 => ?_)
          refine aw_iload_n dX10_missBy_79 rfl ?_
          refine aw_goto dX10_missBy_80 ?_
          refine pf10_missedCell dX10_missBy_87 kf10_214 k_176 ?_
          refine aw_aload_n dX10_missBy_90 rfl ?_
          refine aw_aload_n dX10_missBy_91 rfl ?_
          refine gf10_missedMany dX10_missBy_92 kf10_211 k_176 ?_
          refine aw_eq (show _ = nI (l ++ misL (fun l => kcN wd inn nw 1 (pl l)) q 1 (a + 1) i).length from (uI_f (by decide)).trans hN.1) ?_
          refine aw_iload dX10_missBy_95 rfl ?_
          refine aw_icmp_ne dX10_missBy_97 (fun h_97 => absurd h_97 (not_not_intro hk)) (fun h_97 => ?_)
          refine aw_iload_n dX10_missBy_100 rfl ?_
          refine aw_goto dX10_missBy_101 ?_
          refine pf10_missedWay dX10_missBy_108 kf10_217 k_176 ?_
          refine aw_aload_n dX10_missBy_111 rfl ?_
          refine aw_aload_n dX10_missBy_112 rfl ?_
          refine gf10_missedMany dX10_missBy_113 kf10_211 k_176 ?_
          refine aw_eq (show _ = nI (l ++ misL (fun l => kcN wd inn nw 1 (pl l)) q 1 (a + 1) i).length from (uI_f (by decide)).trans ((uI_f (by decide)).trans hN.1)) ?_
          refine aw_iload dX10_missBy_116 rfl ?_
          refine aw_icmp_ne dX10_missBy_118 (fun h_118 => absurd h_118 (not_not_intro hk)) (fun h_118 => ?_)
          refine aw_iload dX10_missBy_121 rfl ?_
          refine aw_goto dX10_missBy_123 ?_
          refine pf10_missedLine dX10_missBy_130 kf10_220 k_176 ?_
          refine aw_aload_n dX10_missBy_133 rfl ?_
          refine aw_dup dX10_missBy_134 rfl ?_
          refine gf10_missedMany dX10_missBy_135 kf10_211 k_176 ?_
          refine aw_eq (show _ = nI (l ++ misL (fun l => kcN wd inn nw 1 (pl l)) q 1 (a + 1) i).length from (uI_f (by decide)).trans ((uI_f (by decide)).trans ((uI_f (by decide)).trans hN.1))) ?_
          refine aw_ic (nI 1) dX10_missBy_138 (by decide) ?_
          refine aw_iadd dX10_missBy_139 ?_
          refine aw_eq (nI_add _ _) ?_
          refine pf10_missedMany dX10_missBy_140 kf10_211 k_176 ?_
          refine aw_inc (nI (a + 1 + (i + 1))) dX10_missBy_143 rfl (Nat.le_of_ble_eq_true rfl) (nI_1 _) ?_
          refine aw_goto dX10_missBy_146 ?_
          exact ih _ _ ⟨_, rfl, ((((hM.put (f := 340) (by decide) _).put (f := 341) (by decide) _).put (f := 342) (by decide) _).put (f := 339) (by decide) _), by rw [misL_s, if_pos (show (fun l => kcN wd inn nw 1 (pl l)) (a + 1 + i) = true from hy), ← List.append_assoc]; exact hN.yes (by omega) hk, rfl⟩
        · skip
          refine aw_iload dX10_missBy_40 rfl ?_
          refine aw_iload dX10_missBy_42 rfl ?_
          refine aw_iload dX10_missBy_44 rfl ?_
          refine aw_iadd dX10_missBy_46 ?_
          refine aw_eq (nI_add _ _) ?_
          refine aw_icmp_geN dX10_missBy_47 rfl rfl (by omega) (by omega) (fun h_47 => absurd h_47 (by omega)) (fun h_47 => ?_)
          refine aw_aload_n dX10_missBy_50 rfl ?_
          refine aw_iload_n dX10_missBy_51 rfl ?_
          refine aw_iload_n dX10_missBy_52 rfl ?_
          refine aw_aload_n dX10_missBy_53 rfl ?_
          refine aw_iload_n dX10_missBy_54 rfl ?_
          refine aw_iload_n dX10_missBy_55 rfl ?_
          refine aw_iload dX10_missBy_56 rfl ?_
          refine cqi3 dX10_missBy_58 km10_155 ok_X10_lineAt rfl rfl (by decide) k_176 (Nat.le_of_ble_eq_true rfl) ⟨Nat.le_of_ble_eq_true rfl, Nat.le_of_ble_eq_true rfl⟩ rfl rfl (ct_lineAt (t := t) (w := 1) (k := a + 1 + i) (by omega)) ?_
          refine aw_eq (hl (a + 1 + i) (by omega) (by omega)) ?_
          refine cqi3 dX10_missBy_61 km10_208 ok_X10_wordsBy rfl rfl (by decide) k_176 (Nat.le_of_ble_eq_true rfl) ⟨Nat.le_of_ble_eq_true rfl, Nat.le_of_ble_eq_true rfl⟩ rfl rfl (ct_wordsBy (w := 1) (p := pl (a + 1 + i)) ((hM _ _ (Or.inl (by decide))).trans hcw) hnw hw hwb hp (by decide) (hpb _)) ?_
          refine aw_bi (nI 6) dX10_missBy_64 (by decide) ?_
          refine aw_icmp_ne dX10_missBy_66 (fun h_66 => absurd h_66 (not_not_intro (bvW_6.mpr hy))) (fun h_66 => ?_)
          refine aw_aload_n dX10_missBy_69 rfl ?_
          refine aw_aload_n dX10_missBy_70 rfl ?_
          refine gf10_missedMany dX10_missBy_71 kf10_211 k_176 ?_
          refine aw_eq (show _ = nI (l ++ misL (fun l => kcN wd inn nw 1 (pl l)) q 1 (a + 1) i).length from hN.1) ?_
          refine aw_iload dX10_missBy_74 rfl ?_
          refine aw_icmp_ne dX10_missBy_76 (fun h_76 => ?_) (fun h_76 => absurd h_76 (hk))
          refine aw_aload_n dX10_missBy_83 rfl ?_
          refine gf10_missedCell dX10_missBy_84 kf10_214 k_176 ?_
          refine pf10_missedCell dX10_missBy_87 kf10_214 k_176 ?_
          refine aw_aload_n dX10_missBy_90 rfl ?_
          refine aw_aload_n dX10_missBy_91 rfl ?_
          refine gf10_missedMany dX10_missBy_92 kf10_211 k_176 ?_
          refine aw_eq (show _ = nI (l ++ misL (fun l => kcN wd inn nw 1 (pl l)) q 1 (a + 1) i).length from (uI_f (by decide)).trans hN.1) ?_
          refine aw_iload dX10_missBy_95 rfl ?_
          refine aw_icmp_ne dX10_missBy_97 (fun h_97 => ?_) (fun h_97 => absurd h_97 (hk))
          refine aw_aload_n dX10_missBy_104 rfl ?_
          refine gf10_missedWay dX10_missBy_105 kf10_217 k_176 ?_
          refine aw_eq (uI_f (by decide)) ?_
          refine pf10_missedWay dX10_missBy_108 kf10_217 k_176 ?_
          refine aw_aload_n dX10_missBy_111 rfl ?_
          refine aw_aload_n dX10_missBy_112 rfl ?_
          refine gf10_missedMany dX10_missBy_113 kf10_211 k_176 ?_
          refine aw_eq (show _ = nI (l ++ misL (fun l => kcN wd inn nw 1 (pl l)) q 1 (a + 1) i).length from (uI_f (by decide)).trans ((uI_f (by decide)).trans hN.1)) ?_
          refine aw_iload dX10_missBy_116 rfl ?_
          refine aw_icmp_ne dX10_missBy_118 (fun h_118 => ?_) (fun h_118 => absurd h_118 (hk))
          refine aw_aload_n dX10_missBy_126 rfl ?_
          refine gf10_missedLine dX10_missBy_127 kf10_220 k_176 ?_
          refine aw_eq ((uI_f (by decide)).trans (uI_f (by decide))) ?_
          refine pf10_missedLine dX10_missBy_130 kf10_220 k_176 ?_
          refine aw_aload_n dX10_missBy_133 rfl ?_
          refine aw_dup dX10_missBy_134 rfl ?_
          refine gf10_missedMany dX10_missBy_135 kf10_211 k_176 ?_
          refine aw_eq (show _ = nI (l ++ misL (fun l => kcN wd inn nw 1 (pl l)) q 1 (a + 1) i).length from (uI_f (by decide)).trans ((uI_f (by decide)).trans ((uI_f (by decide)).trans hN.1))) ?_
          refine aw_ic (nI 1) dX10_missBy_138 (by decide) ?_
          refine aw_iadd dX10_missBy_139 ?_
          refine aw_eq (nI_add _ _) ?_
          refine pf10_missedMany dX10_missBy_140 kf10_211 k_176 ?_
          refine aw_inc (nI (a + 1 + (i + 1))) dX10_missBy_143 rfl (Nat.le_of_ble_eq_true rfl) (nI_1 _) ?_
          refine aw_goto dX10_missBy_146 ?_
          exact ih _ _ ⟨_, rfl, ((((hM.put (f := 340) (by decide) _).put (f := 341) (by decide) _).put (f := 342) (by decide) _).put (f := 339) (by decide) _), by rw [misL_s, if_pos (show (fun l => kcN wd inn nw 1 (pl l)) (a + 1 + i) = true from hy), ← List.append_assoc]; exact hN.no (q, 1, a + 1 + i) hk, rfl⟩
      · skip
        refine aw_iload dX10_missBy_40 rfl ?_
        refine aw_iload dX10_missBy_42 rfl ?_
        refine aw_iload dX10_missBy_44 rfl ?_
        refine aw_iadd dX10_missBy_46 ?_
        refine aw_eq (nI_add _ _) ?_
        refine aw_icmp_geN dX10_missBy_47 rfl rfl (by omega) (by omega) (fun h_47 => absurd h_47 (by omega)) (fun h_47 => ?_)
        refine aw_aload_n dX10_missBy_50 rfl ?_
        refine aw_iload_n dX10_missBy_51 rfl ?_
        refine aw_iload_n dX10_missBy_52 rfl ?_
        refine aw_aload_n dX10_missBy_53 rfl ?_
        refine aw_iload_n dX10_missBy_54 rfl ?_
        refine aw_iload_n dX10_missBy_55 rfl ?_
        refine aw_iload dX10_missBy_56 rfl ?_
        refine cqi3 dX10_missBy_58 km10_155 ok_X10_lineAt rfl rfl (by decide) k_176 (Nat.le_of_ble_eq_true rfl) ⟨Nat.le_of_ble_eq_true rfl, Nat.le_of_ble_eq_true rfl⟩ rfl rfl (ct_lineAt (t := t) (w := 1) (k := a + 1 + i) (by omega)) ?_
        refine aw_eq (hl (a + 1 + i) (by omega) (by omega)) ?_
        refine cqi3 dX10_missBy_61 km10_208 ok_X10_wordsBy rfl rfl (by decide) k_176 (Nat.le_of_ble_eq_true rfl) ⟨Nat.le_of_ble_eq_true rfl, Nat.le_of_ble_eq_true rfl⟩ rfl rfl (ct_wordsBy (w := 1) (p := pl (a + 1 + i)) ((hM _ _ (Or.inl (by decide))).trans hcw) hnw hw hwb hp (by decide) (hpb _)) ?_
        refine aw_bi (nI 6) dX10_missBy_64 (by decide) ?_
        refine aw_icmp_ne dX10_missBy_66 (fun h_66 => ?_) (fun h_66 => absurd h_66 (fun z => hy (bvW_6.mp z)))
        refine aw_inc (nI (a + 1 + (i + 1))) dX10_missBy_143 rfl (Nat.le_of_ble_eq_true rfl) (nI_1 _) ?_
        refine aw_goto dX10_missBy_146 ?_
        exact ih _ _ ⟨J, rfl, hM, by rw [misL_s, if_neg (show ¬ (fun l => kcN wd inn nw 1 (pl l)) (a + 1 + i) = true from hy), List.append_nil]; exact hN, rfl⟩
    · rintro σ2 lv2 ⟨J, rfl, hM, hN, rfl⟩
      refine aw_iload dX10_missBy_40 rfl ?_
      refine aw_iload dX10_missBy_42 rfl ?_
      refine aw_iload dX10_missBy_44 rfl ?_
      refine aw_iadd dX10_missBy_46 ?_
      refine aw_eq (nI_add _ _) ?_
      refine aw_icmp_geN dX10_missBy_47 rfl rfl (by omega) (by omega) (fun h_47 => ?_) (fun h_47 => absurd h_47 (by omega))
      exact aw_ret dX10_missBy_149 (⟨J, rfl, hM, hN⟩)

