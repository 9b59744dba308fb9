section AWx
variable {g : GG} {cc : ByteArray} {nL : Nat} {ret : Option FieldType} {R : Room} {own : String} {Qc : Array Value → State → Outcome → State → Prop} {pc : Nat} {st : List Value}
theorem for_ux (inv : Nat → SG → List (Option Value) → Prop) (e : Nat) (step : ∀ i σ lv, i < e → inv i σ lv → (∀ σ' lv', inv (i + 1) σ' lv' → AW g cc nL ret R own Qc pc lv' st σ') → AW g cc nL ret R own Qc pc lv st σ) (last : ∀ σ lv, inv e σ lv → AW g cc nL ret R own Qc pc lv st σ) : ∀ (i : Nat) (σ : SG) (lv : List (Option Value)), i ≤ e → inv i σ lv → AW g cc nL ret R own Qc pc lv st σ := by
  have key : ∀ (n i : Nat) (σ : SG) (lv : List (Option Value)), n = e - i → i ≤ e → inv i σ lv → AW g cc nL ret R own Qc pc lv st σ := by
    intro n
    induction n with
    | zero =>
      intro i σ lv hn hi hv
      have : i = e := by omega
      subst this
      exact last σ lv hv
    | succ n ih =>
      intro i σ lv hn hi hv
      exact step i σ lv (by omega) hv (fun σ' lv' h' => ih (i + 1) σ' lv' (by omega) (by omega) h')
  exact fun i σ lv hi hv => key (e - i) i σ lv rfl hi hv
end AWx
theorem tA {J B : Nat → Nat → Int32} {π : Nat → Nat} {o o' k : Nat} {h : Nat → Int32} {x : Int32} (n : o' ≠ o) (e : B o' k = x) : ((J, uA B o h, π) : SG).2.1 o' k = x := (congrFun (uA_n n) k).trans e
theorem tS {J B : Nat → Nat → Int32} {π : Nat → Nat} {o k : Nat} {h : Nat → Int32} {x : Int32} (e : h k = x) : ((J, uA B o h, π) : SG).2.1 o k = x := (congrFun (uA_s B o h) k).trans e
theorem nB {B : Nat → Nat → Int32} {o o' k : Nat} {h : Nat → Int32} {x : Int32} (n : o' ≠ o) (e : B o' k = x) : uA B o h o' k = x := (congrFun (uA_n n) k).trans e
theorem sB {B : Nat → Nat → Int32} {o k : Nat} {h : Nat → Int32} {x : Int32} (e : h k = x) : uA B o h o k = x := (congrFun (uA_s B o h) k).trans e
theorem tF {J B : Nat → Nat → Int32} {π : Nat → Nat} {f o f' o' : Nat} {v x : Int32} (n : f' ≠ f) (e : J f' o' = x) : ((uI J f o v, B, π) : SG).1 f' o' = x := (uI_f n).trans e
theorem tG {J B : Nat → Nat → Int32} {π : Nat → Nat} {f o : Nat} {v : Int32} : ((uI J f o v, B, π) : SG).1 f o = v := uI_s _ _ _ _
theorem up_lt {L : Nat → Int32} {f : Nat → Nat} {i : Nat} {v : Int32} (h : ∀ k, k < i → L k = nI (f k)) (e : v = nI (f i)) : ∀ k, k < i + 1 → upd L i v k = nI (f k) := fun k hk => by
  by_cases q : k = i
  · rw [q, pk_us, e]
  · rw [pk_un q]
    exact h k (by omega)
theorem up_ge {L : Nat → Int32} {f : Nat → Nat} {i n : Nat} {v : Int32} (h : ∀ k, i ≤ k → k < n → L k = nI (f k)) : ∀ k, i + 1 ≤ k → k < n → upd L i v k = nI (f k) := fun k hk hn => by
  rw [pk_un (by omega)]
  exact h k (by omega) hn
theorem nm1 {s : Nat} (h : s < 2 ^ 31) : ¬ nI s ≤ -1 := by
  rw [Int32.le_iff_toInt_le, nI_toInt h, show (-1 : Int32).toInt = -1 by decide]
  omega
set_option maxHeartbeats 4000000 in
set_option maxRecDepth 100000 in
theorem ct_begin {g : GG} {σ : SG} {n : Nat} (hn : n ≤ 121) : Ctv g yX10_begin cX10_begin 3 (rmm 0 0) [.ref (ad g 176), .int (nI n)] σ (fun σ' => ∃ L, σ' = (σ.1, uA σ.2.1 180 L, σ.2.2) ∧ ∀ k, k < n → L k = nI k) := by
  refine ct_of (own := RX10) (lv := [some (.ref (ad g 176)), some (.int (nI n)), none]) rfl (by decide) (Nat.le_of_ble_eq_true rfl) (by intro u hu; simp only [List.mem_cons, List.not_mem_nil, or_false] at hu; rcases hu with rfl | rfl <;> rfl) (lv_ok [.ref (ad g 176), .int (nI n)] 1) ?_
  have hl180 := l_180
  refine aw_ic (nI 0) dX10_begin_0 (by decide) ?_
  refine aw_istore_n dX10_begin_1 (Nat.le_of_ble_eq_true rfl) ?_
  refine for_ux (fun i σ' lv' => ∃ L, σ' = (σ.1, uA σ.2.1 180 L, σ.2.2) ∧ (∀ k, k < i → L k = nI k) ∧ lv' = [some (.ref (ad g 176)), some (.int (nI n)), some (.int (nI i))]) (n) ?_ ?_ (0) _ _ (by omega) (⟨σ.2.1 180, by rw [uA_same], fun k hk => absurd hk (Nat.not_lt_zero k), rfl⟩)
  · rintro i σ2 lv2 hi ⟨L, rfl, hL, rfl⟩ ih
    refine aw_iload_n dX10_begin_2 rfl ?_
    refine aw_iload_n dX10_begin_3 rfl ?_
    refine aw_icmp_geN dX10_begin_4 rfl rfl (by omega) (by omega) (fun h_4 => absurd h_4 (by omega)) (fun h_4 => ?_)
    refine aw_aload_n dX10_begin_7 rfl ?_
    refine gf10_label dX10_begin_8 kf10_19 k_176 ?_
    refine aw_eqr (b := 180) rfl ?_
    refine aw_iload_n dX10_begin_11 rfl ?_
    refine aw_iload_n dX10_begin_12 rfl ?_
    refine aw_sto (i) dX10_begin_13 k_180 (rfl) (by omega) ?_
    refine aw_inc (nI (i + 1)) dX10_begin_14 rfl (Nat.le_of_ble_eq_true rfl) (nI_1 i) ?_
    refine aw_goto dX10_begin_17 ?_
    exact ih _ _ ⟨upd L i (nI i), by rw [uA_s, uA_uA], up_lt (f := fun k => k) hL rfl, rfl⟩
  · rintro σ2 lv2 ⟨L, rfl, hL, rfl⟩
    refine aw_iload_n dX10_begin_2 rfl ?_
    refine aw_iload_n dX10_begin_3 rfl ?_
    refine aw_icmp_geN dX10_begin_4 rfl rfl (by omega) (by omega) (fun h_4 => ?_) (fun h_4 => absurd h_4 (by omega))
    exact aw_ret dX10_begin_20 (⟨L, rfl, hL⟩)

set_option maxHeartbeats 4000000 in
set_option maxRecDepth 100000 in
theorem ct_join {g : GG} {σ : SG} {n a b : Nat} {lab : Nat → Nat} (hL : ∀ k, k < n → σ.2.1 180 k = nI (lab k)) (hle : ∀ k, lab k ≤ k) (ha : a < n) (hb : b < n) (hn : n ≤ 121) : Ctv g yX10_join cX10_join 7 (rmm 1 21) [.ref (ad g 176), .int (nI a), .int (nI b), .int (nI n)] σ (fun σ' => ∃ L, σ' = (σ.1, uA σ.2.1 180 L, σ.2.2) ∧ ∀ k, k < n → L k = nI (joinL lab a b k)) := by
  refine ct_of (own := RX10) (lv := [some (.ref (ad g 176)), some (.int (nI a)), some (.int (nI b)), some (.int (nI n)), none, none, none]) rfl (by decide) (Nat.le_of_ble_eq_true rfl) (by intro u hu; simp only [List.mem_cons, List.not_mem_nil, or_false] at hu; rcases hu with rfl | rfl | rfl | rfl <;> rfl) (lv_ok [.ref (ad g 176), .int (nI a), .int (nI b), .int (nI n)] 3) ?_
  have hl180 := l_180
  have hla := hle a
  have hlb := hle b
  refine aw_aload_n dX10_join_0 rfl ?_
  refine gf10_label dX10_join_1 kf10_19 k_176 ?_
  refine aw_eqr (b := 180) rfl ?_
  refine aw_iload_n dX10_join_4 rfl ?_
  refine aw_ld (a) dX10_join_5 k_180 (rfl) (by omega) ?_
  refine aw_eq (hL a ha) ?_
  refine aw_aload_n dX10_join_6 rfl ?_
  refine gf10_label dX10_join_7 kf10_19 k_176 ?_
  refine aw_eqr (b := 180) rfl ?_
  refine aw_iload_n dX10_join_10 rfl ?_
  refine aw_ld (b) dX10_join_11 k_180 (rfl) (by omega) ?_
  refine aw_eq (hL b hb) ?_
  refine csq2 dX10_join_12 km10_102 ok_X10_less (Nat.le_of_ble_eq_true rfl) ⟨Nat.le_of_ble_eq_true rfl, Nat.le_of_ble_eq_true rfl⟩ rfl rfl (ct_less (by omega) (by omega)) ?_
  refine aw_istore dX10_join_15 (Nat.le_of_ble_eq_true rfl) ?_
  refine aw_aload_n dX10_join_17 rfl ?_
  refine gf10_label dX10_join_18 kf10_19 k_176 ?_
  refine aw_eqr (b := 180) rfl ?_
  refine aw_iload_n dX10_join_21 rfl ?_
  refine aw_ld (a) dX10_join_22 k_180 (rfl) (by omega) ?_
  refine aw_eq (hL a ha) ?_
  refine aw_aload_n dX10_join_23 rfl ?_
  refine gf10_label dX10_join_24 kf10_19 k_176 ?_
  refine aw_eqr (b := 180) rfl ?_
  refine aw_iload_n dX10_join_27 rfl ?_
  refine aw_ld (b) dX10_join_28 k_180 (rfl) (by omega) ?_
  refine aw_eq (hL b hb) ?_
  refine csq2 dX10_join_29 km10_99 ok_X10_greater (Nat.le_of_ble_eq_true rfl) ⟨Nat.le_of_ble_eq_true rfl, Nat.le_of_ble_eq_true rfl⟩ rfl rfl (ct_greater (by omega) (by omega)) ?_
  refine aw_istore dX10_join_32 (Nat.le_of_ble_eq_true rfl) ?_
  refine aw_ic (nI 0) dX10_join_34 (by decide) ?_
  refine aw_istore dX10_join_35 (Nat.le_of_ble_eq_true rfl) ?_
  refine for_ux (fun i σ' lv' => ∃ L, σ' = (σ.1, uA σ.2.1 180 L, σ.2.2) ∧ (∀ k, k < i → L k = nI (joinL lab a b k)) ∧ (∀ k, i ≤ k → k < n → L k = nI (lab k)) ∧ lv' = [some (.ref (ad g 176)), some (.int (nI a)), some (.int (nI b)), some (.int (nI n)), some (.int (nI (min (lab a) (lab b)))), some (.int (nI (max (lab a) (lab b)))), some (.int (nI i))]) (n) ?_ ?_ (0) _ _ (by omega) (⟨σ.2.1 180, by rw [uA_same], fun k hk => absurd hk (Nat.not_lt_zero k), fun k _ hk => hL k hk, rfl⟩)
  · rintro i σ2 lv2 hi ⟨L, rfl, hA, hZ, rfl⟩ ih
    refine aw_iload dX10_join_37 rfl ?_
    refine aw_iload_n dX10_join_39 rfl ?_
    refine aw_icmp_geN dX10_join_40 rfl rfl (by omega) (by omega) (fun h_40 => absurd h_40 (by omega)) (fun h_40 => ?_)
    refine aw_aload_n dX10_join_43 rfl ?_
    refine gf10_label dX10_join_44 kf10_19 k_176 ?_
    refine aw_eqr (b := 180) rfl ?_
    refine aw_iload dX10_join_47 rfl ?_
    refine aw_aload_n dX10_join_49 rfl ?_
    refine gf10_label dX10_join_50 kf10_19 k_176 ?_
    refine aw_eqr (b := 180) rfl ?_
    refine aw_iload dX10_join_53 rfl ?_
    refine aw_ld (i) dX10_join_55 k_180 (rfl) (by omega) ?_
    refine aw_eq (by show uA σ.2.1 180 L 180 i = nI (lab i); rw [uA_s]; exact hZ i (Nat.le_refl _) hi) ?_
    refine aw_iload dX10_join_56 rfl ?_
    refine aw_icmp_neN dX10_join_58 rfl rfl (by have := hle i; omega) (by omega) (fun h_58 => ?_) (fun h_58 => ?_)
    · skip
      refine aw_aload_n dX10_join_66 rfl ?_
      refine gf10_label dX10_join_67 kf10_19 k_176 ?_
      refine aw_eqr (b := 180) rfl ?_
      refine aw_iload dX10_join_70 rfl ?_
      refine aw_ld (i) dX10_join_72 k_180 (rfl) (by omega) ?_
      refine aw_eq (by show uA σ.2.1 180 L 180 i = nI (lab i); rw [uA_s]; exact hZ i (Nat.le_refl _) hi) ?_
      refine aw_sto (i) dX10_join_73 k_180 (rfl) (by omega) ?_
      refine aw_inc (nI (i + 1)) dX10_join_74 rfl (Nat.le_of_ble_eq_true rfl) (nI_1 i) ?_
      refine aw_goto dX10_join_77 ?_
      exact ih _ _ ⟨upd L i (nI (lab i)), by rw [uA_s, uA_uA], up_lt hA (by unfold joinL; rw [if_neg h_58]), up_ge hZ, rfl⟩
    · skip
      refine aw_iload dX10_join_61 rfl ?_
      refine aw_goto dX10_join_63 ?_
      refine aw_sto (i) dX10_join_73 k_180 (rfl) (by omega) ?_
      refine aw_inc (nI (i + 1)) dX10_join_74 rfl (Nat.le_of_ble_eq_true rfl) (nI_1 i) ?_
      refine aw_goto dX10_join_77 ?_
      exact ih _ _ ⟨upd L i (nI (min (lab a) (lab b))), by rw [uA_s, uA_uA], up_lt hA (by unfold joinL; rw [if_pos h_58]), up_ge hZ, rfl⟩
  · rintro σ2 lv2 ⟨L, rfl, hA, hZ, rfl⟩
    refine aw_iload dX10_join_37 rfl ?_
    refine aw_iload_n dX10_join_39 rfl ?_
    refine aw_icmp_geN dX10_join_40 rfl rfl (by omega) (by omega) (fun h_40 => ?_) (fun h_40 => absurd h_40 (by omega))
    exact aw_ret dX10_join_80 (⟨L, rfl, hA⟩)

set_option maxHeartbeats 4000000 in
set_option maxRecDepth 100000 in
theorem ct_isNear {g : GG} {σ : SG} {c p q sl gp : Nat} {pc : Nat → Nat → Nat} (hp : ∀ p w, p < c → w < 4 → σ.2.1 177 (4 * p + w) = nI (pc p w)) (hb : ∀ p w, pc p w ≤ 99) (hc : c ≤ 24) (hs : σ.2.1 179 0 = nI sl ∧ σ.2.1 179 1 = nI gp) (hs1 : sl ≤ 3) (hs2 : gp ≤ 9) (hP : p < c) (hQ : q < c) : Cti g yX10_isNear cX10_isNear 5 (some .boolean) (rmm 1 22) [.ref (ad g 176), .int (nI p), .int (nI q)] σ (fun r σ' => r = (if nearN pc sl gp p q = true then 1 else 0) ∧ σ' = σ) := by
  refine ct_of (own := RX10) (lv := [some (.ref (ad g 176)), some (.int (nI p)), some (.int (nI q)), none, none]) rfl (by decide) (Nat.le_of_ble_eq_true rfl) (by intro u hu; simp only [List.mem_cons, List.not_mem_nil, or_false] at hu; rcases hu with rfl | rfl | rfl <;> rfl) (lv_ok [.ref (ad g 176), .int (nI p), .int (nI q)] 2) ?_
  have hl177 := l_177
  have hl179 := l_179
  have b1 := hb p 1
  have b2 := hb p 2
  have b3 := hb p 3
  have b0 := hb p 0
  have c1 := hb q 1
  have c2 := hb q 2
  have c3 := hb q 3
  have c0 := hb q 0
  refine aw_aload_n dX10_isNear_0 rfl ?_
  refine aw_iload_n dX10_isNear_1 rfl ?_
  refine aw_ic (nI 1) dX10_isNear_2 (by decide) ?_
  refine cqi2 dX10_isNear_3 km10_95 ok_X10_pieceAt rfl rfl (by decide) k_176 (Nat.le_of_ble_eq_true rfl) ⟨Nat.le_of_ble_eq_true rfl, Nat.le_of_ble_eq_true rfl⟩ rfl rfl (ct_pieceAt (r := p) (w := 1) (by omega)) ?_
  refine aw_eq (hp p 1 hP (by decide)) ?_
  refine aw_aload_n dX10_isNear_6 rfl ?_
  refine aw_iload_n dX10_isNear_7 rfl ?_
  refine aw_ic (nI 1) dX10_isNear_8 (by decide) ?_
  refine cqi2 dX10_isNear_9 km10_95 ok_X10_pieceAt rfl rfl (by decide) k_176 (Nat.le_of_ble_eq_true rfl) ⟨Nat.le_of_ble_eq_true rfl, Nat.le_of_ble_eq_true rfl⟩ rfl rfl (ct_pieceAt (r := q) (w := 1) (by omega)) ?_
  refine aw_eq (hp q 1 hQ (by decide)) ?_
  refine aw_isub dX10_isNear_12 ?_
  refine aw_istore_n dX10_isNear_13 (Nat.le_of_ble_eq_true rfl) ?_
  refine aw_aload_n dX10_isNear_14 rfl ?_
  refine aw_iload_n dX10_isNear_15 rfl ?_
  refine aw_ic (nI 2) dX10_isNear_16 (by decide) ?_
  refine cqi2 dX10_isNear_17 km10_95 ok_X10_pieceAt rfl rfl (by decide) k_176 (Nat.le_of_ble_eq_true rfl) ⟨Nat.le_of_ble_eq_true rfl, Nat.le_of_ble_eq_true rfl⟩ rfl rfl (ct_pieceAt (r := p) (w := 2) (by omega)) ?_
  refine aw_eq (hp p 2 hP (by decide)) ?_
  refine aw_aload_n dX10_isNear_20 rfl ?_
  refine aw_iload_n dX10_isNear_21 rfl ?_
  refine aw_ic (nI 2) dX10_isNear_22 (by decide) ?_
  refine cqi2 dX10_isNear_23 km10_95 ok_X10_pieceAt rfl rfl (by decide) k_176 (Nat.le_of_ble_eq_true rfl) ⟨Nat.le_of_ble_eq_true rfl, Nat.le_of_ble_eq_true rfl⟩ rfl rfl (ct_pieceAt (r := q) (w := 2) (by omega)) ?_
  refine aw_eq (hp q 2 hQ (by decide)) ?_
  refine csq2 dX10_isNear_26 km10_99 ok_X10_greater (Nat.le_of_ble_eq_true rfl) ⟨Nat.le_of_ble_eq_true rfl, Nat.le_of_ble_eq_true rfl⟩ rfl rfl (ct_greater (by omega) (by omega)) ?_
  refine aw_aload_n dX10_isNear_29 rfl ?_
  refine aw_iload_n dX10_isNear_30 rfl ?_
  refine aw_ic (nI 3) dX10_isNear_31 (by decide) ?_
  refine cqi2 dX10_isNear_32 km10_95 ok_X10_pieceAt rfl rfl (by decide) k_176 (Nat.le_of_ble_eq_true rfl) ⟨Nat.le_of_ble_eq_true rfl, Nat.le_of_ble_eq_true rfl⟩ rfl rfl (ct_pieceAt (r := p) (w := 3) (by omega)) ?_
  refine aw_eq (hp p 3 hP (by decide)) ?_
  refine aw_aload_n dX10_isNear_35 rfl ?_
  refine aw_iload_n dX10_isNear_36 rfl ?_
  refine aw_ic (nI 3) dX10_isNear_37 (by decide) ?_
  refine cqi2 dX10_isNear_38 km10_95 ok_X10_pieceAt rfl rfl (by decide) k_176 (Nat.le_of_ble_eq_true rfl) ⟨Nat.le_of_ble_eq_true rfl, Nat.le_of_ble_eq_true rfl⟩ rfl rfl (ct_pieceAt (r := q) (w := 3) (by omega)) ?_
  refine aw_eq (hp q 3 hQ (by decide)) ?_
  refine csq2 dX10_isNear_41 km10_102 ok_X10_less (Nat.le_of_ble_eq_true rfl) ⟨Nat.le_of_ble_eq_true rfl, Nat.le_of_ble_eq_true rfl⟩ rfl rfl (ct_less (by omega) (by omega)) ?_
  refine aw_aload_n dX10_isNear_44 rfl ?_
  refine gf10_how dX10_isNear_45 kf10_16 k_176 ?_
  refine aw_eqr (b := 179) rfl ?_
  refine aw_ic (nI 1) dX10_isNear_48 (by decide) ?_
  refine aw_ld (1) dX10_isNear_49 k_179 (rfl) (by omega) ?_
  refine aw_eq hs.2 ?_
  refine aw_iadd dX10_isNear_50 ?_
  refine aw_eq (show _ = nI (min (pc p 3) (pc q 3) + gp) by rw [nI_add]) ?_
  refine aw_icmp_gtN dX10_isNear_51 rfl rfl (by omega) (by omega) (fun h_51 => ?_) (fun h_51 => ?_)
  · skip
    refine aw_ic (nI 0) dX10_isNear_58 (by decide) ?_
    refine aw_istore dX10_isNear_59 (Nat.le_of_ble_eq_true rfl) ?_
    refine aw_aload_n dX10_isNear_61 rfl ?_
    refine aw_iload_n dX10_isNear_62 rfl ?_
    refine aw_ic (nI 0) dX10_isNear_63 (by decide) ?_
    refine cqi2 dX10_isNear_64 km10_95 ok_X10_pieceAt rfl rfl (by decide) k_176 (Nat.le_of_ble_eq_true rfl) ⟨Nat.le_of_ble_eq_true rfl, Nat.le_of_ble_eq_true rfl⟩ rfl rfl (ct_pieceAt (r := p) (w := 0) (by omega)) ?_
    refine aw_eq (hp p 0 hP (by decide)) ?_
    refine aw_aload_n dX10_isNear_67 rfl ?_
    refine aw_iload_n dX10_isNear_68 rfl ?_
    refine aw_ic (nI 0) dX10_isNear_69 (by decide) ?_
    refine cqi2 dX10_isNear_70 km10_95 ok_X10_pieceAt rfl rfl (by decide) k_176 (Nat.le_of_ble_eq_true rfl) ⟨Nat.le_of_ble_eq_true rfl, Nat.le_of_ble_eq_true rfl⟩ rfl rfl (ct_pieceAt (r := q) (w := 0) (by omega)) ?_
    refine aw_eq (hp q 0 hQ (by decide)) ?_
    refine aw_icmp_neN dX10_isNear_73 rfl rfl (by omega) (by omega) (fun h_73 => ?_) (fun h_73 => ?_)
    · skip
      refine aw_ic (nI 0) dX10_isNear_106 (by decide) ?_
      exact aw_iretz dX10_isNear_107 (by decide) (⟨(if_neg (by unfold nearN; simp only [Bool.and_eq_true, decide_eq_true_eq]; omega)).symm, rfl⟩)
    · skip
      refine aw_iload_n dX10_isNear_76 rfl ?_
      refine aw_aload_n dX10_isNear_77 rfl ?_
      refine gf10_how dX10_isNear_78 kf10_16 k_176 ?_
      refine aw_eqr (b := 179) rfl ?_
      refine aw_ic (nI 0) dX10_isNear_81 (by decide) ?_
      refine aw_ld (0) dX10_isNear_82 k_179 (rfl) (by omega) ?_
      refine aw_eq hs.1 ?_
      refine aw_icmp_gt dX10_isNear_83 (fun h_83 => ?_) (fun h_83 => ?_)
      · skip
        refine aw_ic (nI 0) dX10_isNear_106 (by decide) ?_
        exact aw_iretz dX10_isNear_107 (by decide) (⟨(if_neg (by unfold nearN; rw [sub_gtN (by omega) (by omega) (by omega)] at h_83; simp only [Bool.and_eq_true, decide_eq_true_eq]; omega)).symm, rfl⟩)
      · skip
        refine aw_iload_n dX10_isNear_86 rfl ?_
        refine aw_ineg dX10_isNear_87 ?_
        refine aw_eq (show _ = nI (pc q 1) - nI (pc p 1) from Int32.neg_sub) ?_
        refine aw_aload_n dX10_isNear_88 rfl ?_
        refine gf10_how dX10_isNear_89 kf10_16 k_176 ?_
        refine aw_eqr (b := 179) rfl ?_
        refine aw_ic (nI 0) dX10_isNear_92 (by decide) ?_
        refine aw_ld (0) dX10_isNear_93 k_179 (rfl) (by omega) ?_
        refine aw_eq hs.1 ?_
        refine aw_icmp_gt dX10_isNear_94 (fun h_94 => ?_) (fun h_94 => ?_)
        · skip
          refine aw_ic (nI 0) dX10_isNear_106 (by decide) ?_
          exact aw_iretz dX10_isNear_107 (by decide) (⟨(if_neg (by unfold nearN; rw [sub_gtN (by omega) (by omega) (by omega)] at h_83; rw [sub_gtN (by omega) (by omega) (by omega)] at h_94; simp only [Bool.and_eq_true, decide_eq_true_eq]; omega)).symm, rfl⟩)
        · skip
          refine aw_iload dX10_isNear_97 rfl ?_
          refine aw_if_eq dX10_isNear_99 (fun _ => ?_) (fun h => absurd (by decide) h)
          refine aw_ic (nI 0) dX10_isNear_106 (by decide) ?_
          exact aw_iretz dX10_isNear_107 (by decide) (⟨(if_neg (by unfold nearN; rw [sub_gtN (by omega) (by omega) (by omega)] at h_83; rw [sub_gtN (by omega) (by omega) (by omega)] at h_94; simp only [Bool.and_eq_true, decide_eq_true_eq]; omega)).symm, rfl⟩)
  · skip
    refine aw_ic (nI 1) dX10_isNear_54 (by decide) ?_
    refine aw_goto dX10_isNear_55 ?_
    refine aw_istore dX10_isNear_59 (Nat.le_of_ble_eq_true rfl) ?_
    refine aw_aload_n dX10_isNear_61 rfl ?_
    refine aw_iload_n dX10_isNear_62 rfl ?_
    refine aw_ic (nI 0) dX10_isNear_63 (by decide) ?_
    refine cqi2 dX10_isNear_64 km10_95 ok_X10_pieceAt rfl rfl (by decide) k_176 (Nat.le_of_ble_eq_true rfl) ⟨Nat.le_of_ble_eq_true rfl, Nat.le_of_ble_eq_true rfl⟩ rfl rfl (ct_pieceAt (r := p) (w := 0) (by omega)) ?_
    refine aw_eq (hp p 0 hP (by decide)) ?_
    refine aw_aload_n dX10_isNear_67 rfl ?_
    refine aw_iload_n dX10_isNear_68 rfl ?_
    refine aw_ic (nI 0) dX10_isNear_69 (by decide) ?_
    refine cqi2 dX10_isNear_70 km10_95 ok_X10_pieceAt rfl rfl (by decide) k_176 (Nat.le_of_ble_eq_true rfl) ⟨Nat.le_of_ble_eq_true rfl, Nat.le_of_ble_eq_true rfl⟩ rfl rfl (ct_pieceAt (r := q) (w := 0) (by omega)) ?_
    refine aw_eq (hp q 0 hQ (by decide)) ?_
    refine aw_icmp_neN dX10_isNear_73 rfl rfl (by omega) (by omega) (fun h_73 => ?_) (fun h_73 => ?_)
    · skip
      refine aw_ic (nI 0) dX10_isNear_106 (by decide) ?_
      exact aw_iretz dX10_isNear_107 (by decide) (⟨(if_neg (by unfold nearN; simp only [Bool.and_eq_true, decide_eq_true_eq]; omega)).symm, rfl⟩)
    · skip
      refine aw_iload_n dX10_isNear_76 rfl ?_
      refine aw_aload_n dX10_isNear_77 rfl ?_
      refine gf10_how dX10_isNear_78 kf10_16 k_176 ?_
      refine aw_eqr (b := 179) rfl ?_
      refine aw_ic (nI 0) dX10_isNear_81 (by decide) ?_
      refine aw_ld (0) dX10_isNear_82 k_179 (rfl) (by omega) ?_
      refine aw_eq hs.1 ?_
      refine aw_icmp_gt dX10_isNear_83 (fun h_83 => ?_) (fun h_83 => ?_)
      · skip
        refine aw_ic (nI 0) dX10_isNear_106 (by decide) ?_
        exact aw_iretz dX10_isNear_107 (by decide) (⟨(if_neg (by unfold nearN; rw [sub_gtN (by omega) (by omega) (by omega)] at h_83; simp only [Bool.and_eq_true, decide_eq_true_eq]; omega)).symm, rfl⟩)
      · skip
        refine aw_iload_n dX10_isNear_86 rfl ?_
        refine aw_ineg dX10_isNear_87 ?_
        refine aw_eq (show _ = nI (pc q 1) - nI (pc p 1) from Int32.neg_sub) ?_
        refine aw_aload_n dX10_isNear_88 rfl ?_
        refine gf10_how dX10_isNear_89 kf10_16 k_176 ?_
        refine aw_eqr (b := 179) rfl ?_
        refine aw_ic (nI 0) dX10_isNear_92 (by decide) ?_
        refine aw_ld (0) dX10_isNear_93 k_179 (rfl) (by omega) ?_
        refine aw_eq hs.1 ?_
        refine aw_icmp_gt dX10_isNear_94 (fun h_94 => ?_) (fun h_94 => ?_)
        · skip
          refine aw_ic (nI 0) dX10_isNear_106 (by decide) ?_
          exact aw_iretz dX10_isNear_107 (by decide) (⟨(if_neg (by unfold nearN; rw [sub_gtN (by omega) (by omega) (by omega)] at h_83; rw [sub_gtN (by omega) (by omega) (by omega)] at h_94; simp only [Bool.and_eq_true, decide_eq_true_eq]; omega)).symm, rfl⟩)
        · skip
          refine aw_iload dX10_isNear_97 rfl ?_
          refine aw_if_eq dX10_isNear_99 (fun h => absurd h (by decide)) (fun _ => ?_)
          refine aw_ic (nI 1) dX10_isNear_102 (by decide) ?_
          refine aw_goto dX10_isNear_103 ?_
          exact aw_iretz dX10_isNear_107 (by decide) (⟨(if_pos (by unfold nearN; rw [sub_gtN (by omega) (by omega) (by omega)] at h_83; rw [sub_gtN (by omega) (by omega) (by omega)] at h_94; simp only [Bool.and_eq_true, decide_eq_true_eq]; omega)).symm, rfl⟩)

theorem u4 {h : Nat → Int32} {b : Nat} (v1 v2 v3 v4 : Int32) : upd (upd (upd (upd h (b + 1) v1) (b + 2) v2) (b + 3) v3) (b + 4) v4 b = h b ∧ upd (upd (upd (upd h (b + 1) v1) (b + 2) v2) (b + 3) v3) (b + 4) v4 (b + 1) = v1 ∧ upd (upd (upd (upd h (b + 1) v1) (b + 2) v2) (b + 3) v3) (b + 4) v4 (b + 2) = v2 ∧ upd (upd (upd (upd h (b + 1) v1) (b + 2) v2) (b + 3) v3) (b + 4) v4 (b + 3) = v3 ∧ upd (upd (upd (upd h (b + 1) v1) (b + 2) v2) (b + 3) v3) (b + 4) v4 (b + 4) = v4 ∧ upd (upd (upd (upd h (b + 1) v1) (b + 2) v2) (b + 3) v3) (b + 4) v4 (b + 5) = h (b + 5) ∧ upd (upd (upd (upd h (b + 1) v1) (b + 2) v2) (b + 3) v3) (b + 4) v4 (b + 6) = h (b + 6) ∧ ∀ x, x < b → upd (upd (upd (upd h (b + 1) v1) (b + 2) v2) (b + 3) v3) (b + 4) v4 x = h x := by
  refine ⟨?_, ?_, ?_, ?_, ?_, ?_, ?_, fun x hx => ?_⟩
  · rw [pk_un (by omega), pk_un (by omega), pk_un (by omega), pk_un (by omega)]
  · rw [pk_un (by omega), pk_un (by omega), pk_un (by omega), pk_us]
  · rw [pk_un (by omega), pk_un (by omega), pk_us]
  · rw [pk_un (by omega), pk_us]
  · rw [pk_us]
  · rw [pk_un (by omega), pk_un (by omega), pk_un (by omega), pk_un (by omega)]
  · rw [pk_un (by omega), pk_un (by omega), pk_un (by omega), pk_un (by omega)]
  · rw [pk_un (by omega), pk_un (by omega), pk_un (by omega), pk_un (by omega)]
theorem u6 {h : Nat → Int32} {b : Nat} (v0 v2 v3 v4 v5 v6 : Int32) : ∃ h', upd (upd (upd (upd (upd (upd h b v0) (b + 2) v2) (b + 3) v3) (b + 4) v4) (b + 5) v5) (b + 6) v6 = h' ∧ h' b = v0 ∧ h' (b + 2) = v2 ∧ h' (b + 3) = v3 ∧ h' (b + 4) = v4 ∧ h' (b + 5) = v5 ∧ h' (b + 6) = v6 ∧ ∀ x, x < b → h' x = h x := by
  refine ⟨_, rfl, ?_, ?_, ?_, ?_, ?_, ?_, fun x hx => ?_⟩
  · rw [pk_un (by omega), pk_un (by omega), pk_un (by omega), pk_un (by omega), pk_un (by omega), pk_us]
  · rw [pk_un (by omega), pk_un (by omega), pk_un (by omega), pk_un (by omega), pk_us]
  · rw [pk_un (by omega), pk_un (by omega), pk_un (by omega), pk_us]
  · rw [pk_un (by omega), pk_un (by omega), pk_us]
  · rw [pk_un (by omega), pk_us]
  · rw [pk_us]
  · rw [pk_un (by omega), pk_un (by omega), pk_un (by omega), pk_un (by omega), pk_un (by omega), pk_un (by omega)]
theorem rFold_s {pc : Nat → Nat → Nat} {lab : Nat → Nat} {r p : Nat} : rFold pc lab r (p + 1) = if lab p = r then (if p = r then rBeg pc p else rTake (rFold pc lab r p) pc p) else rFold pc lab r p := rfl
/-- the row of a rule as far as the pieces before i say it -/
def ArI (pc : Nat → Nat → Nat) (lab : Nat → Nat) (f m i : Nat) (h0 h : Nat → Int32) (lo : Int32) : Prop := (∀ x, x < 7 * m → h x = h0 x) ∧ h (7 * m) = nI (pc f 0) ∧ h (7 * m + 5) = nI f ∧ h (7 * m + 6) = -6 ∧ (i ≤ f → lo = -1 ∧ h (7 * m + 2) = nI 99 ∧ h (7 * m + 3) = nI 0 ∧ h (7 * m + 4) = nI 0) ∧ (f < i → lo = nI (rFold pc lab f i 6) ∧ h (7 * m + 1) = nI (rFold pc lab f i 1) ∧ h (7 * m + 2) = nI (rFold pc lab f i 2) ∧ h (7 * m + 3) = nI (rFold pc lab f i 3) ∧ h (7 * m + 4) = nI (rFold pc lab f i 4))
theorem ArI.skip {pc : Nat → Nat → Nat} {lab : Nat → Nat} {f m i : Nat} {h0 h : Nat → Int32} {lo : Int32} (H : ArI pc lab f m i h0 h lo) (hn : ¬ lab i = f) (hf : lab f = f) : ArI pc lab f m (i + 1) h0 h lo := by
  obtain ⟨a, b, c, d, e, k⟩ := H
  refine ⟨a, b, c, d, fun z => e (by omega), fun z => ?_⟩
  rw [rFold_s, if_neg hn]
  exact k (by
    rcases Nat.lt_or_ge f i with q | q
    · exact q
    · have : i = f := by omega
      rw [this] at hn
      exact absurd hf hn)
theorem ArI.beg {pc : Nat → Nat → Nat} {lab : Nat → Nat} {f m : Nat} {h0 h : Nat → Int32} {lo : Int32} (H : ArI pc lab f m f h0 h lo) (hf : lab f = f) {v2 v3 : Nat} (e2 : v2 = pc f 2) (e3 : v3 = pc f 3) : ArI pc lab f m (f + 1) h0 (upd (upd (upd (upd h (7 * m + 1) (nI (pc f 1))) (7 * m + 2) (nI v2)) (7 * m + 3) (nI v3)) (7 * m + 4) (nI (0 + 1))) (nI (pc f 3 - pc f 2)) := by
  subst e2
  subst e3
  obtain ⟨a, b, c, d, e, k⟩ := H
  obtain ⟨u0, u1, u2, u3, u4_, u5, u6_, u7⟩ := @u4 h (7 * m) (nI (pc f 1)) (nI (pc f 2)) (nI (pc f 3)) (nI (0 + 1))
  refine ⟨fun x hx => (u7 x hx).trans (a x hx), u0.trans b, u5.trans c, u6_.trans d, fun z => absurd z (by omega), fun _ => ?_⟩
  rw [rFold_s, if_pos hf, if_pos rfl]
  exact ⟨rfl, u1, u2, u3, u4_⟩
theorem ArI.tak {pc : Nat → Nat → Nat} {lab : Nat → Nat} {f m i : Nat} {h0 h : Nat → Int32} {lo : Int32} (H : ArI pc lab f m i h0 h lo) (hf : lab i = f) (hi : f < i) {v : Nat} (ev : v = rTake (rFold pc lab f i) pc i 1) : ArI pc lab f m (i + 1) h0 (upd (upd (upd (upd h (7 * m + 1) (nI v)) (7 * m + 2) (nI (min (rFold pc lab f i 2) (pc i 2)))) (7 * m + 3) (nI (max (rFold pc lab f i 3) (pc i 3)))) (7 * m + 4) (nI (rFold pc lab f i 4 + 1))) (nI (max (rFold pc lab f i 6) (pc i 3 - pc i 2))) := by
  obtain ⟨a, b, c, d, e, k⟩ := H
  obtain ⟨u0, u1, u2, u3, u4_, u5, u6_, u7⟩ := @u4 h (7 * m) (nI v) (nI (min (rFold pc lab f i 2) (pc i 2))) (nI (max (rFold pc lab f i 3) (pc i 3))) (nI (rFold pc lab f i 4 + 1))
  refine ⟨fun x hx => (u7 x hx).trans (a x hx), u0.trans b, u5.trans c, u6_.trans d, fun z => absurd z (by omega), fun _ => ?_⟩
  rw [rFold_s, if_pos hf, if_neg (by omega)]
  exact ⟨rfl, u1.trans (congrArg nI ev), u2, u3, u4_⟩
theorem m1le {s : Nat} (h : s < 2 ^ 31) : -1 ≤ nI s := by
  rw [Int32.le_iff_toInt_le, nI_toInt h, show (-1 : Int32).toInt = -1 by decide]
  omega
set_option maxHeartbeats 4000000 in
set_option maxRecDepth 100000 in
theorem ct_greater1 {g : GG} {σ : SG} {b : Nat} (hb : b < 2 ^ 31) : Cti g yX10_greater cX10_greater 2 (some .int) (rmm 0 0) [.int (-1), .int (nI b)] σ (fun r σ' => r = nI b ∧ σ' = σ) := by
  refine ct_of (own := RX10) (lv := [some (.int (-1)), some (.int (nI b))]) rfl (by decide) (Nat.le_of_ble_eq_true rfl) (by intro u hu; simp only [List.mem_cons, List.not_mem_nil, or_false] at hu; rcases hu with rfl | rfl <;> rfl) (lv_ok [.int (-1), .int (nI b)] 0) ?_
  refine aw_iload_n dX10_greater_0 rfl ?_
  refine aw_iload_n dX10_greater_1 rfl ?_
  refine aw_icmp_le dX10_greater_2 (fun h_2 => ?_) (fun h_2 => absurd h_2 (not_not_intro (m1le hb)))
  refine aw_iload_n dX10_greater_9 rfl ?_
  exact aw_ireti dX10_greater_10 (⟨rfl, rfl⟩)

set_option maxHeartbeats 4000000 in
set_option maxRecDepth 100000 in
theorem ct_addRule {g : GG} {σ : SG} {c m f : Nat} {pc : Nat → Nat → Nat} {lab : Nat → Nat} (hc : σ.1 321 176 = nI c) (hc24 : c ≤ 24) (hp : ∀ p w, p < c → w < 4 → σ.2.1 177 (4 * p + w) = nI (pc p w)) (hb : ∀ p w, pc p w ≤ 99) (hlt : ∀ p, p < c → pc p 2 < pc p 3) (hL : ∀ k, k < c → σ.2.1 180 k = nI (lab k)) (hle : ∀ k, lab k ≤ k) (hm : σ.1 328 176 = nI m) (hm24 : m < 24) (hf : f < c) (hff : lab f = f) : Ctv g yX10_addRule cX10_addRule 6 (rmm 1 22) [.ref (ad g 176), .int (nI f)] σ (fun σ' => ∃ h, σ' = (uI σ.1 328 176 (nI (m + 1)), uA σ.2.1 181 h, σ.2.2) ∧ (∀ x, x < 7 * m → h x = σ.2.1 181 x) ∧ (∀ j, j < 6 → h (7 * m + j) = nI (rFold pc lab f c j)) ∧ h (7 * m + 6) = -6) := by
  refine ct_of (own := RX10) (lv := [some (.ref (ad g 176)), some (.int (nI f)), none, none, none, none]) rfl (by decide) (Nat.le_of_ble_eq_true rfl) (by intro u hu; simp only [List.mem_cons, List.not_mem_nil, or_false] at hu; rcases hu with rfl | rfl <;> rfl) (lv_ok [.ref (ad g 176), .int (nI f)] 4) ?_
  have hl177 := l_177
  have hl180 := l_180
  have hl181 := l_181
  have bf0 := hb f 0
  refine aw_bi (nI 7) dX10_addRule_0 (by decide) ?_
  refine aw_aload_n dX10_addRule_2 rfl ?_
  refine gf10_ruleMany dX10_addRule_3 kf10_105 k_176 ?_
  refine aw_eq hm ?_
  refine aw_imul dX10_addRule_6 ?_
  refine aw_eq (show _ = nI (7 * m) by rw [pk_mul]) ?_
  refine aw_istore_n dX10_addRule_7 (Nat.le_of_ble_eq_true rfl) ?_
  refine aw_ic (-1) dX10_addRule_8 (by decide) ?_
  refine aw_istore_n dX10_addRule_9 (Nat.le_of_ble_eq_true rfl) ?_
  refine aw_aload_n dX10_addRule_10 rfl ?_
  refine gf10_rules dX10_addRule_11 kf10_22 k_176 ?_
  refine aw_eqr (b := 181) rfl ?_
  refine aw_iload_n dX10_addRule_14 rfl ?_
  refine aw_aload_n dX10_addRule_15 rfl ?_
  refine aw_iload_n dX10_addRule_16 rfl ?_
  refine aw_ic (nI 0) dX10_addRule_17 (by decide) ?_
  refine cqi2 dX10_addRule_18 km10_95 ok_X10_pieceAt rfl rfl (by decide) k_176 (Nat.le_of_ble_eq_true rfl) ⟨Nat.le_of_ble_eq_true rfl, Nat.le_of_ble_eq_true rfl⟩ rfl rfl (ct_pieceAt (r := f) (w := 0) (by omega)) ?_
  refine aw_eq (hp f 0 hf (by decide)) ?_
  refine aw_sto (7 * m) dX10_addRule_21 k_181 (rfl) (by omega) ?_
  refine aw_aload_n dX10_addRule_22 rfl ?_
  refine gf10_rules dX10_addRule_23 kf10_22 k_176 ?_
  refine aw_eqr (b := 181) rfl ?_
  refine aw_iload_n dX10_addRule_26 rfl ?_
  refine aw_ic (nI 2) dX10_addRule_27 (by decide) ?_
  refine aw_iadd dX10_addRule_28 ?_
  refine aw_bi (nI 99) dX10_addRule_29 (by decide) ?_
  refine aw_sto (7 * m + 2) dX10_addRule_31 k_181 (by rw [nI_add]) (by omega) ?_
  refine aw_sg (show _ = (σ.1, uA σ.2.1 181 (upd (upd (σ.2.1 181) (7 * m) (nI (pc f 0))) (7 * m + 2) (nI 99)), σ.2.2) by rw [uA_s, uA_uA]) ?_
  refine aw_aload_n dX10_addRule_32 rfl ?_
  refine gf10_rules dX10_addRule_33 kf10_22 k_176 ?_
  refine aw_eqr (b := 181) rfl ?_
  refine aw_iload_n dX10_addRule_36 rfl ?_
  refine aw_ic (nI 3) dX10_addRule_37 (by decide) ?_
  refine aw_iadd dX10_addRule_38 ?_
  refine aw_ic (nI 0) dX10_addRule_39 (by decide) ?_
  refine aw_sto (7 * m + 3) dX10_addRule_40 k_181 (by rw [nI_add]) (by omega) ?_
  refine aw_sg (show _ = (σ.1, uA σ.2.1 181 (upd (upd (upd (σ.2.1 181) (7 * m) (nI (pc f 0))) (7 * m + 2) (nI 99)) (7 * m + 3) (nI 0)), σ.2.2) by rw [uA_s, uA_uA]) ?_
  refine aw_aload_n dX10_addRule_41 rfl ?_
  refine gf10_rules dX10_addRule_42 kf10_22 k_176 ?_
  refine aw_eqr (b := 181) rfl ?_
  refine aw_iload_n dX10_addRule_45 rfl ?_
  refine aw_ic (nI 4) dX10_addRule_46 (by decide) ?_
  refine aw_iadd dX10_addRule_47 ?_
  refine aw_ic (nI 0) dX10_addRule_48 (by decide) ?_
  refine aw_sto (7 * m + 4) dX10_addRule_49 k_181 (by rw [nI_add]) (by omega) ?_
  refine aw_sg (show _ = (σ.1, uA σ.2.1 181 (upd (upd (upd (upd (σ.2.1 181) (7 * m) (nI (pc f 0))) (7 * m + 2) (nI 99)) (7 * m + 3) (nI 0)) (7 * m + 4) (nI 0)), σ.2.2) by rw [uA_s, uA_uA]) ?_
  refine aw_aload_n dX10_addRule_50 rfl ?_
  refine gf10_rules dX10_addRule_51 kf10_22 k_176 ?_
  refine aw_eqr (b := 181) rfl ?_
  refine aw_iload_n dX10_addRule_54 rfl ?_
  refine aw_ic (nI 5) dX10_addRule_55 (by decide) ?_
  refine aw_iadd dX10_addRule_56 ?_
  refine aw_iload_n dX10_addRule_57 rfl ?_
  refine aw_sto (7 * m + 5) dX10_addRule_58 k_181 (by rw [nI_add]) (by omega) ?_
  refine aw_sg (show _ = (σ.1, uA σ.2.1 181 (upd (upd (upd (upd (upd (σ.2.1 181) (7 * m) (nI (pc f 0))) (7 * m + 2) (nI 99)) (7 * m + 3) (nI 0)) (7 * m + 4) (nI 0)) (7 * m + 5) (nI f)), σ.2.2) by rw [uA_s, uA_uA]) ?_
  refine aw_aload_n dX10_addRule_59 rfl ?_
  refine gf10_rules dX10_addRule_60 kf10_22 k_176 ?_
  refine aw_eqr (b := 181) rfl ?_
  refine aw_iload_n dX10_addRule_63 rfl ?_
  refine aw_bi (nI 6) dX10_addRule_64 (by decide) ?_
  refine aw_iadd dX10_addRule_66 ?_
  refine aw_bi (-6) dX10_addRule_67 (by decide) ?_
  refine aw_sto (7 * m + 6) dX10_addRule_69 k_181 (by rw [nI_add]) (by omega) ?_
  refine aw_sg (show _ = (σ.1, uA σ.2.1 181 (upd (upd (upd (upd (upd (upd (σ.2.1 181) (7 * m) (nI (pc f 0))) (7 * m + 2) (nI 99)) (7 * m + 3) (nI 0)) (7 * m + 4) (nI 0)) (7 * m + 5) (nI f)) (7 * m + 6) (-6)), σ.2.2) by rw [uA_s, uA_uA]) ?_
  refine aw_ic (nI 0) dX10_addRule_70 (by decide) ?_
  refine aw_istore dX10_addRule_71 (Nat.le_of_ble_eq_true rfl) ?_
  obtain ⟨h0, eh, a0, a2, a3, a4, a5, a6, a7⟩ := @u6 (σ.2.1 181) (7 * m) (nI (pc f 0)) (nI 99) (nI 0) (nI 0) (nI f) (-6)
  rw [eh]
  refine for_ux (fun i σ' lv' => ∃ h lo x, σ' = (σ.1, uA σ.2.1 181 h, σ.2.2) ∧ ArI pc lab f m i (σ.2.1 181) h lo ∧ lv' = [some (.ref (ad g 176)), some (.int (nI f)), some (.int (nI (7 * m))), some (.int (lo)), some (.int (nI i)), x]) (c) ?_ ?_ (0) _ _ (by omega) (⟨h0, _, _, rfl, ⟨a7, a0, a5, a6, fun _ => ⟨rfl, a2, a3, a4⟩, fun z => absurd z (Nat.not_lt_zero f)⟩, rfl⟩)
  · rintro i σ2 lv2 hi ⟨h, lo, x, rfl, H, rfl⟩ ih
    by_cases hn : lab i = f
    · skip
      have hfi : f ≤ i := by have := hle i; omega
      have h23 := hlt i (by omega)
      have p1 := hb i 1
      have p2 := hb i 2
      have p3 := hb i 3
      rcases Nat.lt_or_ge f i with hlt | hge
      · skip
        obtain ⟨e6, e1, e2, e3, e4⟩ := H.2.2.2.2.2 hlt
        obtain ⟨-, q1, q2, q3, q4, -, q6⟩ := rFold_B (lab := lab) (r := f) (p := i) hc24 (fun p w _ _ => hb p w) (by omega)
        by_cases hsz : rFold pc lab f i 6 < pc i 3 - pc i 2
        · skip
          refine aw_iload dX10_addRule_73 rfl ?_
          refine aw_aload_n dX10_addRule_75 rfl ?_
          refine gf10_drawnMany dX10_addRule_76 kf10_80 k_176 ?_
          refine aw_eq hc ?_
          refine aw_icmp_geN dX10_addRule_79 rfl rfl (by omega) (by omega) (fun h_79 => absurd h_79 (by omega)) (fun h_79 => ?_)
          refine aw_aload_n dX10_addRule_82 rfl ?_
          refine gf10_label dX10_addRule_83 kf10_19 k_176 ?_
          refine aw_eqr (b := 180) rfl ?_
          refine aw_iload dX10_addRule_86 rfl ?_
          refine aw_ld (i) dX10_addRule_88 k_180 (rfl) (by omega) ?_
          refine aw_eq ((congrFun (uA_n (by decide)) _).trans (hL i (by omega))) ?_
          refine aw_iload_n dX10_addRule_89 rfl ?_
          refine aw_icmp_neN dX10_addRule_90 rfl rfl (by have := hle i; omega) (by omega) (fun h_90 => absurd h_90 (by omega)) (fun h_90 => ?_)
          refine aw_aload_n dX10_addRule_93 rfl ?_
          refine aw_iload dX10_addRule_94 rfl ?_
          refine aw_ic (nI 3) dX10_addRule_96 (by decide) ?_
          refine cqi2 dX10_addRule_97 km10_95 ok_X10_pieceAt rfl rfl (by decide) k_176 (Nat.le_of_ble_eq_true rfl) ⟨Nat.le_of_ble_eq_true rfl, Nat.le_of_ble_eq_true rfl⟩ rfl rfl (ct_pieceAt (r := i) (w := 3) (by omega)) ?_
          refine aw_eq (tA (by decide) (hp i 3 (by omega) (by decide))) ?_
          refine aw_aload_n dX10_addRule_100 rfl ?_
          refine aw_iload dX10_addRule_101 rfl ?_
          refine aw_ic (nI 2) dX10_addRule_103 (by decide) ?_
          refine cqi2 dX10_addRule_104 km10_95 ok_X10_pieceAt rfl rfl (by decide) k_176 (Nat.le_of_ble_eq_true rfl) ⟨Nat.le_of_ble_eq_true rfl, Nat.le_of_ble_eq_true rfl⟩ rfl rfl (ct_pieceAt (r := i) (w := 2) (by omega)) ?_
          refine aw_eq (tA (by decide) (hp i 2 (by omega) (by decide))) ?_
          refine aw_isub dX10_addRule_107 ?_
          refine aw_eq (show _ = nI (pc i 3 - pc i 2) from pk_sub (by omega)) ?_
          refine aw_istore dX10_addRule_108 (Nat.le_of_ble_eq_true rfl) ?_
          refine aw_aload_n dX10_addRule_110 rfl ?_
          refine gf10_rules dX10_addRule_111 kf10_22 k_176 ?_
          refine aw_eqr (b := 181) rfl ?_
          refine aw_iload_n dX10_addRule_114 rfl ?_
          refine aw_ic (nI 1) dX10_addRule_115 (by decide) ?_
          refine aw_iadd dX10_addRule_116 ?_
          refine aw_iload dX10_addRule_117 rfl ?_
          refine aw_iload_n dX10_addRule_119 rfl ?_
          refine aw_eq e6 ?_
          refine aw_icmp_leN dX10_addRule_120 rfl rfl (by omega) (by omega) (fun h_120 => absurd h_120 (by omega)) (fun h_120 => ?_)
          refine aw_aload_n dX10_addRule_123 rfl ?_
          refine aw_iload dX10_addRule_124 rfl ?_
          refine aw_ic (nI 1) dX10_addRule_126 (by decide) ?_
          refine cqi2 dX10_addRule_127 km10_95 ok_X10_pieceAt rfl rfl (by decide) k_176 (Nat.le_of_ble_eq_true rfl) ⟨Nat.le_of_ble_eq_true rfl, Nat.le_of_ble_eq_true rfl⟩ rfl rfl (ct_pieceAt (r := i) (w := 1) (by omega)) ?_
          refine aw_eq (tA (by decide) (hp i 1 (by omega) (by decide))) ?_
          refine aw_goto dX10_addRule_130 ?_
          refine aw_sto (7 * m + 1) dX10_addRule_141 k_181 (by rw [nI_add]) (by omega) ?_
          refine aw_sg (show _ = (σ.1, uA σ.2.1 181 (upd (h) (7 * m + 1) (nI (pc i 1))), σ.2.2) by rw [uA_s, uA_uA]) ?_
          refine aw_iload_n dX10_addRule_142 rfl ?_
          refine aw_eq e6 ?_
          refine aw_iload dX10_addRule_143 rfl ?_
          refine csq2 dX10_addRule_145 km10_99 ok_X10_greater (Nat.le_of_ble_eq_true rfl) ⟨Nat.le_of_ble_eq_true rfl, Nat.le_of_ble_eq_true rfl⟩ rfl rfl (ct_greater (by omega) (by omega)) ?_
          refine aw_istore_n dX10_addRule_148 (Nat.le_of_ble_eq_true rfl) ?_
          refine aw_aload_n dX10_addRule_149 rfl ?_
          refine gf10_rules dX10_addRule_150 kf10_22 k_176 ?_
          refine aw_eqr (b := 181) rfl ?_
          refine aw_iload_n dX10_addRule_153 rfl ?_
          refine aw_ic (nI 2) dX10_addRule_154 (by decide) ?_
          refine aw_iadd dX10_addRule_155 ?_
          refine aw_aload_n dX10_addRule_156 rfl ?_
          refine gf10_rules dX10_addRule_157 kf10_22 k_176 ?_
          refine aw_eqr (b := 181) rfl ?_
          refine aw_iload_n dX10_addRule_160 rfl ?_
          refine aw_ic (nI 2) dX10_addRule_161 (by decide) ?_
          refine aw_iadd dX10_addRule_162 ?_
          refine aw_ld (7 * m + 2) dX10_addRule_163 k_181 (by rw [nI_add]) (by omega) ?_
          refine aw_eq ((congrFun (uA_s _ _ _) _).trans ((pk_un (by omega)).trans e2)) ?_
          refine aw_aload_n dX10_addRule_164 rfl ?_
          refine aw_iload dX10_addRule_165 rfl ?_
          refine aw_ic (nI 2) dX10_addRule_167 (by decide) ?_
          refine cqi2 dX10_addRule_168 km10_95 ok_X10_pieceAt rfl rfl (by decide) k_176 (Nat.le_of_ble_eq_true rfl) ⟨Nat.le_of_ble_eq_true rfl, Nat.le_of_ble_eq_true rfl⟩ rfl rfl (ct_pieceAt (r := i) (w := 2) (by omega)) ?_
          refine aw_eq (tA (by decide) (hp i 2 (by omega) (by decide))) ?_
          refine csq2 dX10_addRule_171 km10_102 ok_X10_less (Nat.le_of_ble_eq_true rfl) ⟨Nat.le_of_ble_eq_true rfl, Nat.le_of_ble_eq_true rfl⟩ rfl rfl (ct_less (by omega) (by omega)) ?_
          refine aw_sto (7 * m + 2) dX10_addRule_174 k_181 (by rw [nI_add]) (by omega) ?_
          refine aw_sg (show _ = (σ.1, uA σ.2.1 181 (upd (upd (h) (7 * m + 1) (nI (pc i 1))) (7 * m + 2) (nI (min (rFold pc lab f i 2) (pc i 2)))), σ.2.2) by rw [uA_s, uA_uA]) ?_
          refine aw_aload_n dX10_addRule_175 rfl ?_
          refine gf10_rules dX10_addRule_176 kf10_22 k_176 ?_
          refine aw_eqr (b := 181) rfl ?_
          refine aw_iload_n dX10_addRule_179 rfl ?_
          refine aw_ic (nI 3) dX10_addRule_180 (by decide) ?_
          refine aw_iadd dX10_addRule_181 ?_
          refine aw_aload_n dX10_addRule_182 rfl ?_
          refine gf10_rules dX10_addRule_183 kf10_22 k_176 ?_
          refine aw_eqr (b := 181) rfl ?_
          refine aw_iload_n dX10_addRule_186 rfl ?_
          refine aw_ic (nI 3) dX10_addRule_187 (by decide) ?_
          refine aw_iadd dX10_addRule_188 ?_
          refine aw_ld (7 * m + 3) dX10_addRule_189 k_181 (by rw [nI_add]) (by omega) ?_
          refine aw_eq ((congrFun (uA_s _ _ _) _).trans ((pk_un (by omega)).trans ((pk_un (by omega)).trans e3))) ?_
          refine aw_aload_n dX10_addRule_190 rfl ?_
          refine aw_iload dX10_addRule_191 rfl ?_
          refine aw_ic (nI 3) dX10_addRule_193 (by decide) ?_
          refine cqi2 dX10_addRule_194 km10_95 ok_X10_pieceAt rfl rfl (by decide) k_176 (Nat.le_of_ble_eq_true rfl) ⟨Nat.le_of_ble_eq_true rfl, Nat.le_of_ble_eq_true rfl⟩ rfl rfl (ct_pieceAt (r := i) (w := 3) (by omega)) ?_
          refine aw_eq (tA (by decide) (hp i 3 (by omega) (by decide))) ?_
          refine csq2 dX10_addRule_197 km10_99 ok_X10_greater (Nat.le_of_ble_eq_true rfl) ⟨Nat.le_of_ble_eq_true rfl, Nat.le_of_ble_eq_true rfl⟩ rfl rfl (ct_greater (by omega) (by omega)) ?_
          refine aw_sto (7 * m + 3) dX10_addRule_200 k_181 (by rw [nI_add]) (by omega) ?_
          refine aw_sg (show _ = (σ.1, uA σ.2.1 181 (upd (upd (upd (h) (7 * m + 1) (nI (pc i 1))) (7 * m + 2) (nI (min (rFold pc lab f i 2) (pc i 2)))) (7 * m + 3) (nI (max (rFold pc lab f i 3) (pc i 3)))), σ.2.2) by rw [uA_s, uA_uA]) ?_
          refine aw_aload_n dX10_addRule_201 rfl ?_
          refine gf10_rules dX10_addRule_202 kf10_22 k_176 ?_
          refine aw_eqr (b := 181) rfl ?_
          refine aw_iload_n dX10_addRule_205 rfl ?_
          refine aw_ic (nI 4) dX10_addRule_206 (by decide) ?_
          refine aw_iadd dX10_addRule_207 ?_
          refine aw_dup2 dX10_addRule_208 rfl rfl ?_
          refine aw_ld (7 * m + 4) dX10_addRule_209 k_181 (by rw [nI_add]) (by omega) ?_
          refine aw_eq ((congrFun (uA_s _ _ _) _).trans ((pk_un (by omega)).trans ((pk_un (by omega)).trans ((pk_un (by omega)).trans e4)))) ?_
          refine aw_ic (nI 1) dX10_addRule_210 (by decide) ?_
          refine aw_iadd dX10_addRule_211 ?_
          refine aw_eq (show _ = nI (rFold pc lab f i 4 + 1) by rw [nI_add]) ?_
          refine aw_sto (7 * m + 4) dX10_addRule_212 k_181 (by rw [nI_add]) (by omega) ?_
          refine aw_sg (show _ = (σ.1, uA σ.2.1 181 (upd (upd (upd (upd (h) (7 * m + 1) (nI (pc i 1))) (7 * m + 2) (nI (min (rFold pc lab f i 2) (pc i 2)))) (7 * m + 3) (nI (max (rFold pc lab f i 3) (pc i 3)))) (7 * m + 4) (nI (rFold pc lab f i 4 + 1))), σ.2.2) by rw [uA_s, uA_uA]) ?_
          refine aw_inc (nI (i + 1)) dX10_addRule_213 rfl (Nat.le_of_ble_eq_true rfl) (nI_1 i) ?_
          refine aw_goto dX10_addRule_216 ?_
          exact ih _ _ ⟨_, _, _, rfl, H.tak hn hlt (by unfold rTake; rw [if_pos rfl]; rw [if_pos (by omega)]), rfl⟩
        · skip
          refine aw_iload dX10_addRule_73 rfl ?_
          refine aw_aload_n dX10_addRule_75 rfl ?_
          refine gf10_drawnMany dX10_addRule_76 kf10_80 k_176 ?_
          refine aw_eq hc ?_
          refine aw_icmp_geN dX10_addRule_79 rfl rfl (by omega) (by omega) (fun h_79 => absurd h_79 (by omega)) (fun h_79 => ?_)
          refine aw_aload_n dX10_addRule_82 rfl ?_
          refine gf10_label dX10_addRule_83 kf10_19 k_176 ?_
          refine aw_eqr (b := 180) rfl ?_
          refine aw_iload dX10_addRule_86 rfl ?_
          refine aw_ld (i) dX10_addRule_88 k_180 (rfl) (by omega) ?_
          refine aw_eq ((congrFun (uA_n (by decide)) _).trans (hL i (by omega))) ?_
          refine aw_iload_n dX10_addRule_89 rfl ?_
          refine aw_icmp_neN dX10_addRule_90 rfl rfl (by have := hle i; omega) (by omega) (fun h_90 => absurd h_90 (by omega)) (fun h_90 => ?_)
          refine aw_aload_n dX10_addRule_93 rfl ?_
          refine aw_iload dX10_addRule_94 rfl ?_
          refine aw_ic (nI 3) dX10_addRule_96 (by decide) ?_
          refine cqi2 dX10_addRule_97 km10_95 ok_X10_pieceAt rfl rfl (by decide) k_176 (Nat.le_of_ble_eq_true rfl) ⟨Nat.le_of_ble_eq_true rfl, Nat.le_of_ble_eq_true rfl⟩ rfl rfl (ct_pieceAt (r := i) (w := 3) (by omega)) ?_
          refine aw_eq (tA (by decide) (hp i 3 (by omega) (by decide))) ?_
          refine aw_aload_n dX10_addRule_100 rfl ?_
          refine aw_iload dX10_addRule_101 rfl ?_
          refine aw_ic (nI 2) dX10_addRule_103 (by decide) ?_
          refine cqi2 dX10_addRule_104 km10_95 ok_X10_pieceAt rfl rfl (by decide) k_176 (Nat.le_of_ble_eq_true rfl) ⟨Nat.le_of_ble_eq_true rfl, Nat.le_of_ble_eq_true rfl⟩ rfl rfl (ct_pieceAt (r := i) (w := 2) (by omega)) ?_
          refine aw_eq (tA (by decide) (hp i 2 (by omega) (by decide))) ?_
          refine aw_isub dX10_addRule_107 ?_
          refine aw_eq (show _ = nI (pc i 3 - pc i 2) from pk_sub (by omega)) ?_
          refine aw_istore dX10_addRule_108 (Nat.le_of_ble_eq_true rfl) ?_
          refine aw_aload_n dX10_addRule_110 rfl ?_
          refine gf10_rules dX10_addRule_111 kf10_22 k_176 ?_
          refine aw_eqr (b := 181) rfl ?_
          refine aw_iload_n dX10_addRule_114 rfl ?_
          refine aw_ic (nI 1) dX10_addRule_115 (by decide) ?_
          refine aw_iadd dX10_addRule_116 ?_
          refine aw_iload dX10_addRule_117 rfl ?_
          refine aw_iload_n dX10_addRule_119 rfl ?_
          refine aw_eq e6 ?_
          refine aw_icmp_leN dX10_addRule_120 rfl rfl (by omega) (by omega) (fun h_120 => ?_) (fun h_120 => absurd h_120 (by omega))
          refine aw_aload_n dX10_addRule_133 rfl ?_
          refine gf10_rules dX10_addRule_134 kf10_22 k_176 ?_
          refine aw_eqr (b := 181) rfl ?_
          refine aw_iload_n dX10_addRule_137 rfl ?_
          refine aw_ic (nI 1) dX10_addRule_138 (by decide) ?_
          refine aw_iadd dX10_addRule_139 ?_
          refine aw_ld (7 * m + 1) dX10_addRule_140 k_181 (by rw [nI_add]) (by omega) ?_
          refine aw_eq ((congrFun (uA_s _ _ _) _).trans e1) ?_
          refine aw_sto (7 * m + 1) dX10_addRule_141 k_181 (by rw [nI_add]) (by omega) ?_
          refine aw_sg (show _ = (σ.1, uA σ.2.1 181 (upd (h) (7 * m + 1) (nI (rFold pc lab f i 1))), σ.2.2) by rw [uA_s, uA_uA]) ?_
          refine aw_iload_n dX10_addRule_142 rfl ?_
          refine aw_eq e6 ?_
          refine aw_iload dX10_addRule_143 rfl ?_
          refine csq2 dX10_addRule_145 km10_99 ok_X10_greater (Nat.le_of_ble_eq_true rfl) ⟨Nat.le_of_ble_eq_true rfl, Nat.le_of_ble_eq_true rfl⟩ rfl rfl (ct_greater (by omega) (by omega)) ?_
          refine aw_istore_n dX10_addRule_148 (Nat.le_of_ble_eq_true rfl) ?_
          refine aw_aload_n dX10_addRule_149 rfl ?_
          refine gf10_rules dX10_addRule_150 kf10_22 k_176 ?_
          refine aw_eqr (b := 181) rfl ?_
          refine aw_iload_n dX10_addRule_153 rfl ?_
          refine aw_ic (nI 2) dX10_addRule_154 (by decide) ?_
          refine aw_iadd dX10_addRule_155 ?_
          refine aw_aload_n dX10_addRule_156 rfl ?_
          refine gf10_rules dX10_addRule_157 kf10_22 k_176 ?_
          refine aw_eqr (b := 181) rfl ?_
          refine aw_iload_n dX10_addRule_160 rfl ?_
          refine aw_ic (nI 2) dX10_addRule_161 (by decide) ?_
          refine aw_iadd dX10_addRule_162 ?_
          refine aw_ld (7 * m + 2) dX10_addRule_163 k_181 (by rw [nI_add]) (by omega) ?_
          refine aw_eq ((congrFun (uA_s _ _ _) _).trans ((pk_un (by omega)).trans e2)) ?_
          refine aw_aload_n dX10_addRule_164 rfl ?_
          refine aw_iload dX10_addRule_165 rfl ?_
          refine aw_ic (nI 2) dX10_addRule_167 (by decide) ?_
          refine cqi2 dX10_addRule_168 km10_95 ok_X10_pieceAt rfl rfl (by decide) k_176 (Nat.le_of_ble_eq_true rfl) ⟨Nat.le_of_ble_eq_true rfl, Nat.le_of_ble_eq_true rfl⟩ rfl rfl (ct_pieceAt (r := i) (w := 2) (by omega)) ?_
          refine aw_eq (tA (by decide) (hp i 2 (by omega) (by decide))) ?_
          refine csq2 dX10_addRule_171 km10_102 ok_X10_less (Nat.le_of_ble_eq_true rfl) ⟨Nat.le_of_ble_eq_true rfl, Nat.le_of_ble_eq_true rfl⟩ rfl rfl (ct_less (by omega) (by omega)) ?_
          refine aw_sto (7 * m + 2) dX10_addRule_174 k_181 (by rw [nI_add]) (by omega) ?_
          refine aw_sg (show _ = (σ.1, uA σ.2.1 181 (upd (upd (h) (7 * m + 1) (nI (rFold pc lab f i 1))) (7 * m + 2) (nI (min (rFold pc lab f i 2) (pc i 2)))), σ.2.2) by rw [uA_s, uA_uA]) ?_
          refine aw_aload_n dX10_addRule_175 rfl ?_
          refine gf10_rules dX10_addRule_176 kf10_22 k_176 ?_
          refine aw_eqr (b := 181) rfl ?_
          refine aw_iload_n dX10_addRule_179 rfl ?_
          refine aw_ic (nI 3) dX10_addRule_180 (by decide) ?_
          refine aw_iadd dX10_addRule_181 ?_
          refine aw_aload_n dX10_addRule_182 rfl ?_
          refine gf10_rules dX10_addRule_183 kf10_22 k_176 ?_
          refine aw_eqr (b := 181) rfl ?_
          refine aw_iload_n dX10_addRule_186 rfl ?_
          refine aw_ic (nI 3) dX10_addRule_187 (by decide) ?_
          refine aw_iadd dX10_addRule_188 ?_
          refine aw_ld (7 * m + 3) dX10_addRule_189 k_181 (by rw [nI_add]) (by omega) ?_
          refine aw_eq ((congrFun (uA_s _ _ _) _).trans ((pk_un (by omega)).trans ((pk_un (by omega)).trans e3))) ?_
          refine aw_aload_n dX10_addRule_190 rfl ?_
          refine aw_iload dX10_addRule_191 rfl ?_
          refine aw_ic (nI 3) dX10_addRule_193 (by decide) ?_
          refine cqi2 dX10_addRule_194 km10_95 ok_X10_pieceAt rfl rfl (by decide) k_176 (Nat.le_of_ble_eq_true rfl) ⟨Nat.le_of_ble_eq_true rfl, Nat.le_of_ble_eq_true rfl⟩ rfl rfl (ct_pieceAt (r := i) (w := 3) (by omega)) ?_
          refine aw_eq (tA (by decide) (hp i 3 (by omega) (by decide))) ?_
          refine csq2 dX10_addRule_197 km10_99 ok_X10_greater (Nat.le_of_ble_eq_true rfl) ⟨Nat.le_of_ble_eq_true rfl, Nat.le_of_ble_eq_true rfl⟩ rfl rfl (ct_greater (by omega) (by omega)) ?_
          refine aw_sto (7 * m + 3) dX10_addRule_200 k_181 (by rw [nI_add]) (by omega) ?_
          refine aw_sg (show _ = (σ.1, uA σ.2.1 181 (upd (upd (upd (h) (7 * m + 1) (nI (rFold pc lab f i 1))) (7 * m + 2) (nI (min (rFold pc lab f i 2) (pc i 2)))) (7 * m + 3) (nI (max (rFold pc lab f i 3) (pc i 3)))), σ.2.2) by rw [uA_s, uA_uA]) ?_
          refine aw_aload_n dX10_addRule_201 rfl ?_
          refine gf10_rules dX10_addRule_202 kf10_22 k_176 ?_
          refine aw_eqr (b := 181) rfl ?_
          refine aw_iload_n dX10_addRule_205 rfl ?_
          refine aw_ic (nI 4) dX10_addRule_206 (by decide) ?_
          refine aw_iadd dX10_addRule_207 ?_
          refine aw_dup2 dX10_addRule_208 rfl rfl ?_
          refine aw_ld (7 * m + 4) dX10_addRule_209 k_181 (by rw [nI_add]) (by omega) ?_
          refine aw_eq ((congrFun (uA_s _ _ _) _).trans ((pk_un (by omega)).trans ((pk_un (by omega)).trans ((pk_un (by omega)).trans e4)))) ?_
          refine aw_ic (nI 1) dX10_addRule_210 (by decide) ?_
          refine aw_iadd dX10_addRule_211 ?_
          refine aw_eq (show _ = nI (rFold pc lab f i 4 + 1) by rw [nI_add]) ?_
          refine aw_sto (7 * m + 4) dX10_addRule_212 k_181 (by rw [nI_add]) (by omega) ?_
          refine aw_sg (show _ = (σ.1, uA σ.2.1 181 (upd (upd (upd (upd (h) (7 * m + 1) (nI (rFold pc lab f i 1))) (7 * m + 2) (nI (min (rFold pc lab f i 2) (pc i 2)))) (7 * m + 3) (nI (max (rFold pc lab f i 3) (pc i 3)))) (7 * m + 4) (nI (rFold pc lab f i 4 + 1))), σ.2.2) by rw [uA_s, uA_uA]) ?_
          refine aw_inc (nI (i + 1)) dX10_addRule_213 rfl (Nat.le_of_ble_eq_true rfl) (nI_1 i) ?_
          refine aw_goto dX10_addRule_216 ?_
          exact ih _ _ ⟨_, _, _, rfl, H.tak hn hlt (by unfold rTake; rw [if_pos rfl]; rw [if_neg (by omega)]), rfl⟩
      · skip
        have hif : i = f := by omega
        subst hif
        obtain ⟨e1, e2, e3, e4⟩ := H.2.2.2.2.1 (Nat.le_refl _)
        refine aw_iload dX10_addRule_73 rfl ?_
        refine aw_aload_n dX10_addRule_75 rfl ?_
        refine gf10_drawnMany dX10_addRule_76 kf10_80 k_176 ?_
        refine aw_eq hc ?_
        refine aw_icmp_geN dX10_addRule_79 rfl rfl (by omega) (by omega) (fun h_79 => absurd h_79 (by omega)) (fun h_79 => ?_)
        refine aw_aload_n dX10_addRule_82 rfl ?_
        refine gf10_label dX10_addRule_83 kf10_19 k_176 ?_
        refine aw_eqr (b := 180) rfl ?_
        refine aw_iload dX10_addRule_86 rfl ?_
        refine aw_ld (i) dX10_addRule_88 k_180 (rfl) (by omega) ?_
        refine aw_eq ((congrFun (uA_n (by decide)) _).trans (hL i (by omega))) ?_
        refine aw_iload_n dX10_addRule_89 rfl ?_
        refine aw_icmp_neN dX10_addRule_90 rfl rfl (by have := hle i; omega) (by omega) (fun h_90 => absurd h_90 (by omega)) (fun h_90 => ?_)
        refine aw_aload_n dX10_addRule_93 rfl ?_
        refine aw_iload dX10_addRule_94 rfl ?_
        refine aw_ic (nI 3) dX10_addRule_96 (by decide) ?_
        refine cqi2 dX10_addRule_97 km10_95 ok_X10_pieceAt rfl rfl (by decide) k_176 (Nat.le_of_ble_eq_true rfl) ⟨Nat.le_of_ble_eq_true rfl, Nat.le_of_ble_eq_true rfl⟩ rfl rfl (ct_pieceAt (r := i) (w := 3) (by omega)) ?_
        refine aw_eq (tA (by decide) (hp i 3 (by omega) (by decide))) ?_
        refine aw_aload_n dX10_addRule_100 rfl ?_
        refine aw_iload dX10_addRule_101 rfl ?_
        refine aw_ic (nI 2) dX10_addRule_103 (by decide) ?_
        refine cqi2 dX10_addRule_104 km10_95 ok_X10_pieceAt rfl rfl (by decide) k_176 (Nat.le_of_ble_eq_true rfl) ⟨Nat.le_of_ble_eq_true rfl, Nat.le_of_ble_eq_true rfl⟩ rfl rfl (ct_pieceAt (r := i) (w := 2) (by omega)) ?_
        refine aw_eq (tA (by decide) (hp i 2 (by omega) (by decide))) ?_
        refine aw_isub dX10_addRule_107 ?_
        refine aw_eq (show _ = nI (pc i 3 - pc i 2) from pk_sub (by omega)) ?_
        refine aw_istore dX10_addRule_108 (Nat.le_of_ble_eq_true rfl) ?_
        refine aw_aload_n dX10_addRule_110 rfl ?_
        refine gf10_rules dX10_addRule_111 kf10_22 k_176 ?_
        refine aw_eqr (b := 181) rfl ?_
        refine aw_iload_n dX10_addRule_114 rfl ?_
        refine aw_ic (nI 1) dX10_addRule_115 (by decide) ?_
        refine aw_iadd dX10_addRule_116 ?_
        refine aw_iload dX10_addRule_117 rfl ?_
        refine aw_iload_n dX10_addRule_119 rfl ?_
        refine aw_eq e1 ?_
        refine aw_icmp_le dX10_addRule_120 (fun h_120 => absurd h_120 (nm1 (by omega))) (fun h_120 => ?_)
        refine aw_aload_n dX10_addRule_123 rfl ?_
        refine aw_iload dX10_addRule_124 rfl ?_
        refine aw_ic (nI 1) dX10_addRule_126 (by decide) ?_
        refine cqi2 dX10_addRule_127 km10_95 ok_X10_pieceAt rfl rfl (by decide) k_176 (Nat.le_of_ble_eq_true rfl) ⟨Nat.le_of_ble_eq_true rfl, Nat.le_of_ble_eq_true rfl⟩ rfl rfl (ct_pieceAt (r := i) (w := 1) (by omega)) ?_
        refine aw_eq (tA (by decide) (hp i 1 (by omega) (by decide))) ?_
        refine aw_goto dX10_addRule_130 ?_
        refine aw_sto (7 * m + 1) dX10_addRule_141 k_181 (by rw [nI_add]) (by omega) ?_
        refine aw_sg (show _ = (σ.1, uA σ.2.1 181 (upd (h) (7 * m + 1) (nI (pc i 1))), σ.2.2) by rw [uA_s, uA_uA]) ?_
        refine aw_iload_n dX10_addRule_142 rfl ?_
        refine aw_eq e1 ?_
        refine aw_iload dX10_addRule_143 rfl ?_
        refine csq2 dX10_addRule_145 km10_99 ok_X10_greater (Nat.le_of_ble_eq_true rfl) ⟨Nat.le_of_ble_eq_true rfl, Nat.le_of_ble_eq_true rfl⟩ rfl rfl (ct_greater1 (by omega)) ?_
        refine aw_istore_n dX10_addRule_148 (Nat.le_of_ble_eq_true rfl) ?_
        refine aw_aload_n dX10_addRule_149 rfl ?_
        refine gf10_rules dX10_addRule_150 kf10_22 k_176 ?_
        refine aw_eqr (b := 181) rfl ?_
        refine aw_iload_n dX10_addRule_153 rfl ?_
        refine aw_ic (nI 2) dX10_addRule_154 (by decide) ?_
        refine aw_iadd dX10_addRule_155 ?_
        refine aw_aload_n dX10_addRule_156 rfl ?_
        refine gf10_rules dX10_addRule_157 kf10_22 k_176 ?_
        refine aw_eqr (b := 181) rfl ?_
        refine aw_iload_n dX10_addRule_160 rfl ?_
        refine aw_ic (nI 2) dX10_addRule_161 (by decide) ?_
        refine aw_iadd dX10_addRule_162 ?_
        refine aw_ld (7 * m + 2) dX10_addRule_163 k_181 (by rw [nI_add]) (by omega) ?_
        refine aw_eq ((congrFun (uA_s _ _ _) _).trans ((pk_un (by omega)).trans e2)) ?_
        refine aw_aload_n dX10_addRule_164 rfl ?_
        refine aw_iload dX10_addRule_165 rfl ?_
        refine aw_ic (nI 2) dX10_addRule_167 (by decide) ?_
        refine cqi2 dX10_addRule_168 km10_95 ok_X10_pieceAt rfl rfl (by decide) k_176 (Nat.le_of_ble_eq_true rfl) ⟨Nat.le_of_ble_eq_true rfl, Nat.le_of_ble_eq_true rfl⟩ rfl rfl (ct_pieceAt (r := i) (w := 2) (by omega)) ?_
        refine aw_eq (tA (by decide) (hp i 2 (by omega) (by decide))) ?_
        refine csq2 dX10_addRule_171 km10_102 ok_X10_less (Nat.le_of_ble_eq_true rfl) ⟨Nat.le_of_ble_eq_true rfl, Nat.le_of_ble_eq_true rfl⟩ rfl rfl (ct_less (by omega) (by omega)) ?_
        refine aw_sto (7 * m + 2) dX10_addRule_174 k_181 (by rw [nI_add]) (by omega) ?_
        refine aw_sg (show _ = (σ.1, uA σ.2.1 181 (upd (upd (h) (7 * m + 1) (nI (pc i 1))) (7 * m + 2) (nI (min 99 (pc i 2)))), σ.2.2) by rw [uA_s, uA_uA]) ?_
        refine aw_aload_n dX10_addRule_175 rfl ?_
        refine gf10_rules dX10_addRule_176 kf10_22 k_176 ?_
        refine aw_eqr (b := 181) rfl ?_
        refine aw_iload_n dX10_addRule_179 rfl ?_
        refine aw_ic (nI 3) dX10_addRule_180 (by decide) ?_
        refine aw_iadd dX10_addRule_181 ?_
        refine aw_aload_n dX10_addRule_182 rfl ?_
        refine gf10_rules dX10_addRule_183 kf10_22 k_176 ?_
        refine aw_eqr (b := 181) rfl ?_
        refine aw_iload_n dX10_addRule_186 rfl ?_
        refine aw_ic (nI 3) dX10_addRule_187 (by decide) ?_
        refine aw_iadd dX10_addRule_188 ?_
        refine aw_ld (7 * m + 3) dX10_addRule_189 k_181 (by rw [nI_add]) (by omega) ?_
        refine aw_eq ((congrFun (uA_s _ _ _) _).trans ((pk_un (by omega)).trans ((pk_un (by omega)).trans e3))) ?_
        refine aw_aload_n dX10_addRule_190 rfl ?_
        refine aw_iload dX10_addRule_191 rfl ?_
        refine aw_ic (nI 3) dX10_addRule_193 (by decide) ?_
        refine cqi2 dX10_addRule_194 km10_95 ok_X10_pieceAt rfl rfl (by decide) k_176 (Nat.le_of_ble_eq_true rfl) ⟨Nat.le_of_ble_eq_true rfl, Nat.le_of_ble_eq_true rfl⟩ rfl rfl (ct_pieceAt (r := i) (w := 3) (by omega)) ?_
        refine aw_eq (tA (by decide) (hp i 3 (by omega) (by decide))) ?_
        refine csq2 dX10_addRule_197 km10_99 ok_X10_greater (Nat.le_of_ble_eq_true rfl) ⟨Nat.le_of_ble_eq_true rfl, Nat.le_of_ble_eq_true rfl⟩ rfl rfl (ct_greater (by omega) (by omega)) ?_
        refine aw_sto (7 * m + 3) dX10_addRule_200 k_181 (by rw [nI_add]) (by omega) ?_
        refine aw_sg (show _ = (σ.1, uA σ.2.1 181 (upd (upd (upd (h) (7 * m + 1) (nI (pc i 1))) (7 * m + 2) (nI (min 99 (pc i 2)))) (7 * m + 3) (nI (max 0 (pc i 3)))), σ.2.2) by rw [uA_s, uA_uA]) ?_
        refine aw_aload_n dX10_addRule_201 rfl ?_
        refine gf10_rules dX10_addRule_202 kf10_22 k_176 ?_
        refine aw_eqr (b := 181) rfl ?_
        refine aw_iload_n dX10_addRule_205 rfl ?_
        refine aw_ic (nI 4) dX10_addRule_206 (by decide) ?_
        refine aw_iadd dX10_addRule_207 ?_
        refine aw_dup2 dX10_addRule_208 rfl rfl ?_
        refine aw_ld (7 * m + 4) dX10_addRule_209 k_181 (by rw [nI_add]) (by omega) ?_
        refine aw_eq ((congrFun (uA_s _ _ _) _).trans ((pk_un (by omega)).trans ((pk_un (by omega)).trans ((pk_un (by omega)).trans e4)))) ?_
        refine aw_ic (nI 1) dX10_addRule_210 (by decide) ?_
        refine aw_iadd dX10_addRule_211 ?_
        refine aw_eq (show _ = nI (0 + 1) by rw [nI_add]) ?_
        refine aw_sto (7 * m + 4) dX10_addRule_212 k_181 (by rw [nI_add]) (by omega) ?_
        refine aw_sg (show _ = (σ.1, uA σ.2.1 181 (upd (upd (upd (upd (h) (7 * m + 1) (nI (pc i 1))) (7 * m + 2) (nI (min 99 (pc i 2)))) (7 * m + 3) (nI (max 0 (pc i 3)))) (7 * m + 4) (nI (0 + 1))), σ.2.2) by rw [uA_s, uA_uA]) ?_
        refine aw_inc (nI (i + 1)) dX10_addRule_213 rfl (Nat.le_of_ble_eq_true rfl) (nI_1 i) ?_
        refine aw_goto dX10_addRule_216 ?_
        exact ih _ _ ⟨_, _, _, rfl, H.beg hff (by omega) (by omega), rfl⟩
    · skip
      refine aw_iload dX10_addRule_73 rfl ?_
      refine aw_aload_n dX10_addRule_75 rfl ?_
      refine gf10_drawnMany dX10_addRule_76 kf10_80 k_176 ?_
      refine aw_eq hc ?_
      refine aw_icmp_geN dX10_addRule_79 rfl rfl (by omega) (by omega) (fun h_79 => absurd h_79 (by omega)) (fun h_79 => ?_)
      refine aw_aload_n dX10_addRule_82 rfl ?_
      refine gf10_label dX10_addRule_83 kf10_19 k_176 ?_
      refine aw_eqr (b := 180) rfl ?_
      refine aw_iload dX10_addRule_86 rfl ?_
      refine aw_ld (i) dX10_addRule_88 k_180 (rfl) (by omega) ?_
      refine aw_eq ((congrFun (uA_n (by decide)) _).trans (hL i (by omega))) ?_
      refine aw_iload_n dX10_addRule_89 rfl ?_
      refine aw_icmp_neN dX10_addRule_90 rfl rfl (by have := hle i; omega) (by omega) (fun h_90 => ?_) (fun h_90 => absurd h_90 (by omega))
      refine aw_inc (nI (i + 1)) dX10_addRule_213 rfl (Nat.le_of_ble_eq_true rfl) (nI_1 i) ?_
      refine aw_goto dX10_addRule_216 ?_
      exact ih _ _ ⟨h, lo, x, rfl, H.skip hn hff, rfl⟩
  · rintro σ2 lv2 ⟨h, lo, x, rfl, H, rfl⟩
    refine aw_iload dX10_addRule_73 rfl ?_
    refine aw_aload_n dX10_addRule_75 rfl ?_
    refine gf10_drawnMany dX10_addRule_76 kf10_80 k_176 ?_
    refine aw_eq hc ?_
    refine aw_icmp_geN dX10_addRule_79 rfl rfl (by omega) (by omega) (fun h_79 => ?_) (fun h_79 => absurd h_79 (by omega))
    refine aw_aload_n dX10_addRule_219 rfl ?_
    refine aw_dup dX10_addRule_220 rfl ?_
    refine gf10_ruleMany dX10_addRule_221 kf10_105 k_176 ?_
    refine aw_eq hm ?_
    refine aw_ic (nI 1) dX10_addRule_224 (by decide) ?_
    refine aw_iadd dX10_addRule_225 ?_
    refine aw_eq (show _ = nI (m + 1) by rw [nI_add]) ?_
    refine pf10_ruleMany dX10_addRule_226 kf10_105 k_176 ?_
    exact aw_ret dX10_addRule_229 (by
      obtain ⟨e6, e1, e2, e3, e4⟩ := H.2.2.2.2.2 hf
      refine ⟨h, rfl, H.1, fun j hj => ?_, H.2.2.2.1⟩
      rcases (by omega : j = 0 ∨ j = 1 ∨ j = 2 ∨ j = 3 ∨ j = 4 ∨ j = 5) with rfl | rfl | rfl | rfl | rfl | rfl
      · rw [rFold_0 hff hf]; exact H.2.1
      · exact e1
      · exact e2
      · exact e3
      · exact e4
      · rw [rFold_5 hff hf]; exact H.2.2.1)

