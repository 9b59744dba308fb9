/-! all that is found on a page, out of its rules R (m of them), REACH rc, and its words -/
def l2 (R : Nat → Nat → Nat) (m rc : Nat) : Nat → Nat := labI (fun i j => crossN (R i) (R j) rc) m
def isN (R : Nat → Nat → Nat) (m rc : Nat) : Nat → Bool := isT m (l2 R m rc) R
def tbn (R : Nat → Nat → Nat) (m rc : Nat) : Nat := ctB (isN R m rc) m
def inN (R : Nat → Nat → Nat) (m rc t k : Nat) : Bool := isN R m rc (l2 R m rc k) && decide (ctB (isN R m rc) (l2 R m rc k) = t)
def gN (R : Nat → Nat → Nat) (m rc t : Nat) : Nat → Nat := (lnS (inN R m rc t) R m).1
def gPl (R : Nat → Nat → Nat) (m rc t : Nat) : Nat → Nat → Nat := (lnS (inN R m rc t) R m).2
def gNr (R : Nat → Nat → Nat) (m rc t : Nat) : Nat := tnr (inN R m rc t) R m
def gNc (R : Nat → Nat → Nat) (m rc t : Nat) : Nat := tnc (inN R m rc t) R m
def gCc (R : Nat → Nat → Nat) (m rc t : Nat) : Nat := tcc (inN R m rc t) R m rc
def gFc (R : Nat → Nat → Nat) (m rc t : Nat) : Nat → Nat := tfc (inN R m rc t) R m rc
def gCv (R : Nat → Nat → Nat) (m rc t : Nat) : Nat → Nat → Nat := tcv (inN R m rc t) R m rc
def gWT (R : Nat → Nat → Nat) (m rc : Nat) (wd : Nat → Nat → Nat) : Nat → Nat := wTa wd (gPl R m rc) (gNr R m rc) (gNc R m rc) (tbn R m rc)
def gWC (R : Nat → Nat → Nat) (m rc : Nat) (wd : Nat → Nat → Nat) : Nat → Nat := wCe wd (gPl R m rc) (gNr R m rc) (gNc R m rc) (gFc R m rc) (tbn R m rc)
def gCw (R : Nat → Nat → Nat) (m rc : Nat) (wd : Nat → Nat → Nat) (nw t q j : Nat) : Nat := if j = 6 then wnC (gWT R m rc wd) (gWC R m rc wd) nw t q else gCv R m rc t q j
def gInn (R : Nat → Nat → Nat) (m rc : Nat) (wd : Nat → Nat → Nat) (t q x : Nat) : Bool := decide (gWT R m rc wd x = t) && decide (gWC R m rc wd x = q)
def gMis (R : Nat → Nat → Nat) (m rc : Nat) (wd : Nat → Nat → Nat) (nw t : Nat) : List (Nat × Nat × Nat) := misC wd (gInn R m rc wd t) nw (gPl R m rc t) (gCw R m rc wd nw t) (gCc R m rc t)
/-- plain facts of the rules of a page, which keep all within its room -/
def FOK (R : Nat → Nat → Nat) (m rc : Nat) : Prop := (∀ k, k < m → R k 0 ≤ 1) ∧ (∀ k, R k 1 ≤ 99) ∧ tbn R m rc ≤ 6 ∧ ∀ t, t < tbn R m rc → CapOK (51 + 1 + 20 * t) (inN R m rc t) R m ∧ Ris (gN R m rc t) (gPl R m rc t) ∧ (∀ k, k < m → inN R m rc t k = true → ∃ l, l < gN R m rc t (R k 0) ∧ gPl R m rc t (R k 0) l = R k 1) ∧ (∀ q w, q < gCc R m rc t → w < 2 → gCv R m rc t q w + gCv R m rc t q (2 + w) ≤ gN R m rc t w - 1 ∧ 1 ≤ gCv R m rc t q (2 + w)) ∧ misM (gCv R m rc t) (gCc R m rc t) ≤ ln (51 + 1 + 20 * t + 7) ∧ ∀ q, q < gCc R m rc t → gCv R m rc t q 6 = 0
/-- the rules are found -/
def RuX (σ : SG) (c : Nat) (R : Nat → Nat → Nat) (m rc : Nat) (lab : Nat → Nat) : Prop := RsN σ m R ∧ (∀ p, p < c → σ.2.1 50 p = nI (posR R m (lab p))) ∧ (∀ k, k < m → σ.1 199 (25 + 1 + σ.2.2 k) = nI (crsN R rc k m) ∧ σ.1 200 (25 + 1 + σ.2.2 k) = (if isN R m rc (l2 R m rc k) = true then nI (ctB (isN R m rc) (l2 R m rc k)) else -6)) ∧ σ.1 3 21 = nI (tbn R m rc)
/-- the words are found -/
def WoX (σ : SG) (R : Nat → Nat → Nat) (m rc nw : Nat) (wd : Nat → Nat → Nat) : Prop := TbsP σ (tbn R m rc) (gN R m rc) (gPl R m rc) (gNr R m rc) (gNc R m rc) (gCc R m rc) (gFc R m rc) (gCw R m rc wd nw) (wnT (gWT R m rc wd) nw) ∧ σ.1 132 172 = nI (wnL (gWT R m rc wd) (tbn R m rc) nw) ∧ σ.1 131 172 = nI nw ∧ (∀ x, x < nw → σ.2.1 173 x = (if gWT R m rc wd x < tbn R m rc then nI (gWT R m rc wd x) else -6) ∧ σ.2.1 174 x = (if gWT R m rc wd x < tbn R m rc then nI (gWC R m rc wd x) else -6)) ∧ ∃ τ, (∀ k, k < nw → σ.2.1 175 k = nI (τ k)) ∧ SoP (Qw wd) nw τ
/-- what else is known of a table -/
def TaX (σ : SG) (R : Nat → Nat → Nat) (m rc t : Nat) : Prop := SdN σ (51 + 1 + 20 * t) (gNr R m rc t) (gNc R m rc t) (tsd (inN R m rc t) R m rc) ∧ σ.1 257 (51 + 1 + 20 * t) = nI (ctB (inN R m rc t) m) ∧ σ.1 267 (51 + 1 + 20 * t) = nI (thd (inN R m rc t) R m rc)
theorem TabOK.keep {I A J B : Nat → Nat → Int32} {π π' : Nat → Nat} {o m rc : Nat} {inT : Nat → Bool} {R : Nat → Nat → Nat} (h : TabOK (I, A, π) o inT R m rc) (hJ : ∀ f, J f o = I f o) (hB : ∀ p, o ≤ p → p < o + 20 → B p = A p) : TabOK (J, B, π') o inT R m rc := ⟨h.1.keep (hB _ (by omega) (by omega)) (fun w hw => hB _ (by omega) (by omega)), fun w r c hi => by show B (o + 6) _ = _; rw [hB _ (by omega) (by omega)]; exact h.2.1 w r c hi, h.2.2.1.fr (hJ _) (hJ _) (hJ _) (hB _ (by omega) (by omega)) (fun j hj => hB _ (by omega) (by omega)), (hJ _).trans h.2.2.2.1, (hJ _).trans h.2.2.2.2⟩
theorem kd8 {p : Nat} (h : kd p = 8) : ∃ t, t < 6 ∧ p = 51 + 1 + 20 * t := kd_all (P := fun p => ∃ t, t < 6 ∧ p = 51 + 1 + 20 * t) 8 (by decide) (by decide +kernel) h
theorem misM_cong {cv cv' : Nat → Nat → Nat} (h : ∀ q j, j < 6 → cv q j = cv' q j) {n : Nat} : misM cv n = misM cv' n := by
  induction n with
  | zero => rfl
  | succ n ih =>
    show misM cv n + _ = misM cv' n + _
    rw [ih, h n 5 (by decide), h n 3 (by decide), h n 2 (by decide)]
set_option maxHeartbeats 4000000 in
set_option maxRecDepth 100000 in
theorem ct_Finding_has {g : GG} {σ : SG} (row : Int32) : Cti g yX0_has cX0_has 2 (some .boolean) (rmm 0 0) [.ref (ad g 21), .int row] σ (fun r σ' => r = (if ¬ row < 0 ∧ ¬ σ.1 3 21 ≤ row then 1 else 0) ∧ σ' = σ) := by
  refine ct_of (own := RX0) (lv := [some (.ref (ad g 21)), some (.int row)]) rfl (by decide) (Nat.le_of_ble_eq_true rfl) (by intro u hu; simp only [List.mem_cons, List.not_mem_nil, or_false] at hu; rcases hu with rfl | rfl <;> rfl) (lv_ok [.ref (ad g 21), .int row] 0) ?_
  refine aw_iload_n dX0_has_0 rfl ?_
  refine aw_if_lt dX0_has_1 (fun h_1 => ?_) (fun h_1 => ?_)
  · skip
    refine aw_ic (nI 0) dX0_has_16 (by decide) ?_
    exact aw_iretz dX0_has_17 (by decide) (by first | exact ⟨(if_pos (by simp_all)).symm, rfl⟩ | exact ⟨(if_neg (by simp_all)).symm, rfl⟩)
  · skip
    refine aw_iload_n dX0_has_4 rfl ?_
    refine aw_aload_n dX0_has_5 rfl ?_
    refine gf0_tableCount dX0_has_6 kf0_47 k_21 ?_
    refine aw_icmp_ge dX0_has_9 (fun h_9 => ?_) (fun h_9 => ?_)
    · skip
      refine aw_ic (nI 0) dX0_has_16 (by decide) ?_
      exact aw_iretz dX0_has_17 (by decide) (by first | exact ⟨(if_pos (by simp_all)).symm, rfl⟩ | exact ⟨(if_neg (by simp_all)).symm, rfl⟩)
    · skip
      refine aw_ic (nI 1) dX0_has_12 (by decide) ?_
      refine aw_goto dX0_has_13 ?_
      exact aw_iretz dX0_has_17 (by decide) (by first | exact ⟨(if_pos (by simp_all)).symm, rfl⟩ | exact ⟨(if_neg (by simp_all)).symm, rfl⟩)

/-- all is found: of the page with pieces c, pc, words nw, wd, settings sl, gp, rc -/
def FndC (σ : SG) (c : Nat) (pc : Nat → Nat → Nat) (nw : Nat) (wd : Nat → Nat → Nat) (sl gp rc : Nat) : Prop := RuX σ c (Rsp pc (labI (nearN pc sl gp) c) c) (cnt (labI (nearN pc sl gp) c) c) rc (labI (nearN pc sl gp) c) ∧ WoX σ (Rsp pc (labI (nearN pc sl gp) c) c) (cnt (labI (nearN pc sl gp) c) c) rc nw wd ∧ (∀ t, t < tbn (Rsp pc (labI (nearN pc sl gp) c) c) (cnt (labI (nearN pc sl gp) c) c) rc → TaX σ (Rsp pc (labI (nearN pc sl gp) c) c) (cnt (labI (nearN pc sl gp) c) c) rc t ∧ MiN σ (51 + 1 + 20 * t) (gMis (Rsp pc (labI (nearN pc sl gp) c) c) (cnt (labI (nearN pc sl gp) c) c) rc wd nw t)) ∧ ∀ j k, j < k → k < (cnt (labI (nearN pc sl gp) c) c) → befN ((Rsp pc (labI (nearN pc sl gp) c) c) j) ((Rsp pc (labI (nearN pc sl gp) c) c) k) = true
set_option maxHeartbeats 4000000 in
set_option maxRecDepth 100000 in
theorem ct_Finding_find {g : GG} {σ : SG} {c nw sl gp rc : Nat} {pc wd : Nat → Nat → Nat} (hR : RowN σ 2 c pc) (hft : ∀ p, p < c → pc p 2 < pc p 3) (hS : SetN σ sl gp rc) (hπ : Perm σ.2.2) (hW : RowN σ 4 nw wd) (hnw : nw ≤ 20) (hK : FOK (Rsp pc (labI (nearN pc sl gp) c) c) (cnt (labI (nearN pc sl gp) c) c) rc) : Ctv g yX0_find cX0_find 4 (rmm 4 105) [.ref (ad g 21), .ref (ad g 1)] σ (fun σ' => ∃ J B π, σ' = (J, B, π) ∧ Perm π ∧ (∀ f q, kd q ≠ 6 → kd q ≠ 8 → q ≠ 172 → (f ≠ 226 ∨ q ≠ 24) → (f ≠ 3 ∨ q ≠ 21) → J f q = σ.1 f q) ∧ (∀ q, q ≠ 23 → q ≠ 50 → (q < 52 ∨ 175 < q) → B q = σ.2.1 q) ∧ FndC (J, B, π) c pc nw wd sl gp rc) := by
  refine ct_of (own := RX0) (lv := [some (.ref (ad g 21)), some (.ref (ad g 1)), none, none]) rfl (by decide) (Nat.le_of_ble_eq_true rfl) (by intro u hu; simp only [List.mem_cons, List.not_mem_nil, or_false] at hu; rcases hu with rfl | rfl <;> rfl) (lv_ok [.ref (ad g 21), .ref (ad g 1)] 2) ?_
  obtain ⟨s0, s1, s2, sb0, sb1, sb2⟩ := id hS
  have hl6 := l_6
  have l51 := l_51
  refine aw_aload_n dX0_find_0 rfl ?_
  refine gf3_settings dX0_find_1 kf0_51 k_1 ?_
  refine aw_eqr (b := 6) rfl ?_
  refine aw_ic (nI 2) dX0_find_4 (by decide) ?_
  refine aw_ld (2) dX0_find_5 k_6 (rfl) (by omega) ?_
  refine aw_eq s2 ?_
  refine aw_istore_n dX0_find_6 (Nat.le_of_ble_eq_true rfl) ?_
  refine aw_aload_n dX0_find_7 rfl ?_
  refine gf0_rules dX0_find_8 kf0_29 k_21 ?_
  refine aw_eqr (b := 24) rfl ?_
  refine aw_aload_n dX0_find_11 rfl ?_
  refine aw_aload_n dX0_find_12 rfl ?_
  refine gf0_groups dX0_find_13 kf0_20 k_21 ?_
  refine aw_eqr (b := 22) rfl ?_
  refine cvv2 dX0_find_16 km0_57 ok_X7_find rfl rfl (by decide) k_24 (Nat.le_of_ble_eq_true rfl) ⟨Nat.le_of_ble_eq_true rfl, Nat.le_of_ble_eq_true rfl⟩ rfl rfl (ct_Rules_find hR hft hS hπ) ?_
  intro σ1 hp_16
  obtain ⟨I1, L, O, π1, rfl, hf1, hRs, hz, hO, hord⟩ := hp_16
  generalize hlab : labI (nearN pc sl gp) c = lab at hRs hz hO hord hK ⊢
  generalize hM : cnt lab c = m at hRs hz hO hord hK ⊢
  generalize hRR : Rsp pc lab c = R at hRs hO hord hK ⊢
  obtain ⟨fw, fb, ft6, ftt⟩ := id hK
  refine aw_aload_n dX0_find_19 rfl ?_
  refine gf0_rules dX0_find_20 kf0_29 k_21 ?_
  refine aw_eqr (b := 24) rfl ?_
  refine aw_iload_n dX0_find_23 rfl ?_
  refine aw_aload_n dX0_find_24 rfl ?_
  refine gf0_groups dX0_find_25 kf0_20 k_21 ?_
  refine aw_eqr (b := 22) rfl ?_
  refine cvv2 dX0_find_28 km0_61 ok_X7_joinCrossing rfl rfl (by decide) k_24 (Nat.le_of_ble_eq_true rfl) ⟨Nat.le_of_ble_eq_true rfl, Nat.le_of_ble_eq_true rfl⟩ rfl rfl (ct_joinCrossing hRs (by omega) (fun k hk => (hz k hk).1)) ?_
  intro σ2 hp_28
  obtain ⟨J2, L2, rfl, hF2, hC2⟩ := hp_28
  have hm24 := hRs.2.1
  have hπ1 : Perm π1 := hRs.2.2.1
  have h199 : ∀ k, k < m → 25 + 1 + π1 k ≠ 24 := fun k hk => by omega
  have hRs2 : RsN (J2, uA (uA (uA σ.2.1 23 L) 50 O) 23 L2, π1) m R := ⟨(hC2.1 226 24 (Or.inl (by decide))).trans hRs.1, hm24, hπ1, fun k hk => ⟨hC2.ru (hRs.2.2.2 k hk).1, (hRs.2.2.2 k hk).2⟩⟩
  refine aw_aload_n dX0_find_31 rfl ?_
  refine aw_aload_n dX0_find_32 rfl ?_
  refine gf0_rules dX0_find_33 kf0_29 k_21 ?_
  refine aw_eqr (b := 24) rfl ?_
  refine aw_aload_n dX0_find_36 rfl ?_
  refine gf0_groups dX0_find_37 kf0_20 k_21 ?_
  refine aw_eqr (b := 22) rfl ?_
  refine cvi1 dX0_find_40 km0_65 ok_X7_numberTables rfl rfl (by decide) k_24 (Nat.le_of_ble_eq_true rfl) ⟨Nat.le_of_ble_eq_true rfl, Nat.le_of_ble_eq_true rfl⟩ rfl rfl (ct_numberTables (lab := l2 R m rc) hRs2 fb (show Fo m _ _ by simp only [uA]; exact hF2) ft6 (fun k hk => by show J2 200 _ = _; rw [hC2.1 200 _ (Or.inl (by decide))]; exact (hz k hk).2)) ?_
  intro r_40 σ3 hp_40
  obtain ⟨rfl, J3, rfl, hT3⟩ := hp_40
  dsimp only at hT3
  have htn : tbn R m rc ≤ 6 := ft6
  refine pf0_tableCount dX0_find_43 kf0_47 k_21 ?_
  refine aw_ic (nI 0) dX0_find_46 (by decide) ?_
  refine aw_istore_n dX0_find_47 (Nat.le_of_ble_eq_true rfl) ?_
  generalize hA4 : uA (uA (uA σ.2.1 23 L) 50 O) 23 L2 = A4
  have hA4' : ∀ q, q ≠ 23 → q ≠ 50 → A4 q = σ.2.1 q := fun q h1 h2 => by rw [← hA4, uA_n h1, uA_n h2, uA_n h1]
  have hA50 : A4 50 = O := by rw [← hA4, uA_n (by decide), uA_s]
  generalize hI4 : uI J3 3 21 (nI (ctB (isT m (l2 R m rc) R) m)) = I4
  have e21 : I4 3 21 = nI (tbn R m rc) := by rw [← hI4]; exact uI_s _ _ _ _
  have hI46 : ∀ f q, kd q ≠ 6 → (f ≠ 226 ∨ q ≠ 24) → (f ≠ 3 ∨ q ≠ 21) → I4 f q = σ.1 f q := fun f q h1 h2 h3 => by
    rw [← hI4]
    unfold uI
    rw [if_neg (by omega), hT3.1 f q (Or.inr h1), hC2.1 f q (Or.inr h1)]
    exact hf1 f q h1 h2
  have hI4k : ∀ f k, k < m → I4 f (25 + 1 + π1 k) = J3 f (25 + 1 + π1 k) := fun f k hk => by
    rw [← hI4, uI_o]
    omega
  have hRs4 : RsN (I4, A4, π1) m R := by
    have := hRs2.tb hT3 (A := A4)
    refine this.fr (fun f q h => ?_)
    have hq : q ≠ 21 := fun e => by
      rcases h with h | h
      · rw [e, k_21] at h
        exact absurd h (by decide)
      · omega
    rw [← hI4, uI_o hq]
  have h200 : ∀ k, k < m → I4 200 (25 + 1 + π1 k) = (if isN R m rc (l2 R m rc k) = true then nI (ctB (isN R m rc) (l2 R m rc k)) else -6) := fun k hk => by rw [hI4k 200 k hk]; exact hT3.2 k hk
  have h199 : ∀ k, k < m → I4 199 (25 + 1 + π1 k) = nI (crsN R rc k m) := fun k hk => by rw [hI4k 199 k hk, hT3.1 199 _ (Or.inl (by decide))]; exact hC2.2 k hk
  have htb4 : ∀ t, t < tbn R m rc → ∀ k, k < m → (I4 200 (25 + 1 + π1 k) = nI t ↔ inN R m rc t k = true) := fun t ht k hk => by
    rw [h200 k hk]
    unfold inN
    by_cases z : isN R m rc (l2 R m rc k) = true
    · have hb := ctB_le (isN R m rc) (l2 R m rc k)
      have hb2 := (show Fo m (l2 R m rc) L2 from hF2).le k hk
      rw [if_pos z, z]
      simp only [Bool.true_and, decide_eq_true_eq]
      exact nI_eq (by omega) (by omega)
    · rw [if_neg z]
      simp only [Bool.not_eq_true] at z
      rw [z]
      simp only [Bool.false_and, Bool.false_eq_true, iff_false]
      intro e
      have e9 := congrArg Int32.toInt e
      rw [nI_toInt (by omega), show (-6 : Int32).toInt = -6 by decide] at e9
      omega
  refine for_up (fun t σ' => ∃ I B, σ' = (I, B, π1) ∧ (∀ f q, kd q ≠ 8 → I f q = I4 f q) ∧ (∀ q, q ≠ 23 → (q < 52 ∨ 172 ≤ q) → B q = A4 q) ∧ ∀ s, s < t → TabOK (I, B, π1) (51 + 1 + 20 * s) (inN R m rc s) R m rc ∧ I 266 (51 + 1 + 20 * s) = nI 0 ∧ I 265 (51 + 1 + 20 * s) = nI 0) (fun t => [some (.ref (ad g 21)), some (.ref (ad g 1)), some (.int (nI rc)), some (.int (nI t))]) (tbn R m rc) ?_ ?_ 0 _ (Nat.zero_le _) ⟨I4, A4, rfl, fun _ _ _ => rfl, fun _ _ _ => rfl, fun s h => absurd h (Nat.not_lt_zero s)⟩
  · rintro t σ2 ht ⟨I, B, rfl, hI, hB, hs⟩ ih
    obtain ⟨cap, ris, hln, -⟩ := ftt t ht
    have hk8 := k_tab (show t < 6 by omega)
    have hR5 : RsN (I, B, π1) m R := hRs4.fr (fun f q h => hI f q (by
      rcases h with h | h
      · rw [h]; decide
      · rw [h, k_24]; decide))
    have ec : I 3 21 = nI (tbn R m rc) := by rw [hI 3 21 (by rw [k_21]; decide)]; exact e21
    refine aw_iload_n dX0_find_48 rfl ?_
    refine aw_aload_n dX0_find_49 rfl ?_
    refine gf0_tableCount dX0_find_50 kf0_47 k_21 ?_
    refine aw_eq ec ?_
    refine aw_icmp_geN dX0_find_53 rfl rfl (by omega) (by omega) (fun h_53 => absurd h_53 (by omega)) (fun h_53 => ?_)
    refine aw_aload_n dX0_find_56 rfl ?_
    refine gf0_tables dX0_find_57 kf0_35 k_21 ?_
    refine aw_eqr (b := 51) rfl ?_
    refine aw_iload_n dX0_find_60 rfl ?_
    refine aw_ald15 (t) dX0_find_61 k_51 (rfl) (by omega) ?_
    refine aw_aload_n dX0_find_62 rfl ?_
    refine gf0_rules dX0_find_63 kf0_29 k_21 ?_
    refine aw_eqr (b := 24) rfl ?_
    refine aw_iload_n dX0_find_66 rfl ?_
    refine aw_iload_n dX0_find_67 rfl ?_
    refine aw_aload_n dX0_find_68 rfl ?_
    refine gf0_groups dX0_find_69 kf0_20 k_21 ?_
    refine aw_eqr (b := 22) rfl ?_
    refine cvv4 dX0_find_72 km0_69 ok_X8_find rfl rfl (by decide) hk8 (Nat.le_of_ble_eq_true rfl) ⟨Nat.le_of_ble_eq_true rfl, Nat.le_of_ble_eq_true rfl⟩ rfl rfl (ct_Table_find (t := t) (rc := rc) hk8 hR5 fw (fun k hk => by show I 200 _ = _ ↔ _; rw [hI 200 _ (by rw [k_rule (hπ1.1 k (by omega))]; decide)]; exact htb4 t ht k hk) cap ris hln (by omega)) ?_
    intro σ5 hp_72
    obtain ⟨I6, B6, rfl, g1, g2, g3, g4, g5⟩ := hp_72
    refine aw_inc (nI (t + 1)) dX0_find_75 rfl (Nat.le_of_ble_eq_true rfl) (nI_1 t) ?_
    refine aw_goto dX0_find_78 ?_
    refine ih _ ⟨I6, B6, rfl, fun f q h => ?_, fun q h1 h2 => ?_, fun s hs9 => ?_⟩
    · rw [g1 f q (fun e => h (by rw [e]; exact hk8))]
      exact hI f q h
    · rw [g2 q h1 (by omega)]
      exact hB q h1 h2
    · rcases Nat.lt_or_ge s t with z | z
      · obtain ⟨a, b, c9⟩ := hs s z
        exact ⟨a.keep (fun f => g1 f _ (by omega)) (fun p h1 h2 => g2 p (by omega) (by omega)), (g1 _ _ (by omega)).trans b, (g1 _ _ (by omega)).trans c9⟩
      · rw [show s = t by omega]
        exact ⟨g3, g4, g5⟩
  · rintro σ2 ⟨I, B, rfl, hI, hB, hs⟩
    have ec : I 3 21 = nI (tbn R m rc) := by rw [hI 3 21 (by rw [k_21]; decide)]; exact e21
    have hW4 : RowN (I, B, π1) 4 nw wd := hW.keep ((hI 162 4 (by rw [k_4]; decide)).trans (hI46 162 4 (by rw [k_4]; decide) (Or.inl (by decide)) (Or.inl (by decide)))) ((hB 5 (by decide) (by decide)).trans (hA4' 5 (by decide) (by decide)))
    have hTb : TbsP (I, B, π1) (tbn R m rc) (gN R m rc) (gPl R m rc) (gNr R m rc) (gNc R m rc) (gCc R m rc) (gFc R m rc) (gCv R m rc) (fun _ => 0) := ⟨ft6, fun t ht => by
      obtain ⟨a, b, c9⟩ := hs t ht
      obtain ⟨cap, -, -, -, -, hz6⟩ := ftt t ht
      refine ⟨a.1, a.2.2.1, ?_, ?_, b, by show 0 ≤ 99; decide, fun q hq => by rw [hz6 q hq]; omega⟩
      · have := cap.2.1
        unfold gN gNr tnr
        omega
      · have := cap.2.2.1
        unfold gN gNc tnc
        omega⟩
    refine aw_iload_n dX0_find_48 rfl ?_
    refine aw_aload_n dX0_find_49 rfl ?_
    refine gf0_tableCount dX0_find_50 kf0_47 k_21 ?_
    refine aw_eq ec ?_
    refine aw_icmp_geN dX0_find_53 rfl rfl (by omega) (by omega) (fun h_53 => ?_) (fun h_53 => absurd h_53 (by omega))
    refine aw_aload_n dX0_find_81 rfl ?_
    refine gf0_placing dX0_find_82 kf0_43 k_21 ?_
    refine aw_eqr (b := 172) rfl ?_
    refine aw_aload_n dX0_find_85 rfl ?_
    refine gf3_words dX0_find_86 kf0_72 k_1 ?_
    refine aw_eqr (b := 4) rfl ?_
    refine aw_aload_n dX0_find_89 rfl ?_
    refine gf0_tables dX0_find_90 kf0_35 k_21 ?_
    refine aw_eqr (b := 51) rfl ?_
    refine aw_aload_n dX0_find_93 rfl ?_
    refine gf0_tableCount dX0_find_94 kf0_47 k_21 ?_
    refine aw_eq ec ?_
    refine cvv3 dX0_find_97 km0_76 ok_X4_find rfl rfl (by decide) k_172 (Nat.le_of_ble_eq_true rfl) ⟨Nat.le_of_ble_eq_true rfl, Nat.le_of_ble_eq_true rfl⟩ rfl rfl (ct_Placing_find hW4 hnw hTb (fun t q ht hq => (ftt t ht).2.2.2.2.2 q hq)) ?_
    intro σ6 hp_97
    obtain ⟨J6, B6, rfl, p1, p2, p3, p4, p5, p6, p7⟩ := hp_97
    dsimp only at p6 p7 ⊢
    have hJ6 : ∀ f q, kd q ≠ 8 → q ≠ 172 → J6 f q = I4 f q := fun f q h1 h2 => (p6 f q (Or.inr h1) h2).trans (hI f q h1)
    have hB6 : ∀ q, q ≠ 23 → (q < 52 ∨ 175 < q) → B6 q = A4 q := fun q h1 h2 => by rw [p7 q (by omega) (by omega) (by omega) (fun t ht => by omega)]; exact hB q h1 (by omega)
    have ec6 : J6 3 21 = nI (tbn R m rc) := by rw [hJ6 3 21 (by rw [k_21]; decide) (by decide)]; exact e21
    have hTa : ∀ t, t < tbn R m rc → TaX (J6, B6, π1) R m rc t := fun t ht => by
      obtain ⟨a, -, -⟩ := hs t ht
      refine ⟨fun w r c9 hi => ?_, ?_, ?_⟩
      · show B6 _ _ = _
        rw [p7 _ (by omega) (by omega) (by omega) (fun s hs9 => by omega)]
        exact a.2.1 w r c9 hi
      · show J6 257 _ = _
        rw [p6 257 _ (Or.inl (by decide)) (by omega)]
        exact a.2.2.2.1
      · show J6 267 _ = _
        rw [p6 267 _ (Or.inl (by decide)) (by omega)]
        exact a.2.2.2.2
    have h265 : ∀ t, t < tbn R m rc → J6 265 (51 + 1 + 20 * t) = nI 0 := fun t ht => by rw [p6 265 _ (Or.inl (by decide)) (by omega)]; exact (hs t ht).2.2
    refine aw_ic (nI 0) dX0_find_100 (by decide) ?_
    refine aw_istore_n dX0_find_101 (Nat.le_of_ble_eq_true rfl) ?_
    refine for_up (fun t σ' => ∃ J B, σ' = (J, B, π1) ∧ (∀ f q, (f ≠ 265 ∨ kd q ≠ 8) → J f q = J6 f q) ∧ (∀ q, (∀ s, s < tbn R m rc → (q < 51 + 1 + 20 * s + 17 ∨ 51 + 1 + 20 * s + 19 < q)) → B q = B6 q) ∧ (∀ s, s < t → MiN (J, B, π1) (51 + 1 + 20 * s) (gMis R m rc wd nw s)) ∧ ∀ s, t ≤ s → s < tbn R m rc → J 265 (51 + 1 + 20 * s) = nI 0) (fun t => [some (.ref (ad g 21)), some (.ref (ad g 1)), some (.int (nI rc)), some (.int (nI t))]) (tbn R m rc) ?_ ?_ 0 _ (Nat.zero_le _) ⟨J6, B6, rfl, fun _ _ _ => rfl, fun _ _ => rfl, fun s h => absurd h (Nat.not_lt_zero s), fun s _ h => h265 s h⟩
    · rintro t σ7 ht ⟨J, B, rfl, hJ, hB9, hmi, hze⟩ ih
      have hk8 := k_tab (show t < 6 by omega)
      have ec7 : J 3 21 = nI (tbn R m rc) := by rw [hJ 3 21 (Or.inl (by decide))]; exact ec6
      obtain ⟨a1, a2, a3, a4, a5, a6, a7⟩ := p1.2 t ht
      obtain ⟨-, -, -, hsp, hmm, -⟩ := ftt t ht
      have hC7 : TaC (J, B, π1) (51 + 1 + 20 * t) (gNr R m rc t) (gNc R m rc t) (gCc R m rc t) (gFc R m rc t) (gCw R m rc wd nw t) := TaC.fr (π := π1) a2 (hJ _ _ (Or.inl (by decide))) (hJ _ _ (Or.inl (by decide))) (hJ _ _ (Or.inl (by decide))) (hB9 _ (fun s hs9 => by omega)) (fun j hj => hB9 _ (fun s hs9 => by omega))
      have hL7 : LinN (J, B, π1) (51 + 1 + 20 * t + 1) (gN R m rc t) (gPl R m rc t) := a1.keep (hB9 _ (fun s hs9 => by omega)) (fun w hw => hB9 _ (fun s hs9 => by omega))
      have hW7 : WdN (J, B, π1) nw wd t (gInn R m rc wd t) := by
        refine ⟨hW4.keep ((hJ 162 4 (Or.inl (by decide))).trans (p6 162 4 (Or.inl (by decide)) (by decide))) ((hB9 5 (fun s hs9 => by omega)).trans (p7 5 (by decide) (by decide) (by decide) (fun s hs9 => by omega))), (hJ 131 172 (Or.inl (by decide))).trans p3, hnw, fun q x hq9 hx => ?_⟩
        show (B 173 x = nI t ∧ B 174 x = nI q) ↔ _
        rw [hB9 173 (fun s hs9 => by omega), hB9 174 (fun s hs9 => by omega), (p4 x hx).1, (p4 x hx).2]
        unfold gInn gWT gWC
        simp only [Bool.and_eq_true, decide_eq_true_eq]
        by_cases z : wTa wd (gPl R m rc) (gNr R m rc) (gNc R m rc) (tbn R m rc) x < tbn R m rc
        · rw [if_pos z, if_pos z]
          by_cases y : wTa wd (gPl R m rc) (gNr R m rc) (gNc R m rc) (tbn R m rc) x = t
          · have hqc : wCe wd (gPl R m rc) (gNr R m rc) (gNc R m rc) (gFc R m rc) (tbn R m rc) x < 2 ^ 31 := by
              have hiw := fst_yes z
              unfold inW at hiw
              simp only [Bool.and_eq_true, decide_eq_true_eq] at hiw
              have hz9 := p1.2 _ z
              have h8 := (hz9.2.1.2.2.2.1 _ (rc_lt hiw.1 hiw.2)).2
              have h7 := hz9.2.1.2.2.1
              have h6 : gNr R m rc (fst (inW wd (gPl R m rc) (gNr R m rc) (gNc R m rc) x) (tbn R m rc)) * gNc R m rc (fst (inW wd (gPl R m rc) (gNr R m rc) (gNc R m rc) x) (tbn R m rc)) ≤ ln _ := hz9.2.1.1.2.2.2.2.2.2.2.2
              have h5 := ln_t7 hz9.2.1.1.1
              exact Nat.lt_trans h8 (Nat.lt_of_le_of_lt h7 (Nat.lt_of_le_of_lt h6 (Nat.lt_of_le_of_lt h5 (by decide))))
            constructor
            · rintro ⟨h1, h2⟩
              exact ⟨y, (nI_eq hqc (by omega)).mp h2⟩
            · rintro ⟨h1, h2⟩
              exact ⟨by rw [h1], by rw [h2]⟩
          · constructor
            · rintro ⟨h1, -⟩
              exact absurd ((nI_eq (by omega) (by omega)).mp h1) y
            · rintro ⟨h1, -⟩
              exact absurd h1 y
        · rw [if_neg z, if_neg z]
          constructor
          · rintro ⟨h1, -⟩
            exfalso
            have e9 := congrArg Int32.toInt h1
            rw [nI_toInt (by omega), show (-6 : Int32).toInt = -6 by decide] at e9
            omega
          · rintro ⟨h1, -⟩
            omega
      refine aw_iload_n dX0_find_102 rfl ?_
      refine aw_aload_n dX0_find_103 rfl ?_
      refine gf0_tableCount dX0_find_104 kf0_47 k_21 ?_
      refine aw_eq ec7 ?_
      refine aw_icmp_geN dX0_find_107 rfl rfl (by omega) (by omega) (fun h_107 => absurd h_107 (by omega)) (fun h_107 => ?_)
      refine aw_aload_n dX0_find_110 rfl ?_
      refine gf0_tables dX0_find_111 kf0_35 k_21 ?_
      refine aw_eqr (b := 51) rfl ?_
      refine aw_iload_n dX0_find_114 rfl ?_
      refine aw_ald15 (t) dX0_find_115 k_51 (rfl) (by omega) ?_
      refine aw_aload_n dX0_find_116 rfl ?_
      refine gf3_words dX0_find_117 kf0_72 k_1 ?_
      refine aw_eqr (b := 4) rfl ?_
      refine aw_aload_n dX0_find_120 rfl ?_
      refine gf0_placing dX0_find_121 kf0_43 k_21 ?_
      refine aw_eqr (b := 172) rfl ?_
      refine aw_iload_n dX0_find_124 rfl ?_
      refine cvv3 dX0_find_125 km0_79 ok_X8_findMissed rfl rfl (by decide) hk8 (Nat.le_of_ble_eq_true rfl) ⟨Nat.le_of_ble_eq_true rfl, Nat.le_of_ble_eq_true rfl⟩ rfl rfl (ct_findMissed (t := t) hC7 hL7 hW7 (fun q w hq hw => by have := hsp q w hq hw; unfold gCw; rw [if_neg (by omega), if_neg (by omega)]; exact this) ⟨hze t (Nat.le_refl t) ht, fun k e he => by simp at he⟩ (by rw [misM_cong (fun q j hj => show gCw R m rc wd nw t q j = gCv R m rc t q j by unfold gCw; rw [if_neg (by omega)])]; exact hmm)) ?_
      intro σ8 hp_125
      obtain ⟨J8, B8, rfl, g1, g2, g3⟩ := hp_125
      dsimp only at g1 g2
      refine aw_inc (nI (t + 1)) dX0_find_128 rfl (Nat.le_of_ble_eq_true rfl) (nI_1 t) ?_
      refine aw_goto dX0_find_131 ?_
      refine ih _ ⟨J8, B8, rfl, fun f q h => ?_, fun q h => ?_, fun s hs9 => ?_, fun s h1 h2 => ?_⟩
      · rw [g1 f q (by
          rcases h with h | h
          · exact Or.inl h
          · exact Or.inr (fun e => h (by rw [e]; exact hk8)))]
        exact hJ f q h
      · rw [g2 q (h t ht)]
        exact hB9 q h
      · rcases Nat.lt_or_ge s t with z | z
        · obtain ⟨b1, b2⟩ := hmi s z
          refine ⟨(g1 _ _ (Or.inr (by omega))).trans b1, fun k e he => ?_⟩
          obtain ⟨c1, c2, c3⟩ := b2 k e he
          refine ⟨?_, ?_, ?_⟩
          · show B8 _ k = _
            rw [g2 _ (by omega)]
            exact c1
          · show B8 _ k = _
            rw [g2 _ (by omega)]
            exact c2
          · show B8 _ k = _
            rw [g2 _ (by omega)]
            exact c3
        · rw [show s = t by omega]
          exact g3
      · rw [g1 _ _ (Or.inr (by omega))]
        exact hze s (by omega) h2
    · rintro σ7 ⟨J, B, rfl, hJ, hB9, hmi, -⟩
      have ec7 : J 3 21 = nI (tbn R m rc) := by rw [hJ 3 21 (Or.inl (by decide))]; exact ec6
      refine aw_iload_n dX0_find_102 rfl ?_
      refine aw_aload_n dX0_find_103 rfl ?_
      refine gf0_tableCount dX0_find_104 kf0_47 k_21 ?_
      refine aw_eq ec7 ?_
      refine aw_icmp_geN dX0_find_107 rfl rfl (by omega) (by omega) (fun h_107 => ?_) (fun h_107 => absurd h_107 (by omega))
      exact aw_ret dX0_find_134 (by
          have hJk : ∀ f k, k < m → J f (25 + 1 + π1 k) = I4 f (25 + 1 + π1 k) := fun f k hk => by
            have h6 := k_rule (hπ1.1 k (by omega))
            rw [hJ f _ (Or.inr (by rw [h6]; decide)), hJ6 f _ (by rw [h6]; decide) (by have := hπ1.1 k (by omega); omega)]
          refine ⟨J, B, π1, rfl, hπ1, fun f q h1 h2 h3 h4 h5 => ?_, fun q h1 h2 h3 => ?_, ?_⟩
          · rw [hJ f q (Or.inr h2), hJ6 f q h2 h3]
            exact hI46 f q h1 h4 h5
          · rw [hB9 q (fun s hs9 => by omega), hB6 q h1 (by omega)]
            exact hA4' q h1 h2
          unfold FndC
          rw [hlab, hM, hRR]
          refine ⟨⟨?_, fun p hp => ?_, fun k hk => ⟨?_, ?_⟩, ec7⟩, ⟨?_, ?_, ?_, fun x hx => ?_, ?_⟩, fun t ht => ⟨⟨fun w r c9 hi => ?_, ?_, ?_⟩, hmi t ht⟩, hord⟩
          · exact hRs4.fr (fun f q h => by
              have h8 : kd q ≠ 8 ∧ q ≠ 172 := by
                rcases h with h | h
                · refine ⟨by rw [h]; decide, fun e => ?_⟩
                  rw [e, k_172] at h
                  exact absurd h (by decide)
                · exact ⟨by rw [h, k_24]; decide, by omega⟩
              rw [hJ f q (Or.inr h8.1)]
              exact hJ6 f q h8.1 h8.2)
          · show B 50 p = _
            rw [hB9 50 (fun s hs9 => by omega), hB6 50 (by decide) (by decide), hA50]
            exact hO p hp
          · exact (hJk 199 k hk).trans (h199 k hk)
          · exact (hJk 200 k hk).trans (h200 k hk)
          · refine ⟨p1.1, fun t ht => ?_⟩
            obtain ⟨a1, a2, a3, a4, a5, a6⟩ := p1.2 t ht
            exact ⟨a1.keep (hB9 _ (fun s hs9 => by omega)) (fun w hw => hB9 _ (fun s hs9 => by omega)), TaC.fr (π := π1) a2 (hJ _ _ (Or.inl (by decide))) (hJ _ _ (Or.inl (by decide))) (hJ _ _ (Or.inl (by decide))) (hB9 _ (fun s hs9 => by omega)) (fun j hj => hB9 _ (fun s hs9 => by omega)), a3, a4, (hJ _ _ (Or.inl (by decide))).trans a5, a6⟩
          · exact (hJ _ _ (Or.inl (by decide))).trans p2
          · exact (hJ _ _ (Or.inl (by decide))).trans p3
          · show B 173 x = _ ∧ B 174 x = _
            rw [hB9 173 (fun s hs9 => by omega), hB9 174 (fun s hs9 => by omega)]
            exact p4 x hx
          · obtain ⟨τ, t1, t2⟩ := p5
            refine ⟨τ, fun k hk => ?_, t2⟩
            show B 175 k = _
            rw [hB9 175 (fun s hs9 => by omega)]
            exact t1 k hk
          · show B _ _ = _
            rw [hB9 _ (fun s hs9 => by omega)]
            exact (hTa t ht).1 w r c9 hi
          · exact (hJ _ _ (Or.inl (by decide))).trans (hTa t ht).2.1
          · exact (hJ _ _ (Or.inl (by decide))).trans (hTa t ht).2.2)

