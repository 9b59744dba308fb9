def anyB (p : Nat → Bool) : Nat → Bool
  | 0 => false
  | n + 1 => anyB p n || p n
theorem anyB_iff {p : Nat → Bool} : ∀ {n : Nat}, anyB p n = true ↔ ∃ k, k < n ∧ p k = true
  | 0 => by simp [anyB]
  | n + 1 => by
    have ih := anyB_iff (p := p) (n := n)
    unfold anyB
    rw [Bool.or_eq_true, ih]
    constructor
    · rintro (⟨k, h1, h2⟩ | h)
      · exact ⟨k, by omega, h2⟩
      · exact ⟨n, by omega, h⟩
    · rintro ⟨k, h1, h2⟩
      rcases Nat.lt_or_ge k n with q | q
      · exact Or.inl ⟨k, q, h2⟩
      · rw [show k = n by omega] at h2
        exact Or.inr h2
theorem anyB_cong {p q : Nat → Bool} : ∀ {n : Nat}, (∀ k, k < n → p k = q k) → anyB p n = anyB q n
  | 0, _ => rfl
  | n + 1, h => by
    have ih := anyB_cong (n := n) (fun k hk => h k (by omega))
    unfold anyB
    rw [ih, h n (by omega)]
/-- along which line of its own way, and which of the other one, a side lies -/
def sL (w r c : Nat) : Nat := if w = 0 then r else c
def sJ (w r c : Nat) : Nat := if w = 0 then c else r
/-- a rule covers a side -/
def hitN (pl : Nat → Nat → Nat) (rc : Nat) (ra : Nat → Nat) (w r c : Nat) : Bool := decide (ra 0 = w) && (decide (ra 1 = pl w (sL w r c)) && covN ra (pl (1 - w) (sJ w r c)) (pl (1 - w) (sJ w r c + 1)) rc)
theorem SdN.put {σ : SG} {o nr nc w r c : Nat} {sd : Nat → Nat → Nat → Bool} (h : SdN σ o nr nc sd) (hi : sdIn nr nc w r c) {S : Nat → Int32} (hS : σ.2.1 (o + 6) = S) {I : Nat → Nat → Int32} {A : Nat → Nat → Int32} {π : Nat → Nat} (hA : A (o + 6) = upd S (sidx nr nc w r c) 1) : SdN (I, A, π) o nr nc (fun w' r' c' => sd w' r' c' || (decide (w' = w) && (decide (r' = r) && decide (c' = c)))) := by
  intro w' r' c' hi'
  show A (o + 6) _ = _
  rw [hA]
  by_cases e : w' = w ∧ r' = r ∧ c' = c
  · obtain ⟨rfl, rfl, rfl⟩ := e
    rw [pk_us]
    simp
  · rw [pk_un (fun z => e (sidx_inj hi' hi z)), ← hS, h w' r' c' hi']
    have : (decide (w' = w) && (decide (r' = r) && decide (c' = c))) = false := by simp; omega
    dsimp only
    simp only [this, Bool.or_false]
theorem SdN.cong {σ : SG} {o nr nc : Nat} {sd sd' : Nat → Nat → Nat → Bool} (h : SdN σ o nr nc sd) (e : ∀ w r c, sdIn nr nc w r c → sd w r c = sd' w r c) : SdN σ o nr nc sd' := fun w r c hi => by rw [← e w r c hi]; exact h w r c hi
/-- strictly rising lines -/
def Ris (n : Nat → Nat) (pl : Nat → Nat → Nat) : Prop := ∀ w i j, w < 2 → i < j → j < n w → pl w i < pl w j
theorem Ris.inj {n : Nat → Nat} {pl : Nat → Nat → Nat} (h : Ris n pl) {w i j : Nat} (hw : w < 2) (hi : i < n w) (hj : j < n w) (e : pl w i = pl w j) : i = j := by
  rcases Nat.lt_trichotomy i j with q | q | q
  · have := h w i j hw q hj
    omega
  · exact q
  · have := h w j i hw q hi
    omega
set_option maxHeartbeats 4000000 in
set_option maxRecDepth 100000 in
theorem ct_markSidesOf {g : GG} {σ : SG} {o ro nr nc rc l : Nat} {n ra : Nat → Nat} {pl : Nat → Nat → Nat} {sd : Nat → Nat → Nat → Bool} (hT : TaD σ o nr nc) (hk6 : kd ro = 6) (hL : LinN σ (o + 1) n pl) (hn0 : n 0 = nr + 1) (hn1 : n 1 = nc + 1) (hRi : Ris n pl) (hF : RuF σ.1 ro ra) (hB : RuB ra) (hw : ra 0 ≤ 1) (hl : l < n (ra 0)) (hlp : pl (ra 0) l = ra 1) (hrc : rc ≤ 5) (hS : SdN σ o nr nc sd) : Ctv g yX8_markSidesOf cX8_markSidesOf 7 (rmm 1 26) [.ref (ad g o), .ref (ad g ro), .int (nI rc)] σ (fun σ' => ∃ S, σ' = (σ.1, uA σ.2.1 (o + 6) S, σ.2.2) ∧ SdN σ' o nr nc (fun w r c => sd w r c || hitN pl rc ra w r c)) := by
  refine ct_of (own := RX8) (lv := [some (.ref (ad g o)), some (.ref (ad g ro)), some (.int (nI rc)), none, none, none, none]) rfl (by decide) (Nat.le_of_ble_eq_true rfl) (by intro u hu; simp only [List.mem_cons, List.not_mem_nil, or_false] at hu; rcases hu with rfl | rfl | rfl <;> rfl) (lv_ok [.ref (ad g o), .ref (ad g ro), .int (nI rc)] 4) ?_
  have hT0 := hT
  have hB0 := hB
  have hF0 := hF
  obtain ⟨hk, hr, hc, r1, c1, r2, c2, cap6, cap7⟩ := hT
  have hl6 := ln_t6 hk
  obtain ⟨F0, F1, -⟩ := hF
  have hl4 := ln_l4 (kf_8_lines hk)
  have b1 := hB.2.1
  have hw2 : ra 0 < 2 := by omega
  have hv2 : 1 - ra 0 < 2 := by omega
  obtain ⟨nv, nvl, nvp⟩ := hL.2 (1 - ra 0) hv2
  have hnv : 1 ≤ n (1 - ra 0) - 1 ∧ n (1 - ra 0) ≤ 22 := by
    rcases (show ra 0 = 0 ∨ ra 0 = 1 by omega) with e | e
    · rw [e]
      show 1 ≤ n 1 - 1 ∧ n 1 ≤ 22
      omega
    · rw [e]
      show 1 ≤ n 0 - 1 ∧ n 0 ≤ 22
      omega
  refine aw_ic (nI 1) dX8_markSidesOf_0 (by decide) ?_
  refine aw_aload_n dX8_markSidesOf_1 rfl ?_
  refine gf6_way dX8_markSidesOf_2 kf8_97 hk6 ?_
  refine aw_eq F0 ?_
  refine aw_isub dX8_markSidesOf_5 ?_
  refine aw_eq (show _ = nI (1 - ra 0) from pk_sub (by omega)) ?_
  refine aw_istore_n dX8_markSidesOf_6 (Nat.le_of_ble_eq_true rfl) ?_
  refine aw_aload_n dX8_markSidesOf_7 rfl ?_
  refine gf8_lines dX8_markSidesOf_8 kf8_20 hk ?_
  refine aw_aload_n dX8_markSidesOf_11 rfl ?_
  refine gf6_way dX8_markSidesOf_12 kf8_97 hk6 ?_
  refine aw_eq F0 ?_
  refine aw_aload_n dX8_markSidesOf_15 rfl ?_
  refine gf6_at dX8_markSidesOf_16 kf8_100 hk6 ?_
  refine aw_eq F1 ?_
  refine cqi2 dX8_markSidesOf_19 km8_124 ok_X2_lineAt rfl rfl (by decide) (kf_8_lines hk) (Nat.le_of_ble_eq_true rfl) ⟨Nat.le_of_ble_eq_true rfl, Nat.le_of_ble_eq_true rfl⟩ rfl rfl (ct_Lines_lineAt (j := l) hL hw2 hl hlp (fun i hi e => by have := hRi.inj hw2 (by omega) hl (e.trans hlp.symm); omega)) ?_
  refine aw_istore dX8_markSidesOf_22 (Nat.le_of_ble_eq_true rfl) ?_
  refine aw_ic (nI 0) dX8_markSidesOf_24 (by decide) ?_
  refine aw_istore dX8_markSidesOf_25 (Nat.le_of_ble_eq_true rfl) ?_
  refine for_wf (fun nn σ' lv => ∃ j, nn + j = n (1 - ra 0) - 1 ∧ ∃ S x, σ' = (σ.1, uA σ.2.1 (o + 6) S, σ.2.2) ∧ SdN σ' o nr nc (fun w r c => sd w r c || (hitN pl rc ra w r c && decide (sJ w r c < j))) ∧ lv = [some (.ref (ad g o)), some (.ref (ad g ro)), some (.int (nI rc)), some (.int (nI (1 - ra 0))), some (.int (nI l)), some (.int (nI j)), x]) ?_ (n (1 - ra 0) - 1) _ _ ⟨0, by omega, σ.2.1 (o + 6), _, by rw [uA_same], hS.cong (fun w r c _ => by simp), rfl⟩
  rintro nn σ2 lv2 ⟨j, hn, S, x, rfl, hSj, rfl⟩ ih
  have hL2 : LinN (σ.1, uA σ.2.1 (o + 6) S, σ.2.2) (o + 1) n pl := hL.keep (uA_n (by omega)) (fun w hw => uA_n (by omega))
  have hT2 : TaD (σ.1, uA σ.2.1 (o + 6) S, σ.2.2) o nr nc := hT0
  refine aw_iload dX8_markSidesOf_27 rfl ?_
  refine aw_ic (nI 1) dX8_markSidesOf_29 (by decide) ?_
  refine aw_iadd dX8_markSidesOf_30 ?_
  refine aw_eq (nI_1 j) ?_
  refine aw_aload_n dX8_markSidesOf_31 rfl ?_
  refine gf8_lines dX8_markSidesOf_32 kf8_20 hk ?_
  refine gf2_counts dX8_markSidesOf_35 kf8_107 (kf_8_lines hk) ?_
  refine aw_iload_n dX8_markSidesOf_38 rfl ?_
  refine aw_ld (1 - ra 0) dX8_markSidesOf_39 (kf_2_counts (kf_8_lines hk)) (rfl) (by omega) ?_
  refine aw_eq (show _ = nI (n (1 - ra 0)) from (hL2.2 _ hv2).1) ?_
  refine aw_icmp_geN dX8_markSidesOf_40 rfl rfl (by omega) (by omega) (fun h_40 => ?_) (fun h_40 => ?_)
  · skip
    exact aw_ret dX8_markSidesOf_122 (by
        refine ⟨S, rfl, hSj.cong (fun w r c hi => ?_)⟩
        by_cases q : hitN pl rc ra w r c = true
        · have : sJ w r c < j := by
            have e : ra 0 = w := by
              unfold hitN at q
              simp only [Bool.and_eq_true, decide_eq_true_eq] at q
              exact q.1
            unfold sJ
            rcases hi with ⟨rfl, h1, h2⟩ | ⟨rfl, h1, h2⟩
            · rw [e] at hn h_40
              simp at hn h_40 ⊢
              omega
            · rw [e] at hn h_40
              simp at hn h_40 ⊢
              omega
          simp [this]
        · simp [q])
  · skip
    refine aw_aload_n dX8_markSidesOf_43 rfl ?_
    refine gf6_way dX8_markSidesOf_44 kf8_97 hk6 ?_
    refine aw_eq F0 ?_
    refine aw_if_neN dX8_markSidesOf_47 rfl (by omega) (fun h_47 => ?_) (fun h_47 => ?_)
    · skip
      refine aw_aload_n dX8_markSidesOf_62 rfl ?_
      refine aw_ic (nI 1) dX8_markSidesOf_63 (by decide) ?_
      have hin : sdIn nr nc 1 j l := by
        have h41 : j + 1 < n 0 := by have h := h_40; rw [show ra 0 = 1 by omega] at h; exact h
        unfold sdIn
        rw [show ra 0 = 1 by omega] at hl
        omega
      have hix := sidx_lt hin
      have hsJ : ∀ w r c, sdIn nr nc w r c → ¬ (decide (ra 0 = w) && (decide (ra 1 = pl w (sL w r c)))) = true ∨ (w = 1 ∧ sL w r c = l) := fun w r c hi => by
        by_cases q : ra 0 = w ∧ ra 1 = pl w (sL w r c)
        · refine Or.inr ⟨by omega, ?_⟩
          have hsl : sL w r c < n w := by
            unfold sL
            rcases hi with ⟨rfl, h1, h2⟩ | ⟨rfl, h1, h2⟩
            · simp; omega
            · simp; omega
          rw [q.1] at hl hlp hw2
          exact hRi.inj hw2 hsl hl (by rw [hlp]; exact q.2.symm)
        · refine Or.inl (by simp; omega)
      refine aw_iload dX8_markSidesOf_64 rfl ?_
      refine aw_iload dX8_markSidesOf_66 rfl ?_
      refine cqi3 dX8_markSidesOf_68 km8_127 ok_X8_sideOf rfl rfl (by decide) hk (Nat.le_of_ble_eq_true rfl) ⟨Nat.le_of_ble_eq_true rfl, Nat.le_of_ble_eq_true rfl⟩ rfl rfl (ct_sideOf hT2 hin) ?_
      refine aw_istore dX8_markSidesOf_71 (Nat.le_of_ble_eq_true rfl) ?_
      refine aw_iload dX8_markSidesOf_73 rfl ?_
      refine aw_if_lt dX8_markSidesOf_75 (fun h_75 => absurd h_75 (nI_pos (by omega))) (fun h_75 => ?_)
      refine aw_aload_n dX8_markSidesOf_78 rfl ?_
      refine aw_aload_n dX8_markSidesOf_79 rfl ?_
      refine gf8_lines dX8_markSidesOf_80 kf8_20 hk ?_
      refine aw_iload_n dX8_markSidesOf_83 rfl ?_
      refine aw_iload dX8_markSidesOf_84 rfl ?_
      refine cqi2 dX8_markSidesOf_86 km8_131 ok_X2_placeOf rfl rfl (by decide) (kf_8_lines hk) (Nat.le_of_ble_eq_true rfl) ⟨Nat.le_of_ble_eq_true rfl, Nat.le_of_ble_eq_true rfl⟩ rfl rfl (ct_Lines_placeOf (k := j) hL2 hv2 (by omega)) ?_
      refine aw_aload_n dX8_markSidesOf_89 rfl ?_
      refine gf8_lines dX8_markSidesOf_90 kf8_20 hk ?_
      refine aw_iload_n dX8_markSidesOf_93 rfl ?_
      refine aw_iload dX8_markSidesOf_94 rfl ?_
      refine aw_ic (nI 1) dX8_markSidesOf_96 (by decide) ?_
      refine aw_iadd dX8_markSidesOf_97 ?_
      refine aw_eq (nI_1 j) ?_
      refine cqi2 dX8_markSidesOf_98 km8_131 ok_X2_placeOf rfl rfl (by decide) (kf_8_lines hk) (Nat.le_of_ble_eq_true rfl) ⟨Nat.le_of_ble_eq_true rfl, Nat.le_of_ble_eq_true rfl⟩ rfl rfl (ct_Lines_placeOf (k := j + 1) hL2 hv2 (by omega)) ?_
      refine aw_iload_n dX8_markSidesOf_101 rfl ?_
      refine cqi3 dX8_markSidesOf_102 km8_134 ok_X6_covers rfl rfl (by decide) hk6 (Nat.le_of_ble_eq_true rfl) ⟨Nat.le_of_ble_eq_true rfl, Nat.le_of_ble_eq_true rfl⟩ rfl rfl (ct_Rule_covers hk6 hF0 hB0 (nvp j (by omega)).2 (nvp (j + 1) (by omega)).2 (by omega)) ?_
      refine aw_if_eqB dX8_markSidesOf_105 rfl (fun h_105 => ?_) (fun h_105 => ?_)
      · skip
        refine aw_inc (nI (j + 1)) dX8_markSidesOf_116 rfl (Nat.le_of_ble_eq_true rfl) (nI_1 j) ?_
        refine aw_goto dX8_markSidesOf_119 ?_
        refine ih (nn - 1) _ _ (by omega) ⟨j + 1, by omega, S, _, rfl, hSj.cong (fun w r c hi => ?_), rfl⟩
        congr 1
        rcases hsJ w r c hi with q | ⟨q1, q2⟩
        · have h7 : hitN pl rc ra w r c = false := by
            unfold hitN
            simp only [Bool.and_eq_true, decide_eq_true_eq, not_and] at q
            by_cases z : ra 0 = w
            · simp [z, q z]
            · simp [z]
          rw [h7]
          rfl
        · subst q1
          by_cases z : sJ 1 r c = j
          · have h7 : hitN pl rc ra 1 r c = false := by
              unfold hitN
              rw [z]
              rw [show ra 0 = 1 by omega] at h_105
              simp [h_105]
            rw [h7]
            rfl
          · by_cases z2 : sJ 1 r c < j
            · simp [z2, show sJ 1 r c < j + 1 by omega]
            · simp [z2, show ¬ sJ 1 r c < j + 1 by omega]
      · skip
        refine aw_aload_n dX8_markSidesOf_108 rfl ?_
        refine gf8_sides dX8_markSidesOf_109 kf8_26 hk ?_
        refine aw_iload dX8_markSidesOf_112 rfl ?_
        refine aw_ic (nI 1) dX8_markSidesOf_114 (by decide) ?_
        refine aw_zsto (sidx nr nc 1 j l) dX8_markSidesOf_115 (kf_8_sides hk) (rfl) (by omega) (by decide) ?_
        refine aw_inc (nI (j + 1)) dX8_markSidesOf_116 rfl (Nat.le_of_ble_eq_true rfl) (nI_1 j) ?_
        refine aw_goto dX8_markSidesOf_119 ?_
        refine ih (nn - 1) _ _ (by omega) ⟨j + 1, by omega, _, _, by rw [uA_uA], (hSj.put hin rfl (uA_s _ _ _)).cong (fun w r c hi => ?_), rfl⟩
        rw [Bool.or_assoc]
        congr 1
        rcases hsJ w r c hi with q | ⟨q1, q2⟩
        · have h7 : hitN pl rc ra w r c = false := by
            unfold hitN
            simp only [Bool.and_eq_true, decide_eq_true_eq, not_and] at q
            by_cases z : ra 0 = w
            · simp [z, q z]
            · simp [z]
          have h8 : (decide (w = 1) && (decide (r = j) && decide (c = l))) = false := by
            simp only [Bool.and_eq_false_iff, decide_eq_false_iff_not]
            by_cases z : w = 1
            · subst z
              by_cases z2 : sL 1 r c = l
              · exfalso
                apply q
                rw [z2]
                simp
                exact ⟨by omega, by rw [show ra 0 = 1 by omega] at hlp; exact hlp.symm⟩
              · unfold sL at z2
                simp at z2
                omega
            · exact Or.inl z
          rw [h7, h8]
          rfl
        · subst q1
          have h7 : hitN pl rc ra 1 r c = covN ra (pl (1 - 1) (sJ 1 r c)) (pl (1 - 1) (sJ 1 r c + 1)) rc := by
            unfold hitN
            rw [q2]
            rw [show ra 0 = 1 by omega] at hlp
            simp [hlp, show ra 0 = 1 by omega]
          rw [h7]
          unfold sL at q2
          unfold sJ
          simp only [show ¬ (1 : Nat) = 0 by decide, if_false] at q2 ⊢
          subst q2
          rw [show ra 0 = 1 by omega] at h_105
          by_cases z : r = j
          · rw [z]
            simp [h_105]
          · have z3 : decide (r = j) = false := by simp [z]
            rw [z3]
            by_cases z2 : r < j
            · simp [z2, show r < j + 1 by omega]
            · simp [z2, show ¬ r < j + 1 by omega]
    · skip
      refine aw_aload_n dX8_markSidesOf_50 rfl ?_
      refine aw_ic (nI 0) dX8_markSidesOf_51 (by decide) ?_
      have hin : sdIn nr nc 0 l j := by
        have h41 : j + 1 < n 1 := by have h := h_40; rw [show ra 0 = 0 by omega] at h; exact h
        unfold sdIn
        rw [show ra 0 = 0 by omega] at hl
        omega
      have hix := sidx_lt hin
      have hsJ : ∀ w r c, sdIn nr nc w r c → ¬ (decide (ra 0 = w) && (decide (ra 1 = pl w (sL w r c)))) = true ∨ (w = 0 ∧ sL w r c = l) := fun w r c hi => by
        by_cases q : ra 0 = w ∧ ra 1 = pl w (sL w r c)
        · refine Or.inr ⟨by omega, ?_⟩
          have hsl : sL w r c < n w := by
            unfold sL
            rcases hi with ⟨rfl, h1, h2⟩ | ⟨rfl, h1, h2⟩
            · simp; omega
            · simp; omega
          rw [q.1] at hl hlp hw2
          exact hRi.inj hw2 hsl hl (by rw [hlp]; exact q.2.symm)
        · refine Or.inl (by simp; omega)
      refine aw_iload dX8_markSidesOf_52 rfl ?_
      refine aw_iload dX8_markSidesOf_54 rfl ?_
      refine cqi3 dX8_markSidesOf_56 km8_127 ok_X8_sideOf rfl rfl (by decide) hk (Nat.le_of_ble_eq_true rfl) ⟨Nat.le_of_ble_eq_true rfl, Nat.le_of_ble_eq_true rfl⟩ rfl rfl (ct_sideOf hT2 hin) ?_
      refine aw_goto dX8_markSidesOf_59 ?_
      refine aw_istore dX8_markSidesOf_71 (Nat.le_of_ble_eq_true rfl) ?_
      refine aw_iload dX8_markSidesOf_73 rfl ?_
      refine aw_if_lt dX8_markSidesOf_75 (fun h_75 => absurd h_75 (nI_pos (by omega))) (fun h_75 => ?_)
      refine aw_aload_n dX8_markSidesOf_78 rfl ?_
      refine aw_aload_n dX8_markSidesOf_79 rfl ?_
      refine gf8_lines dX8_markSidesOf_80 kf8_20 hk ?_
      refine aw_iload_n dX8_markSidesOf_83 rfl ?_
      refine aw_iload dX8_markSidesOf_84 rfl ?_
      refine cqi2 dX8_markSidesOf_86 km8_131 ok_X2_placeOf rfl rfl (by decide) (kf_8_lines hk) (Nat.le_of_ble_eq_true rfl) ⟨Nat.le_of_ble_eq_true rfl, Nat.le_of_ble_eq_true rfl⟩ rfl rfl (ct_Lines_placeOf (k := j) hL2 hv2 (by omega)) ?_
      refine aw_aload_n dX8_markSidesOf_89 rfl ?_
      refine gf8_lines dX8_markSidesOf_90 kf8_20 hk ?_
      refine aw_iload_n dX8_markSidesOf_93 rfl ?_
      refine aw_iload dX8_markSidesOf_94 rfl ?_
      refine aw_ic (nI 1) dX8_markSidesOf_96 (by decide) ?_
      refine aw_iadd dX8_markSidesOf_97 ?_
      refine aw_eq (nI_1 j) ?_
      refine cqi2 dX8_markSidesOf_98 km8_131 ok_X2_placeOf rfl rfl (by decide) (kf_8_lines hk) (Nat.le_of_ble_eq_true rfl) ⟨Nat.le_of_ble_eq_true rfl, Nat.le_of_ble_eq_true rfl⟩ rfl rfl (ct_Lines_placeOf (k := j + 1) hL2 hv2 (by omega)) ?_
      refine aw_iload_n dX8_markSidesOf_101 rfl ?_
      refine cqi3 dX8_markSidesOf_102 km8_134 ok_X6_covers rfl rfl (by decide) hk6 (Nat.le_of_ble_eq_true rfl) ⟨Nat.le_of_ble_eq_true rfl, Nat.le_of_ble_eq_true rfl⟩ rfl rfl (ct_Rule_covers hk6 hF0 hB0 (nvp j (by omega)).2 (nvp (j + 1) (by omega)).2 (by omega)) ?_
      refine aw_if_eqB dX8_markSidesOf_105 rfl (fun h_105 => ?_) (fun h_105 => ?_)
      · skip
        refine aw_inc (nI (j + 1)) dX8_markSidesOf_116 rfl (Nat.le_of_ble_eq_true rfl) (nI_1 j) ?_
        refine aw_goto dX8_markSidesOf_119 ?_
        refine ih (nn - 1) _ _ (by omega) ⟨j + 1, by omega, S, _, rfl, hSj.cong (fun w r c hi => ?_), rfl⟩
        congr 1
        rcases hsJ w r c hi with q | ⟨q1, q2⟩
        · have h7 : hitN pl rc ra w r c = false := by
            unfold hitN
            simp only [Bool.and_eq_true, decide_eq_true_eq, not_and] at q
            by_cases z : ra 0 = w
            · simp [z, q z]
            · simp [z]
          rw [h7]
          rfl
        · subst q1
          by_cases z : sJ 0 r c = j
          · have h7 : hitN pl rc ra 0 r c = false := by
              unfold hitN
              rw [z]
              rw [show ra 0 = 0 by omega] at h_105
              simp [h_105]
            rw [h7]
            rfl
          · by_cases z2 : sJ 0 r c < j
            · simp [z2, show sJ 0 r c < j + 1 by omega]
            · simp [z2, show ¬ sJ 0 r c < j + 1 by omega]
      · skip
        refine aw_aload_n dX8_markSidesOf_108 rfl ?_
        refine gf8_sides dX8_markSidesOf_109 kf8_26 hk ?_
        refine aw_iload dX8_markSidesOf_112 rfl ?_
        refine aw_ic (nI 1) dX8_markSidesOf_114 (by decide) ?_
        refine aw_zsto (sidx nr nc 0 l j) dX8_markSidesOf_115 (kf_8_sides hk) (rfl) (by omega) (by decide) ?_
        refine aw_inc (nI (j + 1)) dX8_markSidesOf_116 rfl (Nat.le_of_ble_eq_true rfl) (nI_1 j) ?_
        refine aw_goto dX8_markSidesOf_119 ?_
        refine ih (nn - 1) _ _ (by omega) ⟨j + 1, by omega, _, _, by rw [uA_uA], (hSj.put hin rfl (uA_s _ _ _)).cong (fun w r c hi => ?_), rfl⟩
        rw [Bool.or_assoc]
        congr 1
        rcases hsJ w r c hi with q | ⟨q1, q2⟩
        · have h7 : hitN pl rc ra w r c = false := by
            unfold hitN
            simp only [Bool.and_eq_true, decide_eq_true_eq, not_and] at q
            by_cases z : ra 0 = w
            · simp [z, q z]
            · simp [z]
          have h8 : (decide (w = 0) && (decide (r = l) && decide (c = j))) = false := by
            simp only [Bool.and_eq_false_iff, decide_eq_false_iff_not]
            by_cases z : w = 0
            · subst z
              by_cases z2 : sL 0 r c = l
              · exfalso
                apply q
                rw [z2]
                simp
                exact ⟨by omega, by rw [show ra 0 = 0 by omega] at hlp; exact hlp.symm⟩
              · unfold sL at z2
                simp at z2
                omega
            · exact Or.inl z
          rw [h7, h8]
          rfl
        · subst q1
          have h7 : hitN pl rc ra 0 r c = covN ra (pl (1 - 0) (sJ 0 r c)) (pl (1 - 0) (sJ 0 r c + 1)) rc := by
            unfold hitN
            rw [q2]
            rw [show ra 0 = 0 by omega] at hlp
            simp [hlp, show ra 0 = 0 by omega]
          rw [h7]
          unfold sL at q2
          unfold sJ
          simp only [if_true] at q2 ⊢
          subst q2
          rw [show ra 0 = 0 by omega] at h_105
          by_cases z : c = j
          · rw [z]
            simp [h_105]
          · have z3 : decide (c = j) = false := by simp [z]
            rw [z3]
            by_cases z2 : c < j
            · simp [z2, show c < j + 1 by omega]
            · simp [z2, show ¬ c < j + 1 by omega]

set_option maxHeartbeats 4000000 in
set_option maxRecDepth 100000 in
theorem ct_markSides {g : GG} {σ : SG} {o t m nr nc rc : Nat} {n : Nat → Nat} {R pl : Nat → Nat → Nat} {inT : Nat → Bool} (hT : TaD σ o nr nc) (hR : RsN σ m R) (hway : ∀ k, k < m → R k 0 ≤ 1) (htb : ∀ k, k < m → (σ.1 200 (25 + 1 + σ.2.2 k) = nI t ↔ inT k = true)) (hL : LinN σ (o + 1) n pl) (hn0 : n 0 = nr + 1) (hn1 : n 1 = nc + 1) (hRi : Ris n pl) (hln : ∀ k, k < m → inT k = true → ∃ l, l < n (R k 0) ∧ pl (R k 0) l = R k 1) (hrc : rc ≤ 5) : Ctv g yX8_markSides cX8_markSides 5 (rmm 2 52) [.ref (ad g o), .ref (ad g 24), .int (nI t), .int (nI rc)] σ (fun σ' => ∃ S, σ' = (σ.1, uA σ.2.1 (o + 6) S, σ.2.2) ∧ SdN σ' o nr nc (fun w r c => anyB (fun k => inT k && hitN pl rc (R k) w r c) m)) := by
  refine ct_of (own := RX8) (lv := [some (.ref (ad g o)), some (.ref (ad g 24)), some (.int (nI t)), some (.int (nI rc)), none]) rfl (by decide) (Nat.le_of_ble_eq_true rfl) (by intro u hu; simp only [List.mem_cons, List.not_mem_nil, or_false] at hu; rcases hu with rfl | rfl | rfl | rfl <;> rfl) (lv_ok [.ref (ad g o), .ref (ad g 24), .int (nI t), .int (nI rc)] 1) ?_
  have hT0 := hT
  obtain ⟨hk, hr, hc, r1, c1, r2, c2, cap6, cap7⟩ := hT
  have hl6 := ln_t6 hk
  have hR0 := hR
  obtain ⟨hm, hm24, hπ, hQ⟩ := hR
  have hl25 := l_25
  refine aw_ic (nI 0) dX8_markSides_0 (by decide) ?_
  refine aw_istore dX8_markSides_1 (Nat.le_of_ble_eq_true rfl) ?_
  refine for_up (fun i σ' => σ' = (σ.1, uA σ.2.1 (o + 6) (cp_ (σ.2.1 (o + 6)) (fun _ => nI 0) i), σ.2.2)) (fun i => [some (.ref (ad g o)), some (.ref (ad g 24)), some (.int (nI t)), some (.int (nI rc)), some (.int (nI i))]) (ln (o + 6)) ?_ ?_ 0 _ (Nat.zero_le _) (by rw [cp_0, uA_same])
  · rintro i σ2 hi rfl ih
    refine aw_iload dX8_markSides_3 rfl ?_
    refine aw_aload_n dX8_markSides_5 rfl ?_
    refine gf8_sides dX8_markSides_6 kf8_26 hk ?_
    refine aw_alen dX8_markSides_9 (kf_8_sides hk) (Or.inr rfl) ?_
    refine aw_icmp_geN dX8_markSides_10 rfl rfl (by omega) (by omega) (fun h_10 => absurd h_10 (by omega)) (fun h_10 => ?_)
    refine aw_aload_n dX8_markSides_13 rfl ?_
    refine gf8_sides dX8_markSides_14 kf8_26 hk ?_
    refine aw_iload dX8_markSides_17 rfl ?_
    refine aw_ic (nI 0) dX8_markSides_19 (by decide) ?_
    refine aw_zsto (i) dX8_markSides_20 (kf_8_sides hk) (rfl) (by omega) (by decide) ?_
    refine aw_inc (nI (i + 1)) dX8_markSides_21 rfl (Nat.le_of_ble_eq_true rfl) (nI_1 i) ?_
    refine aw_goto dX8_markSides_24 ?_
    exact ih _ (by rw [uA_s, uA_uA]; exact congrArg (fun z => (σ.1, uA σ.2.1 (o + 6) z, σ.2.2)) (cp_s _ (fun _ => nI 0) i))
  · rintro σ2 rfl
    refine aw_iload dX8_markSides_3 rfl ?_
    refine aw_aload_n dX8_markSides_5 rfl ?_
    refine gf8_sides dX8_markSides_6 kf8_26 hk ?_
    refine aw_alen dX8_markSides_9 (kf_8_sides hk) (Or.inr rfl) ?_
    refine aw_icmp_geN dX8_markSides_10 rfl rfl (by omega) (by omega) (fun h_10 => ?_) (fun h_10 => absurd h_10 (by omega))
    refine aw_ic (nI 0) dX8_markSides_27 (by decide) ?_
    refine aw_istore dX8_markSides_28 (Nat.le_of_ble_eq_true rfl) ?_
    refine for_up (fun i σ' => ∃ S, σ' = (σ.1, uA σ.2.1 (o + 6) S, σ.2.2) ∧ SdN σ' o nr nc (fun w r c => anyB (fun k => inT k && hitN pl rc (R k) w r c) i)) (fun i => [some (.ref (ad g o)), some (.ref (ad g 24)), some (.int (nI t)), some (.int (nI rc)), some (.int (nI i))]) m ?_ ?_ 0 _ (Nat.zero_le _) ⟨_, rfl, fun w r c hi => ?_⟩
    rotate_left 2
    · have hix := sidx_lt hi
      show uA _ (o + 6) _ (o + 6) _ = _
      rw [uA_s]
      unfold cp_
      rw [if_pos (by omega)]
      rfl
    · rintro i σ2 hi ⟨S, rfl, hSd⟩ ih
      have hri := hπ.1 i (by omega)
      refine aw_iload dX8_markSides_30 rfl ?_
      refine aw_aload_n dX8_markSides_32 rfl ?_
      refine gf7_count dX8_markSides_33 kf8_83 k_24 ?_
      refine aw_eq hm ?_
      refine aw_icmp_geN dX8_markSides_36 rfl rfl (by omega) (by omega) (fun h_36 => absurd h_36 (by omega)) (fun h_36 => ?_)
      refine aw_aload_n dX8_markSides_39 rfl ?_
      refine gf7_all dX8_markSides_40 kf8_88 k_24 ?_
      refine aw_eqr (b := 25) rfl ?_
      refine aw_iload dX8_markSides_43 rfl ?_
      refine aw_ald14 (i) dX8_markSides_45 k_25 (rfl) (by omega) ?_
      refine gf6_table dX8_markSides_46 kf8_92 (k_rule hri) ?_
      refine aw_iload_n dX8_markSides_49 rfl ?_
      refine aw_icmp_ne dX8_markSides_50 (fun h_50 => ?_) (fun h_50 => ?_)
      · skip
        refine aw_inc (nI (i + 1)) dX8_markSides_65 rfl (Nat.le_of_ble_eq_true rfl) (nI_1 i) ?_
        refine aw_goto dX8_markSides_68 ?_
        first
          | exact ih _ ⟨S2, by rw [uA_uA], hSd2.cong (fun w r c _ => by
              show _ = (anyB _ i || (inT i && hitN pl rc (R i) w r c))
              rw [hin, Bool.true_and])⟩
          | exact ih _ ⟨S, rfl, hSd.cong (fun w r c _ => by
              show _ = (anyB _ i || (inT i && hitN pl rc (R i) w r c))
              have : inT i = false := by
                cases hz : inT i with
                | false => rfl
                | true => exact absurd ((htb i hi).mpr hz) h_50
              rw [this, Bool.false_and, Bool.or_false])⟩
      · skip
        refine aw_aload_n dX8_markSides_53 rfl ?_
        refine aw_aload_n dX8_markSides_54 rfl ?_
        refine gf7_all dX8_markSides_55 kf8_88 k_24 ?_
        refine aw_eqr (b := 25) rfl ?_
        refine aw_iload dX8_markSides_58 rfl ?_
        refine aw_ald14 (i) dX8_markSides_60 k_25 (rfl) (by omega) ?_
        refine aw_iload_n dX8_markSides_61 rfl ?_
        have hin := (htb i hi).mp h_50
        obtain ⟨l, hl1, hl2⟩ := hln i hi hin
        refine cvv2 dX8_markSides_62 km8_120 ok_X8_markSidesOf rfl rfl (by decide) hk (Nat.le_of_ble_eq_true rfl) ⟨Nat.le_of_ble_eq_true rfl, Nat.le_of_ble_eq_true rfl⟩ rfl rfl (ct_markSidesOf (l := l) (ra := R i) (show TaD (σ.1, uA σ.2.1 (o + 6) S, σ.2.2) o nr nc from hT0) (k_rule hri) (hL.keep (uA_n (by omega)) (fun w hw => uA_n (by omega))) hn0 hn1 hRi (hQ i hi).1 (hQ i hi).2 (hway i hi) hl1 hl2 hrc hSd) ?_
        intro σ3 hp_62
        obtain ⟨S2, rfl, hSd2⟩ := hp_62
        refine aw_inc (nI (i + 1)) dX8_markSides_65 rfl (Nat.le_of_ble_eq_true rfl) (nI_1 i) ?_
        refine aw_goto dX8_markSides_68 ?_
        first
          | exact ih _ ⟨S2, by rw [uA_uA], hSd2.cong (fun w r c _ => by
              show _ = (anyB _ i || (inT i && hitN pl rc (R i) w r c))
              rw [hin, Bool.true_and])⟩
          | exact ih _ ⟨S, rfl, hSd.cong (fun w r c _ => by
              show _ = (anyB _ i || (inT i && hitN pl rc (R i) w r c))
              have : inT i = false := by
                cases hz : inT i with
                | false => rfl
                | true => exact absurd ((htb i hi).mpr hz) h_50
              rw [this, Bool.false_and, Bool.or_false])⟩
    · rintro σ2 ⟨S, rfl, hSd⟩
      refine aw_iload dX8_markSides_30 rfl ?_
      refine aw_aload_n dX8_markSides_32 rfl ?_
      refine gf7_count dX8_markSides_33 kf8_83 k_24 ?_
      refine aw_eq hm ?_
      refine aw_icmp_geN dX8_markSides_36 rfl rfl (by omega) (by omega) (fun h_36 => ?_) (fun h_36 => absurd h_36 (by omega))
      exact aw_ret dX8_markSides_71 (⟨S, rfl, hSd⟩)

