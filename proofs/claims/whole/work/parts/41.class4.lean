/-- labels: the least of each group -/
def Lb (lab : Nat → Nat) : Prop := (∀ k, lab k ≤ k) ∧ ∀ k, lab (lab k) = lab k
theorem Lb.id : Lb (fun k => k) := ⟨fun _ => Nat.le_refl _, fun _ => rfl⟩
theorem Lb.join {lab : Nat → Nat} (h : Lb lab) (a b : Nat) : Lb (joinL lab a b) := by
  have ha := h.2 a
  have hb := h.2 b
  refine ⟨fun k => ?_, fun k => ?_⟩
  · have := h.1 k
    unfold joinL
    split
    · rename_i e
      have : min (lab a) (lab b) ≤ max (lab a) (lab b) := by omega
      omega
    · exact this
  · have hk := h.2 k
    show joinL lab a b (joinL lab a b k) = joinL lab a b k
    by_cases e : lab k = max (lab a) (lab b)
    · have e1 : joinL lab a b k = min (lab a) (lab b) := if_pos e
      rw [e1]
      have hm : lab (min (lab a) (lab b)) = min (lab a) (lab b) := by
        rcases Nat.le_total (lab a) (lab b) with z | z
        · rw [Nat.min_eq_left z]; exact ha
        · rw [Nat.min_eq_right z]; exact hb
      unfold joinL
      rw [hm]
      split <;> rfl
    · have e1 : joinL lab a b k = lab k := if_neg e
      rw [e1]
      unfold joinL
      rw [hk, if_neg e]
theorem Lb.labJ {r : Nat → Nat → Bool} {lab : Nat → Nat} (h : Lb lab) (i : Nat) : ∀ j, Lb (labJ r lab i j)
  | 0 => h
  | j + 1 => by
    show Lb (if _ then _ else _)
    split
    · exact (Lb.labJ h i j).join _ _
    · exact Lb.labJ h i j
theorem Lb.labI {r : Nat → Nat → Bool} : ∀ i, Lb (labI r i)
  | 0 => Lb.id
  | i + 1 => (Lb.labI i).labJ i i
theorem Lb.stepF {sd : Nat → Nat → Nat → Bool} {nc f r c : Nat} {l : Nat → Nat} (h : Lb l) : Lb (stepF sd nc l f r c) := by
  unfold _root_.Jvm.Pilot.CRuledTablesLaw_law_r2391_d775b6.stepF
  split
  · split
    · exact (h.join _ _).join _ _
    · exact h.join _ _
  · split
    · exact h.join _ _
    · exact h
theorem Lb.labF {sd : Nat → Nat → Nat → Bool} {nc : Nat} : ∀ f, Lb (labF sd nc f)
  | 0 => Lb.id
  | f + 1 => (Lb.labF f).stepF
theorem ctB_one {f h : Nat → Bool} {j : Nat} : ∀ {n : Nat}, j < n → (∀ k, k < n → k ≠ j → f k = h k) → ctB f n + (if h j = true then 1 else 0) = ctB h n + (if f j = true then 1 else 0)
  | 0, hj, _ => absurd hj (Nat.not_lt_zero _)
  | n + 1, hj, hk => by
    show ctB f n + _ + _ = ctB h n + _ + _
    by_cases e : j = n
    · subst e
      rw [ctB_cong (fun k h9 => hk k (by omega) (by omega))]
      omega
    · have := ctB_one (n := n) (by omega) (fun k h1 h2 => hk k (by omega) h2)
      rw [hk n (by omega) (fun z => e z.symm)]
      omega
theorem ctB_perm : ∀ {n : Nat} {τ : Nat → Nat}, (∀ k, k < n → τ k < n) → (∀ j k, j < n → k < n → τ j = τ k → j = k) → ∀ p : Nat → Bool, ctB (fun x => p (τ x)) n = ctB p n
  | 0, _, _, _, _ => rfl
  | n + 1, τ, h1, h2, p => by
    obtain ⟨j, hj, ej⟩ := fb_onto (y := n) h1 (fun i j hij hj e => absurd (h2 i j (by omega) hj e) (by omega)) (by omega)
    have hlt : ∀ k, k < n + 1 → k ≠ j → τ k < n := fun k hk hne => by
      have := h1 k hk
      have : τ k ≠ n := fun e => hne (h2 k j hk hj (by rw [e, ej]))
      omega
    have ih := ctB_perm (n := n) (τ := fun k => if k = j then τ n else τ k) (fun k hk => by
      show (if k = j then τ n else τ k) < n
      by_cases e : k = j
      · rw [if_pos e]
        exact hlt n (by omega) (by omega)
      · rw [if_neg e]
        exact hlt k (by omega) e) (fun a b ha hb e => by
      have e : (if a = j then τ n else τ a) = (if b = j then τ n else τ b) := e
      by_cases za : a = j
      · by_cases zb : b = j
        · omega
        · rw [if_pos za, if_neg zb] at e
          have := h2 n b (by omega) (by omega) e
          omega
      · by_cases zb : b = j
        · rw [if_neg za, if_pos zb] at e
          have := h2 a n (by omega) (by omega) e
          omega
        · rw [if_neg za, if_neg zb] at e
          exact h2 a b (by omega) (by omega) e) p
    show ctB (fun x => p (τ x)) n + _ = ctB p n + _
    by_cases e : j = n
    · subst e
      show _ + (if p (τ j) = true then 1 else 0) = _
      have e9 : ctB (fun x => p (τ x)) j = ctB (fun x => p (if x = j then τ j else τ x)) j := ctB_cong (fun k hk => by show _ = p (if k = j then _ else _); rw [if_neg (by omega)])
      rw [ej, e9, ih]
    · have := ctB_one (f := fun x => p (τ x)) (h := fun x => p (if x = j then τ n else τ x)) (j := j) (n := n) (by omega) (fun k hk hne => by show _ = p (if k = j then _ else _); rw [if_neg hne])
      rw [ih] at this
      simp only [if_true] at this
      rw [ej] at this
      simp only
      omega
theorem fst_lt {p : Nat → Bool} : ∀ {n j : Nat}, j < fst p n → p j = false
  | 0, j, h => absurd h (Nat.not_lt_zero _)
  | n + 1, j, h => by
    unfold fst at h
    by_cases z : fst p n < n
    · rw [if_pos z] at h
      exact fst_lt h
    · rw [if_neg z] at h
      have hn : fst p n = n := by have := fst_le p n; omega
      by_cases y : p n = true
      · rw [if_pos y] at h
        exact fst_lt (n := n) (by omega)
      · rw [if_neg y] at h
        by_cases w : j < n
        · exact fst_lt (n := n) (by omega)
        · rw [show j = n by omega]
          simpa using y
theorem ctB_lt (p : Nat → Bool) {i : Nat} : ∀ {n : Nat}, i ≤ n → ctB (fun x => p x && decide (x < i)) n = ctB p i
  | 0, h => by rw [show i = 0 by omega]; rfl
  | n + 1, h => by
    show ctB _ n + _ = _
    by_cases e : i ≤ n
    · rw [ctB_lt p e, if_neg (by simp; omega)]
      rfl
    · have : i = n + 1 := by omega
      subst this
      show _ = ctB p n + _
      rw [ctB_cong (q := p) (fun k hk => by simp; omega)]
      simp
/-- the k-th in order: by places, or by how many are before it -/
theorem rd_eq {Q : Nat → Nat → Nat} {n : Nat} {τ : Nat → Nat} (h : SoP Q n τ) (inn : Nat → Bool) (k : Int32) (hn : n < 2 ^ 31) : (if fst (fun i => inn (τ i) && decide (nI (ctB (fun x => inn (τ x)) i) = k)) n < n then nI (τ (fst (fun i => inn (τ i) && decide (nI (ctB (fun x => inn (τ x)) i) = k)) n)) else -6) = orN (fst (fun w => inn w && decide (nI (ctB (fun e => inn e && befN (Q e) (Q w)) n) = k)) n) n := by
  have hc : ∀ i, i < n → ctB (fun e => inn e && befN (Q e) (Q (τ i))) n = ctB (fun x => inn (τ x)) i := fun i hi => by
    rw [← ctB_perm h.1 h.2.1, ← ctB_lt (fun x => inn (τ x)) (Nat.le_of_lt hi)]
    apply ctB_cong
    intro x hx
    show (inn (τ x) && befN (Q (τ x)) (Q (τ i))) = (inn (τ x) && decide (x < i))
    congr 1
    rcases Nat.lt_trichotomy x i with z | z | z
    · rw [h.2.2 x i z hi]
      simp [z]
    · subst z
      simp only [Nat.lt_irrefl, decide_false]
      cases q : befN (Q (τ x)) (Q (τ x)) with
      | false => rfl
      | true => exact (bef_asym q q).elim
    · have hb := h.2.2 i x z hx
      have : ¬ x < i := by omega
      simp only [this, decide_false]
      cases q : befN (Q (τ x)) (Q (τ i)) with
      | false => rfl
      | true => exact (bef_asym q hb).elim
  generalize ha : fst (fun i => inn (τ i) && decide (nI (ctB (fun x => inn (τ x)) i) = k)) n = a
  by_cases hal : a < n
  · rw [if_pos hal]
    have hy := fst_yes (p := fun i => inn (τ i) && decide (nI (ctB (fun x => inn (τ x)) i) = k)) (n := n) (by rw [ha]; exact hal)
    rw [ha] at hy
    simp only [Bool.and_eq_true, decide_eq_true_eq] at hy
    have : fst (fun w => inn w && decide (nI (ctB (fun e => inn e && befN (Q e) (Q w)) n) = k)) n = τ a := by
      refine fst_eq (fun w hw => ?_) ?_ (h.1 a hal)
      · obtain ⟨i, hi, rfl⟩ := h.onto (y := w) (by have := h.1 a hal; omega)
        rw [hc i hi]
        cases q : (inn (τ i) && decide (nI (ctB (fun x => inn (τ x)) i) = k)) with
        | false => rfl
        | true =>
          exfalso
          simp only [Bool.and_eq_true, decide_eq_true_eq] at q
          have e : ctB (fun x => inn (τ x)) i = ctB (fun x => inn (τ x)) a := (nI_eq (Nat.lt_of_le_of_lt (ctB_le _ _) (by omega)) (Nat.lt_of_le_of_lt (ctB_le _ _) (by omega))).mp (q.2.trans hy.2.symm)
          rcases Nat.lt_trichotomy i a with z | z | z
          · have := ctB_mono (fun x => inn (τ x)) (show i + 1 ≤ a by omega)
            have e2 : ctB (fun x => inn (τ x)) (i + 1) = ctB (fun x => inn (τ x)) i + 1 := by show _ + (if _ then 1 else 0) = _; rw [if_pos q.1]
            omega
          · subst z
            omega
          · have := ctB_mono (fun x => inn (τ x)) (show a + 1 ≤ i by omega)
            have e2 : ctB (fun x => inn (τ x)) (a + 1) = ctB (fun x => inn (τ x)) a + 1 := by show _ + (if _ then 1 else 0) = _; rw [if_pos hy.1]
            omega
      · rw [hc a hal]
        simp only [Bool.and_eq_true, decide_eq_true_eq]
        exact hy
    rw [this]
    unfold orN
    rw [if_pos (h.1 a hal)]
  · rw [if_neg hal]
    have : fst (fun w => inn w && decide (nI (ctB (fun e => inn e && befN (Q e) (Q w)) n) = k)) n = n := by
      refine fst_none (fun w hw => ?_)
      obtain ⟨i, hi, rfl⟩ := h.onto hw
      rw [hc i hi]
      exact fst_lt (p := fun i => inn (τ i) && decide (nI (ctB (fun x => inn (τ x)) i) = k)) (n := n) (by omega)
    rw [this]
    unfold orN
    rw [if_neg (Nat.lt_irrefl _)]
theorem wd_in {P : Pg} {t q x : Nat} {a b : Int32} (h : a = (if pWT P x < pT P then nI (pWT P x) else -6) ∧ b = (if pWT P x < pT P then nI (pWC P x) else -6)) (ht : t < pT P) (hT : pT P ≤ 6) (hq : q < 2 ^ 31) (hC : pWT P x < pT P → pWC P x < 2 ^ 31) : (decide (a = nI t) && decide (b = nI q)) = pInn P t q x := by
  rw [h.1, h.2]
  unfold pInn
  by_cases z : pWT P x < pT P
  · have := hC z
    rw [if_pos z, if_pos z]
    rw [show decide (nI (pWT P x) = nI t) = decide (pWT P x = t) from decide_eq_decide.mpr (nI_eq (by omega) (by omega)), show decide (nI (pWC P x) = nI q) = decide (pWC P x = q) from decide_eq_decide.mpr (nI_eq (by omega) hq)]
  · rw [if_neg z, if_neg z, show decide (pWT P x = t) = false from decide_eq_false (by omega)]
    have : ¬ (-6 : Int32) = nI t := fun e => by
      have e9 := congrArg Int32.toInt e
      rw [nI_toInt (by omega), show (-6 : Int32).toInt = -6 by decide] at e9
      omega
    rw [show decide ((-6 : Int32) = nI t) = false from decide_eq_false this]
    rfl
theorem misL_mem {kc : Nat → Bool} {q w a : Nat} {e : Nat × Nat × Nat} : ∀ {n : Nat}, e ∈ misL kc q w a n → e.1 = q ∧ e.2.1 = w ∧ a ≤ e.2.2 ∧ e.2.2 < a + n
  | 0, h => by cases h
  | n + 1, h => by
    rcases List.mem_append.mp h with h | h
    · have := misL_mem h
      exact ⟨this.1, this.2.1, this.2.2.1, by omega⟩
    · split at h
      · rw [List.mem_singleton] at h
        subst h
        exact ⟨rfl, rfl, by dsimp only; omega, by dsimp only; omega⟩
      · cases h
theorem misC_mem {wd : Nat → Nat → Nat} {inn : Nat → Nat → Bool} {c : Nat} {pl cv : Nat → Nat → Nat} {e : Nat × Nat × Nat} : ∀ {n : Nat}, e ∈ misC wd inn c pl cv n → e.1 < n ∧ e.2.1 < 2 ∧ cv e.1 e.2.1 + 1 ≤ e.2.2 ∧ e.2.2 < cv e.1 e.2.1 + cv e.1 (2 + e.2.1)
  | 0, h => by cases h
  | n + 1, h => by
    unfold misC at h
    split at h
    · rcases List.mem_append.mp h with h | h
      · rcases List.mem_append.mp h with h | h
        · have := misC_mem h
          exact ⟨by omega, this.2⟩
        · obtain ⟨a1, a2, a3, a4⟩ := misL_mem h
          rw [a1, a2]
          exact ⟨by omega, by omega, a3, by show _ < _ + cv n 3; omega⟩
      · obtain ⟨a1, a2, a3, a4⟩ := misL_mem h
        rw [a1, a2]
        exact ⟨by omega, by omega, a3, by show _ < _ + cv n 2; omega⟩
    · have := misC_mem h
      exact ⟨by omega, this.2⟩
theorem lnS_b {inT : Nat → Bool} {R : Nat → Nat → Nat} (h : ∀ k, R k 1 ≤ 99) : ∀ m w j, (lnS inT R m).2 w j ≤ 99
  | 0, _, _ => Nat.zero_le _
  | m + 1, w, j => by
    unfold lnS
    split
    · show (if _ then _ else _) ≤ 99
      split
      · exact h m
      · exact lnS_b h m w j
    · exact lnS_b h m w j
theorem mdP_ok {P : Pg} {t k : Nat} {e : Nat × Nat × Nat} (hK : FOKs) (hV : PgV P) (ht : t < pT P) (he : (pMis P t)[k]? = some e) : e.1 < pCc P t ∧ e.2.1 < 2 ∧ e.2.2 < pN P t e.2.1 ∧ pCw P t e.1 (1 - e.2.1) + pCw P t e.1 (2 + (1 - e.2.1)) < pN P t (1 - e.2.1) ∧ (∀ w j, pPl P t w j ≤ 99) ∧ pPl P t (1 - e.2.1) (pCw P t e.1 (1 - e.2.1)) < pPl P t (1 - e.2.1) (pCw P t e.1 (1 - e.2.1) + pCw P t e.1 (2 + (1 - e.2.1))) ∧ pCw P t e.1 e.2.1 + 1 ≤ e.2.2 ∧ e.2.2 < pCw P t e.1 e.2.1 + pCw P t e.1 (2 + e.2.1) := by
  have hm : e ∈ pMis P t := List.mem_of_getElem? he
  obtain ⟨m1, m2, m3, m4⟩ := misC_mem hm
  obtain ⟨f1, f2, f3, f4⟩ := hK P hV
  obtain ⟨-, ris, -, sp, -, -⟩ := f4 t ht
  obtain ⟨b0, b1, b2, b3, b4, b5, b6, b7, b8⟩ := pB hK hV ht
  have hcw : ∀ q j, j < 6 → pCw P t q j = gCv (pR P) (pM P) (rcP P) t q j := fun q j hj => if_neg (by omega)
  have s1 := sp e.1 (1 - e.2.1) m1 (by omega)
  have s2 := sp e.1 e.2.1 m1 m2
  rw [← hcw _ _ (by omega), ← hcw _ _ (by omega)] at s1 s2
  have s1 : pCw P t e.1 (1 - e.2.1) + pCw P t e.1 (2 + (1 - e.2.1)) ≤ pN P t (1 - e.2.1) - 1 ∧ 1 ≤ pCw P t e.1 (2 + (1 - e.2.1)) := s1
  have s2 : pCw P t e.1 e.2.1 + pCw P t e.1 (2 + e.2.1) ≤ pN P t e.2.1 - 1 ∧ 1 ≤ pCw P t e.1 (2 + e.2.1) := s2
  have m3 : pCw P t e.1 e.2.1 + 1 ≤ e.2.2 := m3
  have m4 : e.2.2 < pCw P t e.1 e.2.1 + pCw P t e.1 (2 + e.2.1) := m4
  have hn : 2 ≤ pN P t (1 - e.2.1) := by
    rcases (by omega : e.2.1 = 0 ∨ e.2.1 = 1) with z | z
    · rw [z]
      show 2 ≤ pN P t 1
      omega
    · rw [z]
      show 2 ≤ pN P t 0
      omega
  exact ⟨m1, m2, by omega, by omega, lnS_b f2 _, ris _ _ _ (by omega) (by omega) (show _ < pN P t _ by omega), m3, m4⟩
theorem mdL_ok {P : Pg} {t : Nat} (hK : FOKs) (hV : PgV P) (ht : t < pT P) (h24 : P.1 + (pMis P t).length ≤ 24) : ∀ k, k ≤ (pMis P t).length → PgV (mdL P t k) ∧ (mdL P t k).1 = P.1 + k ∧ (mdL P t k).2.2 = P.2.2
  | 0, _ => ⟨hV, rfl, rfl⟩
  | k + 1, hk => by
    obtain ⟨i1, i2, i3⟩ := mdL_ok hK hV ht h24 k (by omega)
    have he := List.getElem?_eq_getElem (show k < (pMis P t).length by omega)
    obtain ⟨a1, a2, a3, a4, a5, a6, -⟩ := mdP_ok hK hV ht he
    have hL : mdL P t (k + 1) = addP (mdL P t k) (mdP P t (pMis P t)[k]) := by
      show (match (pMis P t)[k]? with | none => _ | some e => _) = _
      rw [he]
    rw [hL]
    refine ⟨i1.add (by omega) (four_le (by omega) (a5 _ _) (a5 _ _) (a5 _ _)) (by show (pMis P t)[k].2.1 ≤ 1; omega) a6, by show (mdL P t k).1 + 1 = _; omega, i3⟩
theorem fst_in {p : Nat → Bool} {n : Nat} (h : decide (fst p n < n) = true) : fst p n < n := by simpa using h
theorem pWC_lt {P : Pg} {x : Nat} (hK : FOKs) (hV : PgV P) (h : pWT P x < pT P) : pWC P x < 2 ^ 31 := by
  have : pWC P x ≤ 441 := by
    obtain ⟨b0, b1, b2, b3, b4, b5, b6, b7, b8⟩ := pB hK hV h
    have hy := fst_yes (p := inW P.2.2.2.1 (pPl P) (pNr P) (pNc P) x) (n := pT P) h
    unfold inW at hy
    simp only [Bool.and_eq_true, decide_eq_true_eq] at hy
    have hl : pWC P x = cnt (tlab (pIn P (pWT P x)) (pR P) (pM P) (rcP P)) (tlab (pIn P (pWT P x)) (pR P) (pM P) (rcP P) (roW P.2.2.2.1 (pPl P (pWT P x)) (pNr P (pWT P x)) x * pNc P (pWT P x) + coW P.2.2.2.1 (pPl P (pWT P x)) (pNc P (pWT P x)) x)) := rfl
    rw [hl]
    refine Nat.le_trans (cnt_le _ _) (Nat.le_trans ((Lb.labF _).1 _) ?_)
    have h1 : roW P.2.2.2.1 (pPl P (pWT P x)) (pNr P (pWT P x)) x < pNr P (pWT P x) := hy.1
    have h2 : coW P.2.2.2.1 (pPl P (pWT P x)) (pNc P (pWT P x)) x < pNc P (pWT P x) := hy.2
    exact Nat.le_of_lt (Nat.lt_of_lt_of_le (rc_lt h1 h2) (Nat.mul_le_mul b4 b5))
  omega
set_option maxHeartbeats 4000000 in
set_option maxRecDepth 100000 in
theorem ct_read {g : GG} {σ : SG} {S : Sp} (hK : FOKs) (hI : InvC σ S) (x cell k : Int32) : Cti g yX9_read cX9_read 5 (some .int) (rmm 6 148) [.ref (ad g 0), .int x, .int cell, .int k] σ (PoC σ (aRead S.1 x cell k, S)) := by
  refine ct_of (own := RX9) (lv := [some (.ref (ad g 0)), some (.int x), some (.int cell), some (.int k), none]) rfl (by decide) (Nat.le_of_ble_eq_true rfl) (by intro u hu; simp only [List.mem_cons, List.not_mem_nil, or_false] at hu; rcases hu with rfl | rfl | rfl | rfl <;> rfl) (lv_ok [.ref (ad g 0), .int x, .int cell, .int k] 1) ?_
  obtain ⟨hP, hV, ⟨m1, m2, m3⟩, h4, h5, h6⟩ := id hI
  have hl6 := l_6
  have hl3 := l_3
  have hl5 := l_5
  have hc : σ.1 162 2 = nI S.1.1 := hP.1.2.1
  have hm : σ.1 161 2 = nI 24 := m1.1
  have hcw : σ.1 162 4 = nI S.1.2.2.1 := hP.2.1.2.1
  have hmw : σ.1 161 4 = nI 20 := m1.2
  have hc24 := hV.1
  have hw20 := hV.2.2.1
  have hT6 := pT_le hK hV
  rcases ix_cases x (n := pT S.1) (by omega) with ⟨h, e⟩ | ⟨t, ht, rfl, e⟩
  · skip
    refine aw_aload_n dX9_read_0 rfl ?_
    refine cvr0 dX9_read_1 km9_82 ok_X9_found rfl rfl (by decide) k_0 (Nat.le_of_ble_eq_true rfl) ⟨Nat.le_of_ble_eq_true rfl, Nat.le_of_ble_eq_true rfl⟩ rfl rfl (ct_found hK hI) ?_
    intro σ1 hp_1
    obtain ⟨hI1, hF1, hFr⟩ := hp_1
    obtain ⟨r1, r2, r3, r4, w1, w2, w3, w4, ⟨τ, w5, w6⟩, t1⟩ := hF1.un
    refine aw_astore dX9_read_4 (Nat.le_of_ble_eq_true rfl) ?_
    refine aw_aload dX9_read_6 rfl ?_
    refine aw_iload_n dX9_read_8 rfl ?_
    refine cqi1 dX9_read_9 km9_125 ok_X0_has rfl rfl (by decide) k_21 (Nat.le_of_ble_eq_true rfl) ⟨Nat.le_of_ble_eq_true rfl, Nat.le_of_ble_eq_true rfl⟩ rfl rfl (ct_Finding_has _) ?_
    refine aw_if_eqB dX9_read_12 rfl (fun h_12 => ?_) (fun h_12 => absurd h_12 (ix_no r4 h))
    refine aw_ic (-1) dX9_read_29 (by decide) ?_
    exact aw_ireti dX9_read_30 (PoC.mk (by unfold aRead; rw [e]) hI1 hFr)
  · skip
    obtain ⟨b0, b1, b2, b3, b4, b5, b6, b7, b8⟩ := pB hK hV ht
    have hk8 := k_tab (show t < 6 by omega)
    have hl51 := l_51
    have hl7 := ln_t7 hk8
    have hlt8 := ln_t8 hk8
    rcases ix_cases cell (n := pCc S.1 t) (by omega) with ⟨h, e2⟩ | ⟨q, hq, rfl, e2⟩
    · skip
      refine aw_aload_n dX9_read_0 rfl ?_
      refine cvr0 dX9_read_1 km9_82 ok_X9_found rfl rfl (by decide) k_0 (Nat.le_of_ble_eq_true rfl) ⟨Nat.le_of_ble_eq_true rfl, Nat.le_of_ble_eq_true rfl⟩ rfl rfl (ct_found hK hI) ?_
      intro σ1 hp_1
      obtain ⟨hI1, hF1, hFr⟩ := hp_1
      obtain ⟨r1, r2, r3, r4, w1, w2, w3, w4, ⟨τ, w5, w6⟩, t1⟩ := hF1.un
      obtain ⟨L1, C1, -, -, q6, -, -⟩ := w1.2 t ht
      obtain ⟨s1, s2, s3, s4⟩ := t1 t ht
      have cap7 : pNr S.1 t * pNc S.1 t ≤ ln (51 + 1 + 20 * t + 7) := C1.1.2.2.2.2.2.2.2.2
      have hccl : pCc S.1 t ≤ pNr S.1 t * pNc S.1 t := C1.2.2.1
      refine aw_astore dX9_read_4 (Nat.le_of_ble_eq_true rfl) ?_
      refine aw_aload dX9_read_6 rfl ?_
      refine aw_iload_n dX9_read_8 rfl ?_
      refine cqi1 dX9_read_9 km9_125 ok_X0_has rfl rfl (by decide) k_21 (Nat.le_of_ble_eq_true rfl) ⟨Nat.le_of_ble_eq_true rfl, Nat.le_of_ble_eq_true rfl⟩ rfl rfl (ct_Finding_has _) ?_
      refine aw_if_eqB dX9_read_12 rfl (fun h_12 => absurd h_12 (not_not_intro (ix_yes r4 ht (by omega)))) (fun h_12 => ?_)
      refine aw_aload dX9_read_15 rfl ?_
      refine gf0_tables dX9_read_17 kf9_126 k_21 ?_
      refine aw_eqr (b := 51) rfl ?_
      refine aw_iload_n dX9_read_20 rfl ?_
      refine aw_ald15 (t) dX9_read_21 k_51 (rfl) (by omega) ?_
      refine aw_iload_n dX9_read_22 rfl ?_
      refine cqi1 dX9_read_23 km9_152 ok_X8_hasCell rfl rfl (by decide) hk8 (Nat.le_of_ble_eq_true rfl) ⟨Nat.le_of_ble_eq_true rfl, Nat.le_of_ble_eq_true rfl⟩ rfl rfl (ct_hasCell hk8 _) ?_
      refine aw_if_neB dX9_read_26 rfl (fun h_26 => absurd h_26 (ix_no C1.2.1 h)) (fun h_26 => ?_)
      refine aw_ic (-1) dX9_read_29 (by decide) ?_
      exact aw_ireti dX9_read_30 (PoC.mk (by unfold aRead; rw [e]; dsimp only; rw [e2]) hI1 hFr)
    · skip
      refine aw_aload_n dX9_read_0 rfl ?_
      refine cvr0 dX9_read_1 km9_82 ok_X9_found rfl rfl (by decide) k_0 (Nat.le_of_ble_eq_true rfl) ⟨Nat.le_of_ble_eq_true rfl, Nat.le_of_ble_eq_true rfl⟩ rfl rfl (ct_found hK hI) ?_
      intro σ1 hp_1
      obtain ⟨hI1, hF1, hFr⟩ := hp_1
      obtain ⟨r1, r2, r3, r4, w1, w2, w3, w4, ⟨τ, w5, w6⟩, t1⟩ := hF1.un
      obtain ⟨L1, C1, -, -, q6, -, -⟩ := w1.2 t ht
      obtain ⟨s1, s2, s3, s4⟩ := t1 t ht
      have cap7 : pNr S.1 t * pNc S.1 t ≤ ln (51 + 1 + 20 * t + 7) := C1.1.2.2.2.2.2.2.2.2
      have hccl : pCc S.1 t ≤ pNr S.1 t * pNc S.1 t := C1.2.2.1
      refine aw_astore dX9_read_4 (Nat.le_of_ble_eq_true rfl) ?_
      refine aw_aload dX9_read_6 rfl ?_
      refine aw_iload_n dX9_read_8 rfl ?_
      refine cqi1 dX9_read_9 km9_125 ok_X0_has rfl rfl (by decide) k_21 (Nat.le_of_ble_eq_true rfl) ⟨Nat.le_of_ble_eq_true rfl, Nat.le_of_ble_eq_true rfl⟩ rfl rfl (ct_Finding_has _) ?_
      refine aw_if_eqB dX9_read_12 rfl (fun h_12 => absurd h_12 (not_not_intro (ix_yes r4 ht (by omega)))) (fun h_12 => ?_)
      refine aw_aload dX9_read_15 rfl ?_
      refine gf0_tables dX9_read_17 kf9_126 k_21 ?_
      refine aw_eqr (b := 51) rfl ?_
      refine aw_iload_n dX9_read_20 rfl ?_
      refine aw_ald15 (t) dX9_read_21 k_51 (rfl) (by omega) ?_
      refine aw_iload_n dX9_read_22 rfl ?_
      refine cqi1 dX9_read_23 km9_152 ok_X8_hasCell rfl rfl (by decide) hk8 (Nat.le_of_ble_eq_true rfl) ⟨Nat.le_of_ble_eq_true rfl, Nat.le_of_ble_eq_true rfl⟩ rfl rfl (ct_hasCell hk8 _) ?_
      refine aw_if_neB dX9_read_26 rfl (fun h_26 => ?_) (fun h_26 => absurd h_26 (not_not_intro (ix_yes C1.2.1 hq (by omega))))
      refine aw_aload dX9_read_31 rfl ?_
      refine gf0_placing dX9_read_33 kf9_98 k_21 ?_
      refine aw_eqr (b := 172) rfl ?_
      refine aw_iload_n dX9_read_36 rfl ?_
      refine aw_iload_n dX9_read_37 rfl ?_
      refine aw_iload_n dX9_read_38 rfl ?_
      refine cqi3 dX9_read_39 km9_158 ok_X4_wordRead rfl rfl (by decide) k_172 (Nat.le_of_ble_eq_true rfl) ⟨Nat.le_of_ble_eq_true rfl, Nat.le_of_ble_eq_true rfl⟩ rfl rfl (ct_wordRead w3 hw20 w5 w6.1 _ _ k) ?_
      exact aw_ireti dX9_read_42 (PoC.mk (by
          unfold aRead
          rw [e]
          dsimp only
          rw [e2]
          dsimp only
          unfold ahd
          rw [← rd_eq w6 (pInn S.1 t q) k (by omega)]
          have hin : ∀ x, x < S.1.2.2.1 → (decide (σ1.2.1 173 (τ x) = nI t) && decide (σ1.2.1 174 (τ x) = nI q)) = pInn S.1 t q (τ x) := fun x hx => wd_in (w4 (τ x) (w6.1 x hx)) ht (by omega) (by omega) (fun z => pWC_lt hK hV z)
          have hct : ∀ i, i ≤ S.1.2.2.1 → ctB (fun x => decide (σ1.2.1 173 (τ x) = nI t) && decide (σ1.2.1 174 (τ x) = nI q)) i = ctB (fun x => pInn S.1 t q (τ x)) i := fun i hi => ctB_cong (fun x hx => hin x (by omega))
          have hfe : fst (fun i => decide (σ1.2.1 173 (τ i) = nI t) && decide (σ1.2.1 174 (τ i) = nI q) && decide (nI (ctB (fun x => decide (σ1.2.1 173 (τ x) = nI t) && decide (σ1.2.1 174 (τ x) = nI q)) i) = k)) S.1.2.2.1 = fst (fun i => pInn S.1 t q (τ i) && decide (nI (ctB (fun x => pInn S.1 t q (τ x)) i) = k)) S.1.2.2.1 := fst_cong (fun i hi => by
            show (decide (σ1.2.1 173 (τ i) = nI t) && decide (σ1.2.1 174 (τ i) = nI q) && decide (nI (ctB (fun x => decide (σ1.2.1 173 (τ x) = nI t) && decide (σ1.2.1 174 (τ x) = nI q)) i) = k)) = _
            rw [hin i hi, hct i (by omega)])
          rw [hfe]) hI1 hFr)

theorem uI_n2 {I : Nat → Nat → Int32} {v : Int32} {f q : Nat} (h : f ≠ 162 ∨ q ≠ 2) : uI I 162 2 v f q = I f q := if_neg (by omega)
set_option maxHeartbeats 4000000 in
set_option maxRecDepth 100000 in
theorem ct_mend {g : GG} {σ : SG} {S : Sp} (hK : FOKs) (hI : InvC σ S) (x : Int32) : Cti g yX9_mend cX9_mend 5 (some .int) (rmm 6 148) [.ref (ad g 0), .int x] σ (PoC σ (sMend S x)) := by
  refine ct_of (own := RX9) (lv := [some (.ref (ad g 0)), some (.int x), none, none, none]) rfl (by decide) (Nat.le_of_ble_eq_true rfl) (by intro u hu; simp only [List.mem_cons, List.not_mem_nil, or_false] at hu; rcases hu with rfl | rfl <;> rfl) (lv_ok [.ref (ad g 0), .int x] 3) ?_
  obtain ⟨hP, hV, ⟨m1, m2, m3⟩, h4, h5, h6⟩ := id hI
  have hl6 := l_6
  have hl3 := l_3
  have hl5 := l_5
  have hc : σ.1 162 2 = nI S.1.1 := hP.1.2.1
  have hm : σ.1 161 2 = nI 24 := m1.1
  have hcw : σ.1 162 4 = nI S.1.2.2.1 := hP.2.1.2.1
  have hmw : σ.1 161 4 = nI 20 := m1.2
  have hc24 := hV.1
  have hw20 := hV.2.2.1
  have hT6 := pT_le hK hV
  rcases ix_cases x (n := pT S.1) (by omega) with ⟨h, e⟩ | ⟨t, ht, rfl, e⟩
  · skip
    refine aw_aload_n dX9_mend_0 rfl ?_
    refine cvr0 dX9_mend_1 km9_82 ok_X9_found rfl rfl (by decide) k_0 (Nat.le_of_ble_eq_true rfl) ⟨Nat.le_of_ble_eq_true rfl, Nat.le_of_ble_eq_true rfl⟩ rfl rfl (ct_found hK hI) ?_
    intro σ1 hp_1
    obtain ⟨hI1, hF1, hFr⟩ := hp_1
    obtain ⟨r1, r2, r3, r4, w1, w2, w3, w4, ⟨τ, w5, w6⟩, t1⟩ := hF1.un
    refine aw_astore_n dX9_mend_4 (Nat.le_of_ble_eq_true rfl) ?_
    refine aw_aload_n dX9_mend_5 rfl ?_
    refine aw_iload_n dX9_mend_6 rfl ?_
    refine cqi1 dX9_mend_7 km9_125 ok_X0_has rfl rfl (by decide) k_21 (Nat.le_of_ble_eq_true rfl) ⟨Nat.le_of_ble_eq_true rfl, Nat.le_of_ble_eq_true rfl⟩ rfl rfl (ct_Finding_has _) ?_
    refine aw_if_neB dX9_mend_10 rfl (fun h_10 => absurd h_10 (ix_no r4 h)) (fun h_10 => ?_)
    refine aw_ic (-1) dX9_mend_13 (by decide) ?_
    exact aw_ireti dX9_mend_14 (PoC.mk (by unfold sMend; rw [e]) hI1 hFr)
  · skip
    obtain ⟨b0, b1, b2, b3, b4, b5, b6, b7, b8⟩ := pB hK hV ht
    have hk8 := k_tab (show t < 6 by omega)
    have hl51 := l_51
    have hl7 := ln_t7 hk8
    have hlt8 := ln_t8 hk8
    by_cases h0 : (pMis S.1 t).length = 0
    · skip
      refine aw_aload_n dX9_mend_0 rfl ?_
      refine cvr0 dX9_mend_1 km9_82 ok_X9_found rfl rfl (by decide) k_0 (Nat.le_of_ble_eq_true rfl) ⟨Nat.le_of_ble_eq_true rfl, Nat.le_of_ble_eq_true rfl⟩ rfl rfl (ct_found hK hI) ?_
      intro σ1 hp_1
      obtain ⟨hI1, hF1, hFr⟩ := hp_1
      obtain ⟨r1, r2, r3, r4, w1, w2, w3, w4, ⟨τ, w5, w6⟩, t1⟩ := hF1.un
      obtain ⟨L1, C1, -, -, q6, -, -⟩ := w1.2 t ht
      obtain ⟨s1, s2, s3, s4⟩ := t1 t ht
      have cap7 : pNr S.1 t * pNc S.1 t ≤ ln (51 + 1 + 20 * t + 7) := C1.1.2.2.2.2.2.2.2.2
      have hccl : pCc S.1 t ≤ pNr S.1 t * pNc S.1 t := C1.2.2.1
      refine aw_astore_n dX9_mend_4 (Nat.le_of_ble_eq_true rfl) ?_
      refine aw_aload_n dX9_mend_5 rfl ?_
      refine aw_iload_n dX9_mend_6 rfl ?_
      refine cqi1 dX9_mend_7 km9_125 ok_X0_has rfl rfl (by decide) k_21 (Nat.le_of_ble_eq_true rfl) ⟨Nat.le_of_ble_eq_true rfl, Nat.le_of_ble_eq_true rfl⟩ rfl rfl (ct_Finding_has _) ?_
      refine aw_if_neB dX9_mend_10 rfl (fun h_10 => ?_) (fun h_10 => absurd h_10 (not_not_intro (ix_yes r4 ht (by omega))))
      refine aw_aload_n dX9_mend_15 rfl ?_
      refine gf0_tables dX9_mend_16 kf9_126 k_21 ?_
      refine aw_eqr (b := 51) rfl ?_
      refine aw_iload_n dX9_mend_19 rfl ?_
      refine aw_ald15 (t) dX9_mend_20 k_51 (rfl) (by omega) ?_
      refine aw_astore_n dX9_mend_21 (Nat.le_of_ble_eq_true rfl) ?_
      refine aw_aload_n dX9_mend_22 rfl ?_
      refine gf8_missedCount dX9_mend_23 kf9_161 hk8 ?_
      refine aw_eq s4.1 ?_
      refine aw_if_neN dX9_mend_26 rfl (by omega) (fun h_26 => absurd h_26 (by omega)) (fun h_26 => ?_)
      refine aw_bi (-5) dX9_mend_29 (by decide) ?_
      exact aw_ireti dX9_mend_31 (PoC.mk (by unfold sMend; rw [e]; dsimp only; rw [if_pos h0]) hI1 hFr)
    · skip
      by_cases h24 : 24 < S.1.1 + (pMis S.1 t).length
      · skip
        refine aw_aload_n dX9_mend_0 rfl ?_
        refine cvr0 dX9_mend_1 km9_82 ok_X9_found rfl rfl (by decide) k_0 (Nat.le_of_ble_eq_true rfl) ⟨Nat.le_of_ble_eq_true rfl, Nat.le_of_ble_eq_true rfl⟩ rfl rfl (ct_found hK hI) ?_
        intro σ1 hp_1
        obtain ⟨hI1, hF1, hFr⟩ := hp_1
        obtain ⟨r1, r2, r3, r4, w1, w2, w3, w4, ⟨τ, w5, w6⟩, t1⟩ := hF1.un
        obtain ⟨L1, C1, -, -, q6, -, -⟩ := w1.2 t ht
        obtain ⟨s1, s2, s3, s4⟩ := t1 t ht
        have cap7 : pNr S.1 t * pNc S.1 t ≤ ln (51 + 1 + 20 * t + 7) := C1.1.2.2.2.2.2.2.2.2
        have hccl : pCc S.1 t ≤ pNr S.1 t * pNc S.1 t := C1.2.2.1
        refine aw_astore_n dX9_mend_4 (Nat.le_of_ble_eq_true rfl) ?_
        refine aw_aload_n dX9_mend_5 rfl ?_
        refine aw_iload_n dX9_mend_6 rfl ?_
        refine cqi1 dX9_mend_7 km9_125 ok_X0_has rfl rfl (by decide) k_21 (Nat.le_of_ble_eq_true rfl) ⟨Nat.le_of_ble_eq_true rfl, Nat.le_of_ble_eq_true rfl⟩ rfl rfl (ct_Finding_has _) ?_
        refine aw_if_neB dX9_mend_10 rfl (fun h_10 => ?_) (fun h_10 => absurd h_10 (not_not_intro (ix_yes r4 ht (by omega))))
        refine aw_aload_n dX9_mend_15 rfl ?_
        refine gf0_tables dX9_mend_16 kf9_126 k_21 ?_
        refine aw_eqr (b := 51) rfl ?_
        refine aw_iload_n dX9_mend_19 rfl ?_
        refine aw_ald15 (t) dX9_mend_20 k_51 (rfl) (by omega) ?_
        refine aw_astore_n dX9_mend_21 (Nat.le_of_ble_eq_true rfl) ?_
        refine aw_aload_n dX9_mend_22 rfl ?_
        refine gf8_missedCount dX9_mend_23 kf9_161 hk8 ?_
        refine aw_eq s4.1 ?_
        refine aw_if_neN dX9_mend_26 rfl (by omega) (fun h_26 => ?_) (fun h_26 => absurd h_26 (by omega))
        refine aw_aload_n dX9_mend_32 rfl ?_
        refine gf9_page dX9_mend_33 kf9_12 k_0 ?_
        refine aw_eqr (b := 1) rfl ?_
        refine gf3_pieces dX9_mend_36 kf9_53 k_1 ?_
        refine aw_eqr (b := 2) rfl ?_
        refine gf5_count dX9_mend_39 kf9_67 k_2 ?_
        refine aw_eq hI1.1.1.2.1 ?_
        refine aw_aload_n dX9_mend_42 rfl ?_
        refine gf8_missedCount dX9_mend_43 kf9_161 hk8 ?_
        refine aw_eq s4.1 ?_
        refine aw_iadd dX9_mend_46 ?_
        refine aw_eq (nI_add _ _) ?_
        refine aw_bi (nI 24) dX9_mend_47 (by decide) ?_
        refine aw_icmp_leN dX9_mend_49 rfl (b := 24) rfl (by omega) (by omega) (fun h_49 => absurd h_49 (by omega)) (fun h_49 => ?_)
        refine aw_bi (-4) dX9_mend_52 (by decide) ?_
        exact aw_ireti dX9_mend_54 (PoC.mk (by unfold sMend; rw [e]; dsimp only; rw [if_neg h0, if_pos h24]) hI1 hFr)
      · skip
        refine aw_aload_n dX9_mend_0 rfl ?_
        refine cvr0 dX9_mend_1 km9_82 ok_X9_found rfl rfl (by decide) k_0 (Nat.le_of_ble_eq_true rfl) ⟨Nat.le_of_ble_eq_true rfl, Nat.le_of_ble_eq_true rfl⟩ rfl rfl (ct_found hK hI) ?_
        intro σ1 hp_1
        obtain ⟨hI1, hF1, hFr⟩ := hp_1
        obtain ⟨r1, r2, r3, r4, w1, w2, w3, w4, ⟨τ, w5, w6⟩, t1⟩ := hF1.un
        obtain ⟨L1, C1, -, -, q6, -, -⟩ := w1.2 t ht
        obtain ⟨s1, s2, s3, s4⟩ := t1 t ht
        have cap7 : pNr S.1 t * pNc S.1 t ≤ ln (51 + 1 + 20 * t + 7) := C1.1.2.2.2.2.2.2.2.2
        have hccl : pCc S.1 t ≤ pNr S.1 t * pNc S.1 t := C1.2.2.1
        refine aw_astore_n dX9_mend_4 (Nat.le_of_ble_eq_true rfl) ?_
        refine aw_aload_n dX9_mend_5 rfl ?_
        refine aw_iload_n dX9_mend_6 rfl ?_
        refine cqi1 dX9_mend_7 km9_125 ok_X0_has rfl rfl (by decide) k_21 (Nat.le_of_ble_eq_true rfl) ⟨Nat.le_of_ble_eq_true rfl, Nat.le_of_ble_eq_true rfl⟩ rfl rfl (ct_Finding_has _) ?_
        refine aw_if_neB dX9_mend_10 rfl (fun h_10 => ?_) (fun h_10 => absurd h_10 (not_not_intro (ix_yes r4 ht (by omega))))
        refine aw_aload_n dX9_mend_15 rfl ?_
        refine gf0_tables dX9_mend_16 kf9_126 k_21 ?_
        refine aw_eqr (b := 51) rfl ?_
        refine aw_iload_n dX9_mend_19 rfl ?_
        refine aw_ald15 (t) dX9_mend_20 k_51 (rfl) (by omega) ?_
        refine aw_astore_n dX9_mend_21 (Nat.le_of_ble_eq_true rfl) ?_
        refine aw_aload_n dX9_mend_22 rfl ?_
        refine gf8_missedCount dX9_mend_23 kf9_161 hk8 ?_
        refine aw_eq s4.1 ?_
        refine aw_if_neN dX9_mend_26 rfl (by omega) (fun h_26 => ?_) (fun h_26 => absurd h_26 (by omega))
        refine aw_aload_n dX9_mend_32 rfl ?_
        refine gf9_page dX9_mend_33 kf9_12 k_0 ?_
        refine aw_eqr (b := 1) rfl ?_
        refine gf3_pieces dX9_mend_36 kf9_53 k_1 ?_
        refine aw_eqr (b := 2) rfl ?_
        refine gf5_count dX9_mend_39 kf9_67 k_2 ?_
        refine aw_eq hI1.1.1.2.1 ?_
        refine aw_aload_n dX9_mend_42 rfl ?_
        refine gf8_missedCount dX9_mend_43 kf9_161 hk8 ?_
        refine aw_eq s4.1 ?_
        refine aw_iadd dX9_mend_46 ?_
        refine aw_eq (nI_add _ _) ?_
        refine aw_bi (nI 24) dX9_mend_47 (by decide) ?_
        refine aw_icmp_leN dX9_mend_49 rfl (b := 24) rfl (by omega) (by omega) (fun h_49 => ?_) (fun h_49 => absurd h_49 (by omega))
        refine aw_ic (nI 0) dX9_mend_55 (by decide) ?_
        refine aw_istore dX9_mend_56 (Nat.le_of_ble_eq_true rfl) ?_
        refine for_up (fun k σ' => ∃ J B, σ' = (J, B, σ1.2.2) ∧ RowN (J, B, σ1.2.2) 2 (S.1.1 + k) (mdL S.1 t k).2.1 ∧ (∀ f q, (f ≠ 162 ∨ q ≠ 2) → J f q = σ1.1 f q) ∧ ∀ q, q ≠ 3 → B q = σ1.2.1 q) (fun k => [some (.ref (ad g 0)), some (.int (nI t)), some (.ref (ad g 21)), some (.ref (ad g (51 + 1 + 20 * t))), some (.int (nI k))]) (pMis S.1 t).length ?_ ?_ 0 _ (Nat.zero_le _) ⟨σ1.1, σ1.2.1, rfl, hI1.1.1, fun _ _ _ => rfl, fun _ _ => rfl⟩
        · rintro k σ2 hk ⟨J, B, rfl, hR, hJ, hB⟩ ih
          have he := List.getElem?_eq_getElem hk
          obtain ⟨a1, a2, a3, a4, a5, a6, -⟩ := mdP_ok hK hV ht he
          obtain ⟨i1, i2, i3⟩ := mdL_ok hK hV ht (by omega) k (by omega)
          have C2 : TaC (J, B, σ1.2.2) (51 + 1 + 20 * t) (pNr S.1 t) (pNc S.1 t) (pCc S.1 t) (pFc S.1 t) (pCw S.1 t) := TaC.fr (I := σ1.1) (A := σ1.2.1) (π := σ1.2.2) C1 (hJ _ _ (by omega)) (hJ _ _ (by omega)) (hJ _ _ (by omega)) (hB _ (by omega)) (fun j _ => hB _ (by omega))
          have L2 : LinN (J, B, σ1.2.2) (51 + 1 + 20 * t + 1) (pN S.1 t) (pPl S.1 t) := L1.keep (hB _ (by omega)) (fun w _ => hB _ (by omega))
          have M2 : MiN (J, B, σ1.2.2) (51 + 1 + 20 * t) (pMis S.1 t) := ⟨(hJ _ _ (by omega)).trans s4.1, fun k e he => by
            show B (51 + 1 + 20 * t + 16 + 1 + 0) k = _ ∧ B (51 + 1 + 20 * t + 16 + 1 + 1) k = _ ∧ B (51 + 1 + 20 * t + 16 + 1 + 2) k = _
            rw [hB _ (by omega), hB _ (by omega), hB _ (by omega)]
            exact s4.2 k e he⟩
          have hc2 : J 162 2 = nI (S.1.1 + k) := hR.2.1
          have hm2 : J 161 2 = nI 24 := (hJ 161 2 (by omega)).trans hI1.2.2.1.1.1
          have hlt2 : J 162 2 < J 161 2 := by rw [hc2, hm2]; exact nI_lt (by omega) (by omega)
          refine aw_iload dX9_mend_58 rfl ?_
          refine aw_aload_n dX9_mend_60 rfl ?_
          refine gf8_missedCount dX9_mend_61 kf9_161 hk8 ?_
          refine aw_eq M2.1 ?_
          refine aw_icmp_geN dX9_mend_64 rfl rfl (by omega) (by omega) (fun h_64 => absurd h_64 (by omega)) (fun h_64 => ?_)
          refine aw_aload_n dX9_mend_67 rfl ?_
          refine aw_iload dX9_mend_68 rfl ?_
          refine aw_aload_n dX9_mend_70 rfl ?_
          refine gf9_page dX9_mend_71 kf9_12 k_0 ?_
          refine aw_eqr (b := 1) rfl ?_
          refine gf3_pieces dX9_mend_74 kf9_53 k_1 ?_
          refine aw_eqr (b := 2) rfl ?_
          refine cvv2 dX9_mend_77 km9_167 ok_X8_drawMissed rfl rfl (by decide) hk8 (Nat.le_of_ble_eq_true rfl) ⟨Nat.le_of_ble_eq_true rfl, Nat.le_of_ble_eq_true rfl⟩ rfl rfl (ct_drawMissed (c := S.1.1 + k) C2 L2 M2 b7 he a1 a2 a3 a4 hc2 (by show _ ≤ ln 3; omega) hlt2) ?_
          intro σ3 hp_77
          subst hp_77
          refine aw_inc (nI (k + 1)) dX9_mend_80 rfl (Nat.le_of_ble_eq_true rfl) (nI_1 k) ?_
          refine aw_goto dX9_mend_83 ?_
          refine ih _ ⟨_, _, rfl, ?_, fun f q h => (uI_n2 h).trans (hJ f q h), fun q h => (uA_n h).trans (hB q h)⟩
          have hL : mdL S.1 t (k + 1) = addP (mdL S.1 t k) (mdP S.1 t (pMis S.1 t)[k]) := by
            show (match (pMis S.1 t)[k]? with | none => _ | some e => _) = _
            rw [he]
          rw [hL]
          have := hR.add (c := S.1.1 + k) (u := mdP S.1 t (pMis S.1 t)[k]) (I := uI J 162 2 (nI (S.1.1 + k + 1))) (π := σ1.2.2) (by show _ ≤ ln 3; omega) (four_le (by omega) (a5 _ _) (a5 _ _) (a5 _ _)) (uI_s _ _ _ _) (uA_s B 3 _)
          show RowN _ 2 (S.1.1 + k + 1) (addR (mdL S.1 t k).1 (mdL S.1 t k).2.1 _)
          rw [i2]
          exact this
        · rintro σ2 ⟨J, B, rfl, hR, hJ, hB⟩
          refine aw_iload dX9_mend_58 rfl ?_
          refine aw_aload_n dX9_mend_60 rfl ?_
          refine gf8_missedCount dX9_mend_61 kf9_161 hk8 ?_
          refine aw_eq ((hJ _ _ (by omega)).trans s4.1) ?_
          refine aw_icmp_geN dX9_mend_64 rfl rfl (by omega) (by omega) (fun h_64 => ?_) (fun h_64 => absurd h_64 (by omega))
          refine aw_aload_n dX9_mend_86 rfl ?_
          refine aw_ic (nI 1) dX9_mend_87 (by decide) ?_
          refine pf9_stale dX9_mend_88 kf9_31 k_0 (by decide) ?_
          refine aw_aload_n dX9_mend_91 rfl ?_
          refine gf9_page dX9_mend_92 kf9_12 k_0 ?_
          refine aw_eqr (b := 1) rfl ?_
          refine gf3_pieces dX9_mend_95 kf9_53 k_1 ?_
          refine aw_eqr (b := 2) rfl ?_
          refine gf5_count dX9_mend_98 kf9_67 k_2 ?_
          refine aw_eq ((uI_f (by decide)).trans hR.2.1) ?_
          exact aw_ireti dX9_mend_101 (by
              obtain ⟨i1, i2, i3⟩ := mdL_ok hK hV ht (by omega) _ (Nat.le_refl _)
              refine (fun hh : PoC σ1 _ _ _ => (⟨hh.1, hh.2.1, hFr.trans hh.2.2⟩ : PoC σ _ _ _)) ?_
              refine InvC.pgJ hI1 (P := mdL S.1 t (pMis S.1 t).length) (hI1.1.st (by rw [i2]; exact hR.kp (uI_f (by decide)) rfl) (by rw [i3]; exact hI1.1.2.1.kp ((uI_f (by decide)).trans (hJ _ _ (by omega))) (hB _ (by omega))) (hB _ (by omega)) (by rw [i3])) i1 (uI_s _ _ _ _) (fun f q h1 h2 => by unfold uI; rw [if_neg (by omega)]; exact hJ f q (by omega)) (fun q h => hB q (by omega)) (by unfold sMend; rw [e]; dsimp only; rw [if_neg h0, if_neg h24]))

