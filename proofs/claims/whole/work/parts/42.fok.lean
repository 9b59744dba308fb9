/-! every page keeps within the room: FOKs -/
theorem SoP.ex {Q : Nat → Nat → Nat} : ∀ m, (∀ a b, a < m → b < m → Q a 5 = Q b 5 → a = b) → ∃ τ, SoP Q m τ
  | 0, _ => ⟨fun k => k, fun k h => absurd h (Nat.not_lt_zero _), fun j k h => absurd h (Nat.not_lt_zero _), fun j k _ h => absurd h (Nat.not_lt_zero _)⟩
  | i + 1, hd => by
    obtain ⟨τ, h⟩ := SoP.ex i (fun a b ha hb => hd a b (by omega) (by omega))
    refine ⟨shf τ i (fst (fun j => !befN (Q (τ j)) (Q i)) i), h.ins (fst_le _ _) (fun j hj => ?_) (fun j h1 h2 => ?_)⟩
    · have := fst_lt hj
      simpa using this
    · generalize ht : fst (fun j => !befN (Q (τ j)) (Q i)) i = t at h1
      have hlt : t < i := by omega
      have hy := fst_yes (p := fun j => !befN (Q (τ j)) (Q i)) (n := i) (by rw [ht]; exact hlt)
      rw [ht] at hy
      have hb : befN (Q i) (Q (τ t)) = true := bef_total (a := Q (τ t)) (b := Q i) (fun e => by
        have := hd _ _ (by have := h.1 t hlt; omega) (by omega) e
        have := h.1 t hlt
        omega) (by simpa using hy)
      rcases Nat.lt_or_ge t j with z | z
      · exact bef_trans hb (h.2.2 t j z h2)
      · rw [show j = t by omega]
        exact hb
theorem pSo (P : Pg) : ∃ τ, SoP (Qsp P.2.1 (pL P) P.1) (pM P) τ := SoP.ex _ Qsp_dis
theorem pRo (P : Pg) : (∀ a b, a < pM P → b < pM P → pR P a 5 = pR P b 5 → a = b) ∧ (∀ i, i < pM P → pR P i 5 < P.1 ∧ pL P (pR P i 5) = pR P i 5) ∧ (∀ r, r < P.1 → pL P r = r → ∃ i, i < pM P ∧ pR P i 5 = r) ∧ ∀ j k, j < k → k < pM P → befN (pR P j) (pR P k) = true := by
  obtain ⟨τ, h⟩ := pSo P
  exact Rsp_ok h
theorem rFold_0 {pc : Nat → Nat → Nat} {lab : Nat → Nat} {r : Nat} (hr : lab r = r) : ∀ {p : Nat}, r < p → rFold pc lab r p 0 = pc r 0
  | 0, h => absurd h (Nat.not_lt_zero r)
  | p + 1, h => by
    show (if lab p = r then (if p = r then rBeg pc p else rTake (rFold pc lab r p) pc p) else rFold pc lab r p) 0 = pc r 0
    by_cases e : p = r
    · rw [if_pos (by rw [e]; exact hr), if_pos e]
      simp [rBeg, e]
    · have ih := rFold_0 (pc := pc) hr (p := p) (by omega)
      by_cases q : lab p = r
      · rw [if_pos q, if_neg e]
        simp [rTake, ih]
      · rw [if_neg q]
        exact ih
theorem rFold_1 {pc : Nat → Nat → Nat} {lab : Nat → Nat} {r : Nat} (hb : ∀ p w, pc p w ≤ 99) : ∀ p, rFold pc lab r p 1 ≤ 99
  | 0 => Nat.zero_le _
  | p + 1 => by
    have ih := rFold_1 (lab := lab) (r := r) hb p
    have := hb p 1
    show (if lab p = r then (if p = r then rBeg pc p else rTake (rFold pc lab r p) pc p) else rFold pc lab r p) 1 ≤ 99
    split
    · split
      · simpa [rBeg] using this
      · simp only [rTake]
        simp
        split <;> assumption
    · exact ih
theorem pR_0 {P : Pg} (hV : PgV P) {k : Nat} (hk : k < pM P) : pR P k 0 ≤ 1 := by
  obtain ⟨τ, h⟩ := pSo P
  have e := srt_eq h hk
  have hl := h.1 k hk
  rw [e] at hl
  obtain ⟨h1, h2, h3⟩ := rsq_ok hl
  show rFold P.2.1 (pL P) (rsq (pL P) P.1 (srt (Qsp P.2.1 (pL P) P.1) (pM P) k)) P.1 0 ≤ 1
  rw [rFold_0 h2 h1]
  exact (hV.2.1 _ h1).1
theorem ctB_split {p : Nat → Bool} {f : Nat → Nat} {n : Nat} : ∀ m, ctB (fun k => p k && decide (f k < n + 1)) m = ctB (fun k => p k && decide (f k < n)) m + ctB (fun k => p k && decide (f k = n)) m
  | 0 => rfl
  | m + 1 => by
    show _ + _ = (_ + _) + (_ + _)
    rw [ctB_split m]
    cases hp : p m
    · simp [hp]
    · rcases Nat.lt_trichotomy (f m) n with z | z | z
      · simp [hp, z, show f m < n + 1 by omega, show ¬ f m = n by omega]
        omega
      · simp [hp, z]
        omega
      · simp [hp, show ¬ f m < n + 1 by omega, show ¬ f m < n by omega, show ¬ f m = n by omega]
theorem ctB_s {p : Nat → Bool} {i : Nat} (h : p i = true) : ctB p (i + 1) = ctB p i + 1 := by
  show _ + (if _ then 1 else 0) = _
  rw [if_pos h]
theorem ctB_2 {p : Nat → Bool} {i j m : Nat} (hij : i ≠ j) (hi : i < m) (hj : j < m) (h1 : p i = true) (h2 : p j = true) : 2 ≤ ctB p m := by
  rcases Nat.lt_or_ge i j with z | z
  · have a := ctB_mono p (show i + 1 ≤ j by omega)
    have b := ctB_mono p (show j + 1 ≤ m by omega)
    rw [ctB_s h1] at a
    rw [ctB_s h2] at b
    omega
  · have a := ctB_mono p (show j + 1 ≤ i by omega)
    have b := ctB_mono p (show i + 1 ≤ m by omega)
    rw [ctB_s h2] at a
    rw [ctB_s h1] at b
    omega
theorem ctB_onto {p : Nat → Bool} {k : Nat} : ∀ {n : Nat}, k < ctB p n → ∃ r, r < n ∧ p r = true ∧ ctB p r = k
  | 0, h => absurd h (Nat.not_lt_zero _)
  | n + 1, h => by
    by_cases z : k < ctB p n
    · obtain ⟨r, a, b⟩ := ctB_onto z
      exact ⟨r, by omega, b⟩
    · by_cases y : p n = true
      · rw [ctB_s y] at h
        exact ⟨n, by omega, y, by omega⟩
      · have : ctB p (n + 1) = ctB p n := by
          show _ + (if _ then 1 else 0) = _
          rw [if_neg y]
          rfl
        omega
theorem cW_sum {inT : Nat → Bool} {R : Nat → Nat → Nat} : ∀ m, cW inT R 0 m + cW inT R 1 m ≤ ctB inT m
  | 0 => Nat.le_refl _
  | m + 1 => by
    have ih := cW_sum (inT := inT) (R := R) m
    show (cW inT R 0 m + _) + (cW inT R 1 m + _) ≤ ctB inT m + _
    cases h : inT m
    · simp [h]
      exact ih
    · by_cases z : R m 0 = 0
      · simp [h, z]
        omega
      · by_cases y : R m 0 = 1
        · simp [h, y]
          omega
        · simp [h, z, y]
          omega
section TB
variable {R : Nat → Nat → Nat} {m rc : Nat}
/-- a table has two lines of each way -/
theorem tbW {t w : Nat} (ht : t < tbn R m rc) (hw : w < 2) : ∃ i j, i < m ∧ j < m ∧ inN R m rc t i = true ∧ inN R m rc t j = true ∧ R i 0 = w ∧ R j 0 = w ∧ R i 1 ≠ R j 1 := by
  obtain ⟨r, hr, h1, h2⟩ := ctB_onto ht
  have h1' := h1
  unfold isN isT at h1'
  simp only [Bool.and_eq_true, decide_eq_true_eq] at h1'
  have hT : twoB m (l2 R m rc) R r w = true := by
    rcases (by omega : w = 0 ∨ w = 1) with rfl | rfl
    · exact h1'.2.1
    · exact h1'.2.2
  obtain ⟨i, j, hi, hj, li, lj, wi, wj, ne⟩ := two_iff.mp hT
  refine ⟨i, j, hi, hj, ?_, ?_, wi, wj, ne⟩
  · unfold inN
    rw [li, h1, h2]
    simp
  · unfold inN
    rw [lj, h1, h2]
    simp
theorem tbC {t w : Nat} (ht : t < tbn R m rc) (hw : w < 2) : 2 ≤ cW (inN R m rc t) R w m := by
  obtain ⟨i, j, hi, hj, a, b, wi, wj, ne⟩ := tbW ht hw
  exact ctB_2 (fun e => ne (by rw [e])) hi hj (by simp [a, wi]) (by simp [b, wj])
theorem tbS : ∀ t, t ≤ tbn R m rc → 4 * t ≤ ctB (fun k => isN R m rc (l2 R m rc k) && decide (ctB (isN R m rc) (l2 R m rc k) < t)) m
  | 0, _ => Nat.zero_le _
  | t + 1, h => by
    have ih := tbS t (by omega)
    rw [ctB_split]
    have a := tbC (R := R) (m := m) (rc := rc) (t := t) (w := 0) (by omega) (by decide)
    have b := tbC (R := R) (m := m) (rc := rc) (t := t) (w := 1) (by omega) (by decide)
    have c := cW_sum (inT := inN R m rc t) (R := R) m
    have d : ctB (inN R m rc t) m = ctB (fun k => isN R m rc (l2 R m rc k) && decide (ctB (isN R m rc) (l2 R m rc k) = t)) m := rfl
    omega
theorem tbM {t : Nat} (ht : t < tbn R m rc) : 4 * t + ctB (inN R m rc t) m ≤ m := by
  have a := tbS (R := R) (m := m) (rc := rc) t (by omega)
  have b := ctB_split (p := fun k => isN R m rc (l2 R m rc k)) (f := fun k => ctB (isN R m rc) (l2 R m rc k)) (n := t) m
  have c := ctB_le (fun k => isN R m rc (l2 R m rc k) && decide (ctB (isN R m rc) (l2 R m rc k) < t + 1)) m
  have d : ctB (inN R m rc t) m = ctB (fun k => isN R m rc (l2 R m rc k) && decide (ctB (isN R m rc) (l2 R m rc k) = t)) m := rfl
  omega
end TB
theorem lnS_ok {inT : Nat → Bool} {R : Nat → Nat → Nat} {m : Nat} (hs : ∀ j k, j < k → k < m → R j 0 = R k 0 → R j 1 ≤ R k 1) (w : Nat) : ∀ k, k ≤ m → (∀ i, i < k → inT i = true → R i 0 = w → ∃ l, l < (lnS inT R k).1 w ∧ (lnS inT R k).2 w l = R i 1) ∧ (0 < (lnS inT R k).1 w → ∃ j, j < k ∧ R j 0 = w ∧ (lnS inT R k).2 w ((lnS inT R k).1 w - 1) = R j 1) ∧ ∀ i j, i < j → j < (lnS inT R k).1 w → (lnS inT R k).2 w i < (lnS inT R k).2 w j
  | 0, _ => ⟨fun i h => absurd h (Nat.not_lt_zero _), fun h => absurd h (Nat.lt_irrefl _), fun i j _ h => absurd h (Nat.not_lt_zero _)⟩
  | k + 1, hk => by
    obtain ⟨i1, i2, i3⟩ := lnS_ok (inT := inT) hs w k (by omega)
    by_cases c : inT k = true ∧ ¬ (0 < (lnS inT R k).1 (R k 0) ∧ (lnS inT R k).2 (R k 0) ((lnS inT R k).1 (R k 0) - 1) = R k 1)
    · have e : lnS inT R (k + 1) = (fun w => if w = R k 0 then (lnS inT R k).1 (R k 0) + 1 else (lnS inT R k).1 w, fun w j => if w = R k 0 ∧ j = (lnS inT R k).1 (R k 0) then R k 1 else (lnS inT R k).2 w j) := if_pos c
      rw [e]
      dsimp only
      by_cases hw : w = R k 0
      · subst hw
        simp only [if_true, true_and]
        refine ⟨fun i hi h1 h2 => ?_, fun _ => ⟨k, by omega, rfl, if_pos (by omega)⟩, fun i j hij hj => ?_⟩
        · by_cases z : i = k
          · exact ⟨(lnS inT R k).1 (R k 0), by omega, by rw [if_pos rfl, z]⟩
          · obtain ⟨l, hl, e⟩ := i1 i (by omega) h1 h2
            exact ⟨l, by omega, by rw [if_neg (by omega)]; exact e⟩
        · rw [if_neg (by omega)]
          by_cases z : j = (lnS inT R k).1 (R k 0)
          · rw [if_pos z]
            have hn : 0 < (lnS inT R k).1 (R k 0) := by omega
            obtain ⟨j', a, b, c'⟩ := i2 hn
            have h1 := hs j' k a (by omega) b
            have h2 : (lnS inT R k).2 (R k 0) ((lnS inT R k).1 (R k 0) - 1) ≠ R k 1 := fun e => c.2 ⟨hn, e⟩
            by_cases y : i = (lnS inT R k).1 (R k 0) - 1
            · rw [y]
              omega
            · have := i3 i ((lnS inT R k).1 (R k 0) - 1) (by omega) (by omega)
              omega
          · rw [if_neg z]
            exact i3 i j hij (by omega)
      · simp only [hw, if_false, false_and]
        refine ⟨fun i hi h1 h2 => i1 i (by
          have : i ≠ k := fun z => hw (by rw [← h2, z])
          omega) h1 h2, fun hn => ?_, i3⟩
        obtain ⟨j, a, b⟩ := i2 hn
        exact ⟨j, by omega, b⟩
    · have e : lnS inT R (k + 1) = lnS inT R k := if_neg c
      rw [e]
      refine ⟨fun i hi h1 h2 => ?_, fun hn => ?_, i3⟩
      · by_cases z : i = k
        · subst z
          have : 0 < (lnS inT R i).1 (R i 0) ∧ (lnS inT R i).2 (R i 0) ((lnS inT R i).1 (R i 0) - 1) = R i 1 := Classical.byContradiction fun y => c ⟨h1, y⟩
          subst h2
          exact ⟨_, by omega, this.2⟩
        · exact i1 i (by omega) h1 h2
      · obtain ⟨j, a, b⟩ := i2 hn
        exact ⟨j, by omega, b⟩
theorem ctB_imp {p q : Nat → Bool} (h : ∀ k, p k = true → q k = true) : ∀ {n : Nat}, ctB p n ≤ ctB q n
  | 0 => Nat.le_refl _
  | n + 1 => by
    have ih := ctB_imp h (n := n)
    show _ + (if _ then 1 else 0) ≤ _ + (if _ then 1 else 0)
    by_cases z : p n = true
    · rw [if_pos z, if_pos (h n z)]
      omega
    · rw [if_neg z]
      omega
theorem cap_all : ∀ t, t < 6 → ∀ a, a < 23 → ∀ b, b < 23 → a + b ≤ 22 - 4 * t → (a + 1) * b + a * (b + 1) ≤ ln (51 + 1 + 20 * t + 6) ∧ a * b ≤ ln (51 + 1 + 20 * t + 7) := by decide +kernel
theorem cap_ln : ∀ t, t < 6 → ∀ w, w < 2 → 22 - 4 * t ≤ ln (51 + 1 + 20 * t + 1 + 1 + 1 + w) := by decide +kernel
theorem cFold_4 {nc : Nat} {lab : Nat → Nat} {ρ : Nat} : ∀ f, cFold nc lab ρ f 4 ≤ ctB (fun k => decide (lab k = ρ)) f
  | 0 => Nat.zero_le _
  | f + 1 => by
    have ih := cFold_4 (nc := nc) (lab := lab) (ρ := ρ) f
    show (if lab f = ρ then (if f = ρ then bvC (f / nc) (f % nc) else wvC (cFold nc lab ρ f) (f / nc) (f % nc)) else cFold nc lab ρ f) 4 ≤ ctB (fun k => decide (lab k = ρ)) f + (if decide (lab f = ρ) = true then 1 else 0)
    by_cases e : lab f = ρ
    · rw [if_pos e, if_pos (show decide (lab f = ρ) = true from decide_eq_true e)]
      split
      · show 1 ≤ _
        omega
      · show cFold nc lab ρ f 4 + 1 ≤ _
        omega
    · rw [if_neg e]
      omega
theorem mul_sp {a b : Nat} (ha : 1 ≤ a) (hb : 1 ≤ b) : (b - 1) + (a - 1) ≤ a * b := by
  obtain ⟨a, rfl⟩ : ∃ x, a = x + 1 := ⟨a - 1, by omega⟩
  obtain ⟨b, rfl⟩ : ∃ x, b = x + 1 := ⟨b - 1, by omega⟩
  rw [Nat.add_mul, Nat.mul_add]
  omega
theorem bef_at {a b : Nat → Nat} (h : befN a b = true) (e : a 0 = b 0) : a 1 ≤ b 1 := by
  have := bef_iff.mp h
  omega
theorem FOK_all : FOKs := by
  intro P hV
  have hm : pM P ≤ 24 := pM_le hV
  have hR0 : ∀ k, k < pM P → pR P k 0 ≤ 1 := fun k hk => pR_0 hV hk
  have hR1 : ∀ k, pR P k 1 ≤ 99 := fun k => rFold_1 hV.2.2.2.2.2.2.1 _
  obtain ⟨-, -, -, hord⟩ := pRo P
  have hs : ∀ j k, j < k → k < pM P → pR P j 0 = pR P k 0 → pR P j 1 ≤ pR P k 1 := fun j k h1 h2 e => bef_at (hord j k h1 h2) e
  have hT : tbn (pR P) (pM P) (rcP P) ≤ 6 := by
    rcases Nat.lt_or_ge 6 (tbn (pR P) (pM P) (rcP P)) with z | z
    · have a := tbM z
      have b := tbC z (show 0 < 2 by decide)
      have c := cW_sum (inT := inN (pR P) (pM P) (rcP P) 6) (R := pR P) (pM P)
      omega
    · exact z
  refine ⟨hR0, hR1, hT, fun t ht => ?_⟩
  have a := tbM ht
  have c := cW_sum (inT := inN (pR P) (pM P) (rcP P) t) (R := pR P) (pM P)
  have c0 := tbC ht (show 0 < 2 by decide)
  have c1 := tbC ht (show 1 < 2 by decide)
  have l0 := lnS_le (inN (pR P) (pM P) (rcP P) t) (pR P) 0 (pM P)
  have l1 := lnS_le (inN (pR P) (pM P) (rcP P) t) (pR P) 1 (pM P)
  have hl : ∀ k, k < pM P → inN (pR P) (pM P) (rcP P) t k = true → ∃ l, l < gN (pR P) (pM P) (rcP P) t (pR P k 0) ∧ gPl (pR P) (pM P) (rcP P) t (pR P k 0) l = pR P k 1 := fun k hk hin => (lnS_ok hs (pR P k 0) (pM P) (Nat.le_refl _)).1 k hk hin rfl
  have h2 : ∀ w, w < 2 → 2 ≤ gN (pR P) (pM P) (rcP P) t w := fun w hw => by
    obtain ⟨i, j, hi, hj, ii, ij, wi, wj, ne⟩ := tbW ht hw
    obtain ⟨x, hx, ex⟩ := hl i hi ii
    obtain ⟨y, hy, ey⟩ := hl j hj ij
    rw [wi] at hx ex
    rw [wj] at hy ey
    rcases Nat.lt_or_ge (gN (pR P) (pM P) (rcP P) t w) 2 with z | z
    · exfalso
      apply ne
      rw [← ex, ← ey, show x = y by omega]
    · exact z
  have n0 := h2 0 (by decide)
  have n1 := h2 1 (by decide)
  have en0 : tnr (inN (pR P) (pM P) (rcP P) t) (pR P) (pM P) = gN (pR P) (pM P) (rcP P) t 0 - 1 := rfl
  have en1 : tnc (inN (pR P) (pM P) (rcP P) t) (pR P) (pM P) = gN (pR P) (pM P) (rcP P) t 1 - 1 := rfl
  have l0 : gN (pR P) (pM P) (rcP P) t 0 ≤ cW (inN (pR P) (pM P) (rcP P) t) (pR P) 0 (pM P) := l0
  have l1 : gN (pR P) (pM P) (rcP P) t 1 ≤ cW (inN (pR P) (pM P) (rcP P) t) (pR P) 1 (pM P) := l1
  have hcap := cap_all t (by omega) (tnr (inN (pR P) (pM P) (rcP P) t) (pR P) (pM P)) (by omega) (tnc (inN (pR P) (pM P) (rcP P) t) (pR P) (pM P)) (by omega) (by omega)
  have hsp : ∀ q, q < gCc (pR P) (pM P) (rcP P) t → _ := fun q hq => by
    obtain ⟨q1, q2, q3⟩ := rsq_ok (lab := tlab (inN (pR P) (pM P) (rcP P) t) (pR P) (pM P) (rcP P)) hq
    exact cFold_B (nc := tnc (inN (pR P) (pM P) (rcP P) t) (pR P) (pM P)) (nr := tnr (inN (pR P) (pM P) (rcP P) t) (pR P) (pM P)) (by omega) q2 _ q1 (Nat.le_refl _)
  refine ⟨⟨fun w hw => ?_, n0, n1, by omega, by omega, hcap.1, hcap.2⟩, fun w i j hw hij hj => (lnS_ok hs w (pM P) (Nat.le_refl _)).2.2 i j hij hj, hl, fun q w hq hw => ?_, ?_, fun q hq => (hsp q hq).2.2.2.2.1⟩
  · have := cap_ln t (by omega) w hw
    refine Nat.le_trans ?_ this
    rcases (by omega : w = 0 ∨ w = 1) with rfl | rfl <;> omega
  · obtain ⟨s0, s1, s4, s5, s6, s41, s31, s21, s02⟩ := hsp q hq
    rcases (by omega : w = 0 ∨ w = 1) with rfl | rfl
    · exact ⟨s02, s21⟩
    · exact ⟨s1, s31⟩
  · refine Nat.le_trans ?_ hcap.2
    have key : ∀ q, q ≤ gCc (pR P) (pM P) (rcP P) t → misM (gCv (pR P) (pM P) (rcP P) t) q ≤ ctB (fun f => true && decide (cnt (tlab (inN (pR P) (pM P) (rcP P) t) (pR P) (pM P) (rcP P)) (tlab (inN (pR P) (pM P) (rcP P) t) (pR P) (pM P) (rcP P) f) < q)) (tnr (inN (pR P) (pM P) (rcP P) t) (pR P) (pM P) * tnc (inN (pR P) (pM P) (rcP P) t) (pR P) (pM P)) := by
      intro q
      induction q with
      | zero => intro _; exact Nat.zero_le _
      | succ q ih =>
        intro hq
        have ih := ih (by omega)
        have hq' : q < gCc (pR P) (pM P) (rcP P) t := by omega
        obtain ⟨q1, q2, q3⟩ := rsq_ok (lab := tlab (inN (pR P) (pM P) (rcP P) t) (pR P) (pM P) (rcP P)) hq'
        obtain ⟨s0, s1, s4, s5, s6, s41, s31, s21, s02⟩ := hsp q hq'
        rw [ctB_split]
        show misM _ q + _ ≤ _
        refine Nat.add_le_add ih ?_
        split
        · rename_i h5
          have h4 := cFold_4 (nc := tnc (inN (pR P) (pM P) (rcP P) t) (pR P) (pM P)) (lab := tlab (inN (pR P) (pM P) (rcP P) t) (pR P) (pM P) (rcP P)) (ρ := rsq (tlab (inN (pR P) (pM P) (rcP P) t) (pR P) (pM P) (rcP P)) (tnr (inN (pR P) (pM P) (rcP P) t) (pR P) (pM P) * tnc (inN (pR P) (pM P) (rcP P) t) (pR P) (pM P)) q) (tnr (inN (pR P) (pM P) (rcP P) t) (pR P) (pM P) * tnc (inN (pR P) (pM P) (rcP P) t) (pR P) (pM P))
          have hbr : ¬ tc0 (inN (pR P) (pM P) (rcP P) t) (pR P) (pM P) (rcP P) q 4 < tc0 (inN (pR P) (pM P) (rcP P) t) (pR P) (pM P) (rcP P) q 2 * tc0 (inN (pR P) (pM P) (rcP P) t) (pR P) (pM P) (rcP P) q 3 := fun z => by
            unfold gCv tcv kdO kbC at h5
            simp only [if_true] at h5
            rw [if_pos z] at h5
            split at h5 <;> omega
          have hms := mul_sp (a := tc0 (inN (pR P) (pM P) (rcP P) t) (pR P) (pM P) (rcP P) q 2) (b := tc0 (inN (pR P) (pM P) (rcP P) t) (pR P) (pM P) (rcP P) q 3) s21 s31
          have hle : ctB (fun k => decide (tlab (inN (pR P) (pM P) (rcP P) t) (pR P) (pM P) (rcP P) k = rsq (tlab (inN (pR P) (pM P) (rcP P) t) (pR P) (pM P) (rcP P)) (tnr (inN (pR P) (pM P) (rcP P) t) (pR P) (pM P) * tnc (inN (pR P) (pM P) (rcP P) t) (pR P) (pM P)) q)) (tnr (inN (pR P) (pM P) (rcP P) t) (pR P) (pM P) * tnc (inN (pR P) (pM P) (rcP P) t) (pR P) (pM P)) ≤ ctB (fun f => true && decide (cnt (tlab (inN (pR P) (pM P) (rcP P) t) (pR P) (pM P) (rcP P)) (tlab (inN (pR P) (pM P) (rcP P) t) (pR P) (pM P) (rcP P) f) = q)) (tnr (inN (pR P) (pM P) (rcP P) t) (pR P) (pM P) * tnc (inN (pR P) (pM P) (rcP P) t) (pR P) (pM P)) := ctB_imp (fun k h => by
            simp only [decide_eq_true_eq] at h
            simp only [Bool.true_and, decide_eq_true_eq]
            rw [h]
            exact q3)
          show (tc0 (inN (pR P) (pM P) (rcP P) t) (pR P) (pM P) (rcP P) q 3 - 1) + (tc0 (inN (pR P) (pM P) (rcP P) t) (pR P) (pM P) (rcP P) q 2 - 1) ≤ _
          have h4' : tc0 (inN (pR P) (pM P) (rcP P) t) (pR P) (pM P) (rcP P) q 4 ≤ _ := h4
          omega
        · exact Nat.zero_le _
    exact Nat.le_trans (key _ (Nat.le_refl _)) (ctB_le _ _)
