theorem kf_0_groups {o : Nat} (h : kd o = 0) : kd (o + 1) = 1 := kd_all (P := fun o => kd (o + 1) = 1) 0 (by decide) (by decide +kernel) h
theorem kf_0_rules {o : Nat} (h : kd o = 0) : kd (o + 3) = 7 := kd_all (P := fun o => kd (o + 3) = 7) 0 (by decide) (by decide +kernel) h
theorem kf_0_tables {o : Nat} (h : kd o = 0) : kd (o + 30) = 15 := kd_all (P := fun o => kd (o + 30) = 15) 0 (by decide) (by decide +kernel) h
theorem kf_0_placing {o : Nat} (h : kd o = 0) : kd (o + 151) = 4 := kd_all (P := fun o => kd (o + 151) = 4) 0 (by decide) (by decide +kernel) h
theorem kf_1_leads {o : Nat} (h : kd o = 1) : kd (o + 1) = 11 := kd_all (P := fun o => kd (o + 1) = 11) 1 (by decide) (by decide +kernel) h
theorem kf_2_places {o : Nat} (h : kd o = 2) : kd (o + 1) = 16 := kd_all (P := fun o => kd (o + 1) = 16) 2 (by decide) (by decide +kernel) h
theorem kf_2_counts {o : Nat} (h : kd o = 2) : kd (o + 4) = 11 := kd_all (P := fun o => kd (o + 4) = 11) 2 (by decide) (by decide +kernel) h
theorem kf_3_pieces {o : Nat} (h : kd o = 3) : kd (o + 1) = 5 := kd_all (P := fun o => kd (o + 1) = 5) 3 (by decide) (by decide +kernel) h
theorem kf_3_words {o : Nat} (h : kd o = 3) : kd (o + 3) = 5 := kd_all (P := fun o => kd (o + 3) = 5) 3 (by decide) (by decide +kernel) h
theorem kf_3_settings {o : Nat} (h : kd o = 3) : kd (o + 5) = 11 := kd_all (P := fun o => kd (o + 5) = 11) 3 (by decide) (by decide +kernel) h
theorem kf_4_tables {o : Nat} (h : kd o = 4) : kd (o + 1) = 11 := kd_all (P := fun o => kd (o + 1) = 11) 4 (by decide) (by decide +kernel) h
theorem kf_4_cells {o : Nat} (h : kd o = 4) : kd (o + 2) = 11 := kd_all (P := fun o => kd (o + 2) = 11) 4 (by decide) (by decide +kernel) h
theorem kf_4_order {o : Nat} (h : kd o = 4) : kd (o + 3) = 11 := kd_all (P := fun o => kd (o + 3) = 11) 4 (by decide) (by decide +kernel) h
theorem kf_5_numbers {o : Nat} (h : kd o = 5) : kd (o + 1) = 11 := kd_all (P := fun o => kd (o + 1) = 11) 5 (by decide) (by decide +kernel) h
theorem kf_7_all {o : Nat} (h : kd o = 7) : kd (o + 1) = 14 := kd_all (P := fun o => kd (o + 1) = 14) 7 (by decide) (by decide +kernel) h
theorem kf_7_ofPiece {o : Nat} (h : kd o = 7) : kd (o + 26) = 11 := kd_all (P := fun o => kd (o + 26) = 11) 7 (by decide) (by decide +kernel) h
theorem kf_8_lines {o : Nat} (h : kd o = 8) : kd (o + 1) = 2 := kd_all (P := fun o => kd (o + 1) = 2) 8 (by decide) (by decide +kernel) h
theorem kf_8_sides {o : Nat} (h : kd o = 8) : kd (o + 6) = 12 := kd_all (P := fun o => kd (o + 6) = 12) 8 (by decide) (by decide +kernel) h
theorem kf_8_fieldCells {o : Nat} (h : kd o = 8) : kd (o + 7) = 11 := kd_all (P := fun o => kd (o + 7) = 11) 8 (by decide) (by decide +kernel) h
theorem kf_8_cells {o : Nat} (h : kd o = 8) : kd (o + 8) = 16 := kd_all (P := fun o => kd (o + 8) = 16) 8 (by decide) (by decide +kernel) h
theorem kf_8_missedLines {o : Nat} (h : kd o = 8) : kd (o + 16) = 16 := kd_all (P := fun o => kd (o + 16) = 16) 8 (by decide) (by decide +kernel) h
theorem kf_9_page {o : Nat} (h : kd o = 9) : kd (o + 1) = 3 := kd_all (P := fun o => kd (o + 1) = 3) 9 (by decide) (by decide +kernel) h
theorem kf_9_images {o : Nat} (h : kd o = 9) : kd (o + 7) = 13 := kd_all (P := fun o => kd (o + 7) = 13) 9 (by decide) (by decide +kernel) h
theorem kf_9_kept {o : Nat} (h : kd o = 9) : kd (o + 20) = 12 := kd_all (P := fun o => kd (o + 20) = 12) 9 (by decide) (by decide +kernel) h
theorem kf_9_finding {o : Nat} (h : kd o = 9) : kd (o + 21) = 0 := kd_all (P := fun o => kd (o + 21) = 0) 9 (by decide) (by decide +kernel) h
theorem kf_10_drawn {o : Nat} (h : kd o = 10) : kd (o + 1) = 11 := kd_all (P := fun o => kd (o + 1) = 11) 10 (by decide) (by decide +kernel) h
theorem kf_10_boxes {o : Nat} (h : kd o = 10) : kd (o + 2) = 11 := kd_all (P := fun o => kd (o + 2) = 11) 10 (by decide) (by decide +kernel) h
theorem kf_10_how {o : Nat} (h : kd o = 10) : kd (o + 3) = 11 := kd_all (P := fun o => kd (o + 3) = 11) 10 (by decide) (by decide +kernel) h
theorem kf_10_label {o : Nat} (h : kd o = 10) : kd (o + 4) = 11 := kd_all (P := fun o => kd (o + 4) = 11) 10 (by decide) (by decide +kernel) h
theorem kf_10_rules {o : Nat} (h : kd o = 10) : kd (o + 5) = 11 := kd_all (P := fun o => kd (o + 5) = 11) 10 (by decide) (by decide +kernel) h
theorem kf_10_ruleOf {o : Nat} (h : kd o = 10) : kd (o + 6) = 11 := kd_all (P := fun o => kd (o + 6) = 11) 10 (by decide) (by decide +kernel) h
theorem kf_10_lines {o : Nat} (h : kd o = 10) : kd (o + 7) = 11 := kd_all (P := fun o => kd (o + 7) = 11) 10 (by decide) (by decide +kernel) h
theorem kf_10_lineMany {o : Nat} (h : kd o = 10) : kd (o + 8) = 11 := kd_all (P := fun o => kd (o + 8) = 11) 10 (by decide) (by decide +kernel) h
theorem kf_10_fieldFrom {o : Nat} (h : kd o = 10) : kd (o + 9) = 11 := kd_all (P := fun o => kd (o + 9) = 11) 10 (by decide) (by decide +kernel) h
theorem kf_10_cellFrom {o : Nat} (h : kd o = 10) : kd (o + 10) = 11 := kd_all (P := fun o => kd (o + 10) = 11) 10 (by decide) (by decide +kernel) h
theorem kf_10_cellOf {o : Nat} (h : kd o = 10) : kd (o + 11) = 11 := kd_all (P := fun o => kd (o + 11) = 11) 10 (by decide) (by decide +kernel) h
theorem kf_10_cells {o : Nat} (h : kd o = 10) : kd (o + 12) = 11 := kd_all (P := fun o => kd (o + 12) = 11) 10 (by decide) (by decide +kernel) h
theorem kf_10_wordTable {o : Nat} (h : kd o = 10) : kd (o + 13) = 11 := kd_all (P := fun o => kd (o + 13) = 11) 10 (by decide) (by decide +kernel) h
theorem kf_10_wordCell {o : Nat} (h : kd o = 10) : kd (o + 14) = 11 := kd_all (P := fun o => kd (o + 14) = 11) 10 (by decide) (by decide +kernel) h
theorem kf_10_coming {o : Nat} (h : kd o = 10) : kd (o + 15) = 11 := kd_all (P := fun o => kd (o + 15) = 11) 10 (by decide) (by decide +kernel) h
theorem kf_10_kept {o : Nat} (h : kd o = 10) : kd (o + 16) = 11 := kd_all (P := fun o => kd (o + 16) = 11) 10 (by decide) (by decide +kernel) h
theorem kf_10_isKept {o : Nat} (h : kd o = 10) : kd (o + 17) = 12 := kd_all (P := fun o => kd (o + 17) = 12) 10 (by decide) (by decide +kernel) h
theorem kd_one {o k : Nat} (n : Nat) (hk : k < 99) (hu : ∀ o, o < 194 → kd o = k → o = n) (h : kd o = k) : o = n := hu o (kd_lt h hk) h
theorem ln_lt (o : Nat) : ln o < 2 ^ 31 := by
  rcases Nat.lt_or_ge o 194 with q | q
  · have : ∀ o, o < 194 → ln o < 2 ^ 31 := by decide +kernel
    exact this o q
  · unfold ln
    rw [List.getD_eq_getElem?_getD, List.getElem?_eq_none (by rw [show lnL.length = 194 by decide +kernel]; exact q)]
    decide
theorem tnN {n : Nat} (h : n < 2 ^ 31) : (nI n).toNatClampNeg = n := nI_clamp h
section AWv
variable {g : GG} {cc : ByteArray} {nL : Nat} {ret : Option FieldType} {R : Room} {own : String} {Qc : Array Value → State → Outcome → State → Prop} {pc pc' tgt : Nat} {lv : List (Option Value)} {st : List Value} {σ : SG}
theorem aw_eq {x y : Int32} (h : x = y) (k : AW g cc nL ret R own Qc pc lv (.int y :: st) σ) : AW g cc nL ret R own Qc pc lv (.int x :: st) σ := h ▸ k
theorem aw_eqr {a b : Nat} (h : a = b) (k : AW g cc nL ret R own Qc pc lv (.ref (ad g b) :: st) σ) : AW g cc nL ret R own Qc pc lv (.ref (ad g a) :: st) σ := h ▸ k
theorem aw_lv {lv' : List (Option Value)} (h : lv = lv') (k : AW g cc nL ret R own Qc pc lv' st σ) : AW g cc nL ret R own Qc pc lv st σ := h ▸ k
theorem aw_st {st' : List Value} (h : st = st') (k : AW g cc nL ret R own Qc pc lv st' σ) : AW g cc nL ret R own Qc pc lv st σ := h ▸ k
theorem aw_sg {σ' : SG} (h : σ = σ') (k : AW g cc nL ret R own Qc pc lv st σ') : AW g cc nL ret R own Qc pc lv st σ := h ▸ k
theorem aw_ic {n : Int} (v : Int32) (hd : dn cc pc (.iconst n) 1 pc') (hv : Int32.ofInt n = v) (k : AW g cc nL ret R own Qc pc' lv (.int v :: st) σ) : AW g cc nL ret R own Qc pc lv st σ := aw_iconst hd (hv ▸ k)
theorem aw_bi {n : Int} (v : Int32) (hd : dn cc pc (.bipush n) 2 pc') (hv : (Int8.ofInt n).toInt32 = v) (k : AW g cc nL ret R own Qc pc' lv (.int v :: st) σ) : AW g cc nL ret R own Qc pc lv st σ := aw_bipush hd (hv ▸ k)
theorem aw_si {n : Int} (v : Int32) (hd : dn cc pc (.sipush n) 3 pc') (hv : (Int16.ofInt n).toInt32 = v) (k : AW g cc nL ret R own Qc pc' lv (.int v :: st) σ) : AW g cc nL ret R own Qc pc lv st σ := aw_sipush hd (hv ▸ k)
theorem aw_inc {i : Nat} {n : Int} {x : Int32} (v : Int32) (hd : dn cc pc (.iinc i n) 3 pc') (hx : lv[i]? = some (some (.int x))) (hn : i < nL) (hv : x + Int32.ofInt n = v) (k : AW g cc nL ret R own Qc pc' (lv.set i (some (.int v))) st σ) : AW g cc nL ret R own Qc pc lv st σ := aw_iinc hd hx hn (hv ▸ k)
theorem aw_ld {I A : Nat → Nat → Int32} {π : Nat → Nat} {o : Nat} {i : Int32} (j : Nat) (hd : dn cc pc .iaload 1 pc') (hk : kd o = 11) (e : i = nI j) (h : j < ln o) (k : AW g cc nL ret R own Qc pc' lv (.int (A o j) :: st) (I, A, π)) : AW g cc nL ret R own Qc pc lv (.int i :: .ref (ad g o) :: st) (I, A, π) := by
  subst e
  refine aw_iald hd hk (vp_in_nI h (ln_lt o)) ?_
  rw [tnN (Nat.lt_trans h (ln_lt o))]
  exact k
theorem aw_zld {I A : Nat → Nat → Int32} {π : Nat → Nat} {o : Nat} {i : Int32} (j : Nat) (hd : dn cc pc .baload 1 pc') (hk : kd o = 12) (e : i = nI j) (h : j < ln o) (k : AW g cc nL ret R own Qc pc' lv (.int (A o j) :: st) (I, A, π)) : AW g cc nL ret R own Qc pc lv (.int i :: .ref (ad g o) :: st) (I, A, π) := by
  subst e
  refine aw_zald hd hk (vp_in_nI h (ln_lt o)) ?_
  rw [tnN (Nat.lt_trans h (ln_lt o))]
  exact k
theorem aw_sto {I A : Nat → Nat → Int32} {π : Nat → Nat} {o : Nat} {i x : Int32} (j : Nat) (hd : dn cc pc .iastore 1 pc') (hk : kd o = 11) (e : i = nI j) (h : j < ln o) (k : AW g cc nL ret R own Qc pc' lv st (I, uA A o (upd (A o) j x), π)) : AW g cc nL ret R own Qc pc lv (.int x :: .int i :: .ref (ad g o) :: st) (I, A, π) := by
  subst e
  refine aw_iast hd hk (vp_in_nI h (ln_lt o)) ?_
  rw [tnN (Nat.lt_trans h (ln_lt o))]
  exact k
theorem aw_zsto {I A : Nat → Nat → Int32} {π : Nat → Nat} {o : Nat} {i x : Int32} (j : Nat) (hd : dn cc pc .bastore 1 pc') (hk : kd o = 12) (e : i = nI j) (h : j < ln o) (hx : vp_nar .boolean x = x) (k : AW g cc nL ret R own Qc pc' lv st (I, uA A o (upd (A o) j x), π)) : AW g cc nL ret R own Qc pc lv (.int x :: .int i :: .ref (ad g o) :: st) (I, A, π) := by
  subst e
  refine aw_zast hd hk (vp_in_nI h (ln_lt o)) hx ?_
  rw [tnN (Nat.lt_trans h (ln_lt o))]
  exact k
theorem aw_ald16 {o : Nat} {i : Int32} (j : Nat) (hd : dn cc pc .aaload 1 pc') (hk : kd o = 16) (e : i = nI j) (h : j < ln o) (k : AW g cc nL ret R own Qc pc' lv (.ref (ad g (o + 1 + j)) :: st) σ) : AW g cc nL ret R own Qc pc lv (.int i :: .ref (ad g o) :: st) σ := by
  subst e
  refine aw_aald16 hd hk (vp_in_nI h (ln_lt o)) ?_
  rw [tnN (Nat.lt_trans h (ln_lt o))]
  exact k
theorem aw_ald13 {o : Nat} {i : Int32} (j : Nat) (hd : dn cc pc .aaload 1 pc') (hk : kd o = 13) (e : i = nI j) (h : j < ln o) (k : AW g cc nL ret R own Qc pc' lv (.ref (ad g (o + 1 + 6 * j)) :: st) σ) : AW g cc nL ret R own Qc pc lv (.int i :: .ref (ad g o) :: st) σ := by
  subst e
  refine aw_aald13 hd hk (vp_in_nI h (ln_lt o)) ?_
  rw [tnN (Nat.lt_trans h (ln_lt o))]
  exact k
theorem aw_ald14 {I A : Nat → Nat → Int32} {π : Nat → Nat} {o : Nat} {i : Int32} (j : Nat) (hd : dn cc pc .aaload 1 pc') (hk : kd o = 14) (e : i = nI j) (h : j < ln o) (k : AW g cc nL ret R own Qc pc' lv (.ref (ad g (o + 1 + π j)) :: st) (I, A, π)) : AW g cc nL ret R own Qc pc lv (.int i :: .ref (ad g o) :: st) (I, A, π) := by
  subst e
  refine aw_aald14 hd hk (vp_in_nI h (ln_lt o)) ?_
  rw [tnN (Nat.lt_trans h (ln_lt o))]
  exact k
theorem aw_ald15 {o : Nat} {i : Int32} (j : Nat) (hd : dn cc pc .aaload 1 pc') (hk : kd o = 15) (e : i = nI j) (h : j < ln o) (k : AW g cc nL ret R own Qc pc' lv (.ref (ad g (o + 1 + 20 * j)) :: st) σ) : AW g cc nL ret R own Qc pc lv (.int i :: .ref (ad g o) :: st) σ := by
  subst e
  refine aw_aald15 hd hk (vp_in_nI h (ln_lt o)) ?_
  rw [tnN (Nat.lt_trans h (ln_lt o))]
  exact k
theorem aw_ast14 {I A : Nat → Nat → Int32} {π : Nat → Nat} {i : Int32} {r : Nat} (j : Nat) (hd : dn cc pc .aastore 1 pc') (e : i = nI j) (h : j < 24) (hr : r < 24) (k : AW g cc nL ret R own Qc pc' lv st (I, A, uP π j r)) : AW g cc nL ret R own Qc pc lv (.ref (ad g (25 + 1 + r)) :: .int i :: .ref (ad g 25) :: st) (I, A, π) := by
  subst e
  have hj : j < 2 ^ 31 := by omega
  refine aw_aast14 hd (vp_in_nI h (by decide)) hr ?_
  rw [tnN hj]
  exact k
theorem aw_icmp_eqN {x y : Int32} {off : Int} {a b : Nat} (hd : db cc pc (.if_icmp .eq off) 3 pc' off tgt) (ex : x = nI a) (ey : y = nI b) (ha : a < 2 ^ 31) (hb : b < 2 ^ 31) (kt : a = b → AW g cc nL ret R own Qc tgt lv st σ) (kf : a ≠ b → AW g cc nL ret R own Qc pc' lv st σ) : AW g cc nL ret R own Qc pc lv (.int y :: .int x :: st) σ := by
  subst ex
  subst ey
  exact aw_icmp_eq hd (fun q => kt ((nI_eq ha hb).mp q)) (fun q => kf (fun z => q ((nI_eq ha hb).mpr z)))
theorem aw_icmp_neN {x y : Int32} {off : Int} {a b : Nat} (hd : db cc pc (.if_icmp .ne off) 3 pc' off tgt) (ex : x = nI a) (ey : y = nI b) (ha : a < 2 ^ 31) (hb : b < 2 ^ 31) (kt : a ≠ b → AW g cc nL ret R own Qc tgt lv st σ) (kf : a = b → AW g cc nL ret R own Qc pc' lv st σ) : AW g cc nL ret R own Qc pc lv (.int y :: .int x :: st) σ := by
  subst ex
  subst ey
  exact aw_icmp_ne hd (fun q => kt (fun z => q ((nI_eq ha hb).mpr z))) (fun q => kf ((nI_eq ha hb).mp q))
theorem aw_icmp_ltN {x y : Int32} {off : Int} {a b : Nat} (hd : db cc pc (.if_icmp .lt off) 3 pc' off tgt) (ex : x = nI a) (ey : y = nI b) (ha : a < 2 ^ 31) (hb : b < 2 ^ 31) (kt : a < b → AW g cc nL ret R own Qc tgt lv st σ) (kf : b ≤ a → AW g cc nL ret R own Qc pc' lv st σ) : AW g cc nL ret R own Qc pc lv (.int y :: .int x :: st) σ := by
  subst ex
  subst ey
  exact aw_icmp_lt hd (fun q => kt ((nI_ltI ha hb).mp q)) (fun q => kf (Nat.not_lt.mp fun z => q ((nI_ltI ha hb).mpr z)))
theorem aw_icmp_geN {x y : Int32} {off : Int} {a b : Nat} (hd : db cc pc (.if_icmp .ge off) 3 pc' off tgt) (ex : x = nI a) (ey : y = nI b) (ha : a < 2 ^ 31) (hb : b < 2 ^ 31) (kt : b ≤ a → AW g cc nL ret R own Qc tgt lv st σ) (kf : a < b → AW g cc nL ret R own Qc pc' lv st σ) : AW g cc nL ret R own Qc pc lv (.int y :: .int x :: st) σ := by
  subst ex
  subst ey
  exact aw_icmp_ge hd (fun q => kt ((nI_leI hb ha).mp q)) (fun q => kf (Nat.not_le.mp fun z => q ((nI_leI hb ha).mpr z)))
theorem aw_icmp_gtN {x y : Int32} {off : Int} {a b : Nat} (hd : db cc pc (.if_icmp .gt off) 3 pc' off tgt) (ex : x = nI a) (ey : y = nI b) (ha : a < 2 ^ 31) (hb : b < 2 ^ 31) (kt : b < a → AW g cc nL ret R own Qc tgt lv st σ) (kf : a ≤ b → AW g cc nL ret R own Qc pc' lv st σ) : AW g cc nL ret R own Qc pc lv (.int y :: .int x :: st) σ := by
  subst ex
  subst ey
  exact aw_icmp_gt hd (fun q => kt ((nI_ltI hb ha).mp q)) (fun q => kf (Nat.not_lt.mp fun z => q ((nI_ltI hb ha).mpr z)))
theorem aw_icmp_leN {x y : Int32} {off : Int} {a b : Nat} (hd : db cc pc (.if_icmp .le off) 3 pc' off tgt) (ex : x = nI a) (ey : y = nI b) (ha : a < 2 ^ 31) (hb : b < 2 ^ 31) (kt : a ≤ b → AW g cc nL ret R own Qc tgt lv st σ) (kf : b < a → AW g cc nL ret R own Qc pc' lv st σ) : AW g cc nL ret R own Qc pc lv (.int y :: .int x :: st) σ := by
  subst ex
  subst ey
  exact aw_icmp_le hd (fun q => kt ((nI_leI ha hb).mp q)) (fun q => kf (Nat.not_le.mp fun z => q ((nI_leI ha hb).mpr z)))
theorem aw_if_eqN {x : Int32} {off : Int} {a : Nat} (hd : db cc pc (.ifCond .eq off) 3 pc' off tgt) (ex : x = nI a) (ha : a < 2 ^ 31) (kt : a = 0 → AW g cc nL ret R own Qc tgt lv st σ) (kf : a ≠ 0 → AW g cc nL ret R own Qc pc' lv st σ) : AW g cc nL ret R own Qc pc lv (.int x :: st) σ := by
  subst ex
  have hz : 0 < 2 ^ 31 := by decide
  exact aw_if_eq hd (fun q => kt ((nI_eq ha hz).mp q)) (fun q => kf (fun z => q ((nI_eq ha hz).mpr z)))
theorem aw_if_neN {x : Int32} {off : Int} {a : Nat} (hd : db cc pc (.ifCond .ne off) 3 pc' off tgt) (ex : x = nI a) (ha : a < 2 ^ 31) (kt : a ≠ 0 → AW g cc nL ret R own Qc tgt lv st σ) (kf : a = 0 → AW g cc nL ret R own Qc pc' lv st σ) : AW g cc nL ret R own Qc pc lv (.int x :: st) σ := by
  subst ex
  have hz : 0 < 2 ^ 31 := by decide
  exact aw_if_ne hd (fun q => kt (fun z => q ((nI_eq ha hz).mpr z))) (fun q => kf ((nI_eq ha hz).mp q))
theorem aw_if_leN {x : Int32} {off : Int} {a : Nat} (hd : db cc pc (.ifCond .le off) 3 pc' off tgt) (ex : x = nI a) (ha : a < 2 ^ 31) (kt : a = 0 → AW g cc nL ret R own Qc tgt lv st σ) (kf : 0 < a → AW g cc nL ret R own Qc pc' lv st σ) : AW g cc nL ret R own Qc pc lv (.int x :: st) σ := by
  subst ex
  have hz : 0 < 2 ^ 31 := by decide
  exact aw_if_le hd (fun q => kt (Nat.le_zero.mp ((nI_leI ha hz).mp q))) (fun q => kf (Nat.not_le.mp fun z => q ((nI_leI ha hz).mpr z)))
theorem aw_if_gtN {x : Int32} {off : Int} {a : Nat} (hd : db cc pc (.ifCond .gt off) 3 pc' off tgt) (ex : x = nI a) (ha : a < 2 ^ 31) (kt : 0 < a → AW g cc nL ret R own Qc tgt lv st σ) (kf : a = 0 → AW g cc nL ret R own Qc pc' lv st σ) : AW g cc nL ret R own Qc pc lv (.int x :: st) σ := by
  subst ex
  have hz : 0 < 2 ^ 31 := by decide
  exact aw_if_gt hd (fun q => kt ((nI_ltI hz ha).mp q)) (fun q => kf (Nat.le_zero.mp (Nat.not_lt.mp fun z => q ((nI_ltI hz ha).mpr z))))
theorem aw_if_eqB {c : Prop} [Decidable c] {x : Int32} {off : Int} (hd : db cc pc (.ifCond .eq off) 3 pc' off tgt) (ex : x = if c then 1 else 0) (kt : ¬ c → AW g cc nL ret R own Qc tgt lv st σ) (kf : c → AW g cc nL ret R own Qc pc' lv st σ) : AW g cc nL ret R own Qc pc lv (.int x :: st) σ := by
  subst ex
  by_cases h : c
  · rw [if_pos h]
    exact aw_if_eq hd (fun q => absurd q (by decide)) (fun q => kf h)
  · rw [if_neg h]
    exact aw_if_eq hd (fun q => kt h) (fun q => absurd rfl q)
theorem aw_if_neB {c : Prop} [Decidable c] {x : Int32} {off : Int} (hd : db cc pc (.ifCond .ne off) 3 pc' off tgt) (ex : x = if c then 1 else 0) (kt : c → AW g cc nL ret R own Qc tgt lv st σ) (kf : ¬ c → AW g cc nL ret R own Qc pc' lv st σ) : AW g cc nL ret R own Qc pc lv (.int x :: st) σ := by
  subst ex
  by_cases h : c
  · rw [if_pos h]
    exact aw_if_ne hd (fun q => kt h) (fun q => absurd q (by decide))
  · rw [if_neg h]
    exact aw_if_ne hd (fun q => absurd rfl q) (fun q => kf h)
variable {y : MethodName} {cy : ByteArray} {ny n idx o : Nat} {ry : Option FieldType} {rm : Room} {rest : List Value} {ci : Nat} {q : vw_C}
theorem cvi0 {post : Int32 → SG → Prop} (hd : dn cc pc (.invokevirtual idx) 3 pc') (hl : Cond.methodLink own idx y ∈ wtb) (ok : okV y cy ny ry 0) (hc : vwCl[ci]? = some q) (hq : q.1 = y.cls) (hci : ci < 11) (hk : kd o = ci) (hW : (rest.map fun v => v.category).sum ≤ 8) (hR : rm.frames + 1 ≤ R.frames ∧ 8 + (ny + 11) + rm.locals ≤ R.locals) (hrc : rm.cells = 0) (hrs : rm.slots = 0) (hM : Cti g y cy ny ry rm [.ref (ad g o)] σ post) (kk : ∀ r σ', post r σ' → AW g cc nL ret R own Qc pc' lv (.int r :: rest) σ') : AW g cc nL ret R own Qc pc lv (.ref (ad g o) :: rest) σ := aw_calli (As := []) hd hl ok hc hq hci hk rfl rfl hW hR hrc hrs hM kk
theorem cvi1 {v1 : Value} {post : Int32 → SG → Prop} (hd : dn cc pc (.invokevirtual idx) 3 pc') (hl : Cond.methodLink own idx y ∈ wtb) (ok : okV y cy ny ry 1) (hc : vwCl[ci]? = some q) (hq : q.1 = y.cls) (hci : ci < 11) (hk : kd o = ci) (hW : (rest.map fun v => v.category).sum ≤ 8) (hR : rm.frames + 1 ≤ R.frames ∧ 8 + (ny + 11) + rm.locals ≤ R.locals) (hrc : rm.cells = 0) (hrs : rm.slots = 0) (hM : Cti g y cy ny ry rm [.ref (ad g o), v1] σ post) (kk : ∀ r σ', post r σ' → AW g cc nL ret R own Qc pc' lv (.int r :: rest) σ') : AW g cc nL ret R own Qc pc lv (v1 :: .ref (ad g o) :: rest) σ := aw_calli (As := [v1]) hd hl ok hc hq hci hk rfl rfl hW hR hrc hrs hM kk
theorem csi1 {v1 : Value} {post : Int32 → SG → Prop} (hd : dn cc pc (.invokestatic idx) 3 pc') (hl : Cond.methodLink own idx y ∈ wtb) (ok : okS y cy ny ry 1) (hW : (rest.map fun v => v.category).sum ≤ 8) (hR : rm.frames + 1 ≤ R.frames ∧ 8 + (ny + 11) + rm.locals ≤ R.locals) (hrc : rm.cells = 0) (hrs : rm.slots = 0) (hM : Cti g y cy ny ry rm [v1] σ post) (kk : ∀ r σ', post r σ' → AW g cc nL ret R own Qc pc' lv (.int r :: rest) σ') : AW g cc nL ret R own Qc pc lv (v1 :: rest) σ := aw_callsi (As := [v1]) hd hl ok rfl rfl hW hR hrc hrs hM kk
theorem cvi2 {v1 v2 : Value} {post : Int32 → SG → Prop} (hd : dn cc pc (.invokevirtual idx) 3 pc') (hl : Cond.methodLink own idx y ∈ wtb) (ok : okV y cy ny ry 2) (hc : vwCl[ci]? = some q) (hq : q.1 = y.cls) (hci : ci < 11) (hk : kd o = ci) (hW : (rest.map fun v => v.category).sum ≤ 8) (hR : rm.frames + 1 ≤ R.frames ∧ 8 + (ny + 11) + rm.locals ≤ R.locals) (hrc : rm.cells = 0) (hrs : rm.slots = 0) (hM : Cti g y cy ny ry rm [.ref (ad g o), v1, v2] σ post) (kk : ∀ r σ', post r σ' → AW g cc nL ret R own Qc pc' lv (.int r :: rest) σ') : AW g cc nL ret R own Qc pc lv (v2 :: v1 :: .ref (ad g o) :: rest) σ := aw_calli (As := [v1, v2]) hd hl ok hc hq hci hk rfl rfl hW hR hrc hrs hM kk
theorem csi2 {v1 v2 : Value} {post : Int32 → SG → Prop} (hd : dn cc pc (.invokestatic idx) 3 pc') (hl : Cond.methodLink own idx y ∈ wtb) (ok : okS y cy ny ry 2) (hW : (rest.map fun v => v.category).sum ≤ 8) (hR : rm.frames + 1 ≤ R.frames ∧ 8 + (ny + 11) + rm.locals ≤ R.locals) (hrc : rm.cells = 0) (hrs : rm.slots = 0) (hM : Cti g y cy ny ry rm [v1, v2] σ post) (kk : ∀ r σ', post r σ' → AW g cc nL ret R own Qc pc' lv (.int r :: rest) σ') : AW g cc nL ret R own Qc pc lv (v2 :: v1 :: rest) σ := aw_callsi (As := [v1, v2]) hd hl ok rfl rfl hW hR hrc hrs hM kk
theorem cvi3 {v1 v2 v3 : Value} {post : Int32 → SG → Prop} (hd : dn cc pc (.invokevirtual idx) 3 pc') (hl : Cond.methodLink own idx y ∈ wtb) (ok : okV y cy ny ry 3) (hc : vwCl[ci]? = some q) (hq : q.1 = y.cls) (hci : ci < 11) (hk : kd o = ci) (hW : (rest.map fun v => v.category).sum ≤ 8) (hR : rm.frames + 1 ≤ R.frames ∧ 8 + (ny + 11) + rm.locals ≤ R.locals) (hrc : rm.cells = 0) (hrs : rm.slots = 0) (hM : Cti g y cy ny ry rm [.ref (ad g o), v1, v2, v3] σ post) (kk : ∀ r σ', post r σ' → AW g cc nL ret R own Qc pc' lv (.int r :: rest) σ') : AW g cc nL ret R own Qc pc lv (v3 :: v2 :: v1 :: .ref (ad g o) :: rest) σ := aw_calli (As := [v1, v2, v3]) hd hl ok hc hq hci hk rfl rfl hW hR hrc hrs hM kk
theorem csi3 {v1 v2 v3 : Value} {post : Int32 → SG → Prop} (hd : dn cc pc (.invokestatic idx) 3 pc') (hl : Cond.methodLink own idx y ∈ wtb) (ok : okS y cy ny ry 3) (hW : (rest.map fun v => v.category).sum ≤ 8) (hR : rm.frames + 1 ≤ R.frames ∧ 8 + (ny + 11) + rm.locals ≤ R.locals) (hrc : rm.cells = 0) (hrs : rm.slots = 0) (hM : Cti g y cy ny ry rm [v1, v2, v3] σ post) (kk : ∀ r σ', post r σ' → AW g cc nL ret R own Qc pc' lv (.int r :: rest) σ') : AW g cc nL ret R own Qc pc lv (v3 :: v2 :: v1 :: rest) σ := aw_callsi (As := [v1, v2, v3]) hd hl ok rfl rfl hW hR hrc hrs hM kk
theorem cvi4 {v1 v2 v3 v4 : Value} {post : Int32 → SG → Prop} (hd : dn cc pc (.invokevirtual idx) 3 pc') (hl : Cond.methodLink own idx y ∈ wtb) (ok : okV y cy ny ry 4) (hc : vwCl[ci]? = some q) (hq : q.1 = y.cls) (hci : ci < 11) (hk : kd o = ci) (hW : (rest.map fun v => v.category).sum ≤ 8) (hR : rm.frames + 1 ≤ R.frames ∧ 8 + (ny + 11) + rm.locals ≤ R.locals) (hrc : rm.cells = 0) (hrs : rm.slots = 0) (hM : Cti g y cy ny ry rm [.ref (ad g o), v1, v2, v3, v4] σ post) (kk : ∀ r σ', post r σ' → AW g cc nL ret R own Qc pc' lv (.int r :: rest) σ') : AW g cc nL ret R own Qc pc lv (v4 :: v3 :: v2 :: v1 :: .ref (ad g o) :: rest) σ := aw_calli (As := [v1, v2, v3, v4]) hd hl ok hc hq hci hk rfl rfl hW hR hrc hrs hM kk
theorem csi4 {v1 v2 v3 v4 : Value} {post : Int32 → SG → Prop} (hd : dn cc pc (.invokestatic idx) 3 pc') (hl : Cond.methodLink own idx y ∈ wtb) (ok : okS y cy ny ry 4) (hW : (rest.map fun v => v.category).sum ≤ 8) (hR : rm.frames + 1 ≤ R.frames ∧ 8 + (ny + 11) + rm.locals ≤ R.locals) (hrc : rm.cells = 0) (hrs : rm.slots = 0) (hM : Cti g y cy ny ry rm [v1, v2, v3, v4] σ post) (kk : ∀ r σ', post r σ' → AW g cc nL ret R own Qc pc' lv (.int r :: rest) σ') : AW g cc nL ret R own Qc pc lv (v4 :: v3 :: v2 :: v1 :: rest) σ := aw_callsi (As := [v1, v2, v3, v4]) hd hl ok rfl rfl hW hR hrc hrs hM kk
theorem cvi5 {v1 v2 v3 v4 v5 : Value} {post : Int32 → SG → Prop} (hd : dn cc pc (.invokevirtual idx) 3 pc') (hl : Cond.methodLink own idx y ∈ wtb) (ok : okV y cy ny ry 5) (hc : vwCl[ci]? = some q) (hq : q.1 = y.cls) (hci : ci < 11) (hk : kd o = ci) (hW : (rest.map fun v => v.category).sum ≤ 8) (hR : rm.frames + 1 ≤ R.frames ∧ 8 + (ny + 11) + rm.locals ≤ R.locals) (hrc : rm.cells = 0) (hrs : rm.slots = 0) (hM : Cti g y cy ny ry rm [.ref (ad g o), v1, v2, v3, v4, v5] σ post) (kk : ∀ r σ', post r σ' → AW g cc nL ret R own Qc pc' lv (.int r :: rest) σ') : AW g cc nL ret R own Qc pc lv (v5 :: v4 :: v3 :: v2 :: v1 :: .ref (ad g o) :: rest) σ := aw_calli (As := [v1, v2, v3, v4, v5]) hd hl ok hc hq hci hk rfl rfl hW hR hrc hrs hM kk
theorem csi5 {v1 v2 v3 v4 v5 : Value} {post : Int32 → SG → Prop} (hd : dn cc pc (.invokestatic idx) 3 pc') (hl : Cond.methodLink own idx y ∈ wtb) (ok : okS y cy ny ry 5) (hW : (rest.map fun v => v.category).sum ≤ 8) (hR : rm.frames + 1 ≤ R.frames ∧ 8 + (ny + 11) + rm.locals ≤ R.locals) (hrc : rm.cells = 0) (hrs : rm.slots = 0) (hM : Cti g y cy ny ry rm [v1, v2, v3, v4, v5] σ post) (kk : ∀ r σ', post r σ' → AW g cc nL ret R own Qc pc' lv (.int r :: rest) σ') : AW g cc nL ret R own Qc pc lv (v5 :: v4 :: v3 :: v2 :: v1 :: rest) σ := aw_callsi (As := [v1, v2, v3, v4, v5]) hd hl ok rfl rfl hW hR hrc hrs hM kk
theorem cvi6 {v1 v2 v3 v4 v5 v6 : Value} {post : Int32 → SG → Prop} (hd : dn cc pc (.invokevirtual idx) 3 pc') (hl : Cond.methodLink own idx y ∈ wtb) (ok : okV y cy ny ry 6) (hc : vwCl[ci]? = some q) (hq : q.1 = y.cls) (hci : ci < 11) (hk : kd o = ci) (hW : (rest.map fun v => v.category).sum ≤ 8) (hR : rm.frames + 1 ≤ R.frames ∧ 8 + (ny + 11) + rm.locals ≤ R.locals) (hrc : rm.cells = 0) (hrs : rm.slots = 0) (hM : Cti g y cy ny ry rm [.ref (ad g o), v1, v2, v3, v4, v5, v6] σ post) (kk : ∀ r σ', post r σ' → AW g cc nL ret R own Qc pc' lv (.int r :: rest) σ') : AW g cc nL ret R own Qc pc lv (v6 :: v5 :: v4 :: v3 :: v2 :: v1 :: .ref (ad g o) :: rest) σ := aw_calli (As := [v1, v2, v3, v4, v5, v6]) hd hl ok hc hq hci hk rfl rfl hW hR hrc hrs hM kk
theorem csi6 {v1 v2 v3 v4 v5 v6 : Value} {post : Int32 → SG → Prop} (hd : dn cc pc (.invokestatic idx) 3 pc') (hl : Cond.methodLink own idx y ∈ wtb) (ok : okS y cy ny ry 6) (hW : (rest.map fun v => v.category).sum ≤ 8) (hR : rm.frames + 1 ≤ R.frames ∧ 8 + (ny + 11) + rm.locals ≤ R.locals) (hrc : rm.cells = 0) (hrs : rm.slots = 0) (hM : Cti g y cy ny ry rm [v1, v2, v3, v4, v5, v6] σ post) (kk : ∀ r σ', post r σ' → AW g cc nL ret R own Qc pc' lv (.int r :: rest) σ') : AW g cc nL ret R own Qc pc lv (v6 :: v5 :: v4 :: v3 :: v2 :: v1 :: rest) σ := aw_callsi (As := [v1, v2, v3, v4, v5, v6]) hd hl ok rfl rfl hW hR hrc hrs hM kk
theorem cvv0 {post : SG → Prop} (hd : dn cc pc (.invokevirtual idx) 3 pc') (hl : Cond.methodLink own idx y ∈ wtb) (ok : okV y cy ny none 0) (hc : vwCl[ci]? = some q) (hq : q.1 = y.cls) (hci : ci < 11) (hk : kd o = ci) (hW : (rest.map fun v => v.category).sum ≤ 8) (hR : rm.frames + 1 ≤ R.frames ∧ 8 + (ny + 11) + rm.locals ≤ R.locals) (hrc : rm.cells = 0) (hrs : rm.slots = 0) (hM : Ctv g y cy ny rm [.ref (ad g o)] σ post) (kk : ∀ σ', post σ' → AW g cc nL ret R own Qc pc' lv rest σ') : AW g cc nL ret R own Qc pc lv (.ref (ad g o) :: rest) σ := aw_callv (As := []) hd hl ok hc hq hci hk rfl rfl hW hR hrc hrs hM kk
theorem cvv1 {v1 : Value} {post : SG → Prop} (hd : dn cc pc (.invokevirtual idx) 3 pc') (hl : Cond.methodLink own idx y ∈ wtb) (ok : okV y cy ny none 1) (hc : vwCl[ci]? = some q) (hq : q.1 = y.cls) (hci : ci < 11) (hk : kd o = ci) (hW : (rest.map fun v => v.category).sum ≤ 8) (hR : rm.frames + 1 ≤ R.frames ∧ 8 + (ny + 11) + rm.locals ≤ R.locals) (hrc : rm.cells = 0) (hrs : rm.slots = 0) (hM : Ctv g y cy ny rm [.ref (ad g o), v1] σ post) (kk : ∀ σ', post σ' → AW g cc nL ret R own Qc pc' lv rest σ') : AW g cc nL ret R own Qc pc lv (v1 :: .ref (ad g o) :: rest) σ := aw_callv (As := [v1]) hd hl ok hc hq hci hk rfl rfl hW hR hrc hrs hM kk
theorem csv1 {v1 : Value} {post : SG → Prop} (hd : dn cc pc (.invokestatic idx) 3 pc') (hl : Cond.methodLink own idx y ∈ wtb) (ok : okS y cy ny none 1) (hW : (rest.map fun v => v.category).sum ≤ 8) (hR : rm.frames + 1 ≤ R.frames ∧ 8 + (ny + 11) + rm.locals ≤ R.locals) (hrc : rm.cells = 0) (hrs : rm.slots = 0) (hM : Ctv g y cy ny rm [v1] σ post) (kk : ∀ σ', post σ' → AW g cc nL ret R own Qc pc' lv rest σ') : AW g cc nL ret R own Qc pc lv (v1 :: rest) σ := aw_callsv (As := [v1]) hd hl ok rfl rfl hW hR hrc hrs hM kk
theorem cvv2 {v1 v2 : Value} {post : SG → Prop} (hd : dn cc pc (.invokevirtual idx) 3 pc') (hl : Cond.methodLink own idx y ∈ wtb) (ok : okV y cy ny none 2) (hc : vwCl[ci]? = some q) (hq : q.1 = y.cls) (hci : ci < 11) (hk : kd o = ci) (hW : (rest.map fun v => v.category).sum ≤ 8) (hR : rm.frames + 1 ≤ R.frames ∧ 8 + (ny + 11) + rm.locals ≤ R.locals) (hrc : rm.cells = 0) (hrs : rm.slots = 0) (hM : Ctv g y cy ny rm [.ref (ad g o), v1, v2] σ post) (kk : ∀ σ', post σ' → AW g cc nL ret R own Qc pc' lv rest σ') : AW g cc nL ret R own Qc pc lv (v2 :: v1 :: .ref (ad g o) :: rest) σ := aw_callv (As := [v1, v2]) hd hl ok hc hq hci hk rfl rfl hW hR hrc hrs hM kk
theorem csv2 {v1 v2 : Value} {post : SG → Prop} (hd : dn cc pc (.invokestatic idx) 3 pc') (hl : Cond.methodLink own idx y ∈ wtb) (ok : okS y cy ny none 2) (hW : (rest.map fun v => v.category).sum ≤ 8) (hR : rm.frames + 1 ≤ R.frames ∧ 8 + (ny + 11) + rm.locals ≤ R.locals) (hrc : rm.cells = 0) (hrs : rm.slots = 0) (hM : Ctv g y cy ny rm [v1, v2] σ post) (kk : ∀ σ', post σ' → AW g cc nL ret R own Qc pc' lv rest σ') : AW g cc nL ret R own Qc pc lv (v2 :: v1 :: rest) σ := aw_callsv (As := [v1, v2]) hd hl ok rfl rfl hW hR hrc hrs hM kk
theorem cvv3 {v1 v2 v3 : Value} {post : SG → Prop} (hd : dn cc pc (.invokevirtual idx) 3 pc') (hl : Cond.methodLink own idx y ∈ wtb) (ok : okV y cy ny none 3) (hc : vwCl[ci]? = some q) (hq : q.1 = y.cls) (hci : ci < 11) (hk : kd o = ci) (hW : (rest.map fun v => v.category).sum ≤ 8) (hR : rm.frames + 1 ≤ R.frames ∧ 8 + (ny + 11) + rm.locals ≤ R.locals) (hrc : rm.cells = 0) (hrs : rm.slots = 0) (hM : Ctv g y cy ny rm [.ref (ad g o), v1, v2, v3] σ post) (kk : ∀ σ', post σ' → AW g cc nL ret R own Qc pc' lv rest σ') : AW g cc nL ret R own Qc pc lv (v3 :: v2 :: v1 :: .ref (ad g o) :: rest) σ := aw_callv (As := [v1, v2, v3]) hd hl ok hc hq hci hk rfl rfl hW hR hrc hrs hM kk
theorem csv3 {v1 v2 v3 : Value} {post : SG → Prop} (hd : dn cc pc (.invokestatic idx) 3 pc') (hl : Cond.methodLink own idx y ∈ wtb) (ok : okS y cy ny none 3) (hW : (rest.map fun v => v.category).sum ≤ 8) (hR : rm.frames + 1 ≤ R.frames ∧ 8 + (ny + 11) + rm.locals ≤ R.locals) (hrc : rm.cells = 0) (hrs : rm.slots = 0) (hM : Ctv g y cy ny rm [v1, v2, v3] σ post) (kk : ∀ σ', post σ' → AW g cc nL ret R own Qc pc' lv rest σ') : AW g cc nL ret R own Qc pc lv (v3 :: v2 :: v1 :: rest) σ := aw_callsv (As := [v1, v2, v3]) hd hl ok rfl rfl hW hR hrc hrs hM kk
theorem cvv4 {v1 v2 v3 v4 : Value} {post : SG → Prop} (hd : dn cc pc (.invokevirtual idx) 3 pc') (hl : Cond.methodLink own idx y ∈ wtb) (ok : okV y cy ny none 4) (hc : vwCl[ci]? = some q) (hq : q.1 = y.cls) (hci : ci < 11) (hk : kd o = ci) (hW : (rest.map fun v => v.category).sum ≤ 8) (hR : rm.frames + 1 ≤ R.frames ∧ 8 + (ny + 11) + rm.locals ≤ R.locals) (hrc : rm.cells = 0) (hrs : rm.slots = 0) (hM : Ctv g y cy ny rm [.ref (ad g o), v1, v2, v3, v4] σ post) (kk : ∀ σ', post σ' → AW g cc nL ret R own Qc pc' lv rest σ') : AW g cc nL ret R own Qc pc lv (v4 :: v3 :: v2 :: v1 :: .ref (ad g o) :: rest) σ := aw_callv (As := [v1, v2, v3, v4]) hd hl ok hc hq hci hk rfl rfl hW hR hrc hrs hM kk
theorem csv4 {v1 v2 v3 v4 : Value} {post : SG → Prop} (hd : dn cc pc (.invokestatic idx) 3 pc') (hl : Cond.methodLink own idx y ∈ wtb) (ok : okS y cy ny none 4) (hW : (rest.map fun v => v.category).sum ≤ 8) (hR : rm.frames + 1 ≤ R.frames ∧ 8 + (ny + 11) + rm.locals ≤ R.locals) (hrc : rm.cells = 0) (hrs : rm.slots = 0) (hM : Ctv g y cy ny rm [v1, v2, v3, v4] σ post) (kk : ∀ σ', post σ' → AW g cc nL ret R own Qc pc' lv rest σ') : AW g cc nL ret R own Qc pc lv (v4 :: v3 :: v2 :: v1 :: rest) σ := aw_callsv (As := [v1, v2, v3, v4]) hd hl ok rfl rfl hW hR hrc hrs hM kk
theorem cvv5 {v1 v2 v3 v4 v5 : Value} {post : SG → Prop} (hd : dn cc pc (.invokevirtual idx) 3 pc') (hl : Cond.methodLink own idx y ∈ wtb) (ok : okV y cy ny none 5) (hc : vwCl[ci]? = some q) (hq : q.1 = y.cls) (hci : ci < 11) (hk : kd o = ci) (hW : (rest.map fun v => v.category).sum ≤ 8) (hR : rm.frames + 1 ≤ R.frames ∧ 8 + (ny + 11) + rm.locals ≤ R.locals) (hrc : rm.cells = 0) (hrs : rm.slots = 0) (hM : Ctv g y cy ny rm [.ref (ad g o), v1, v2, v3, v4, v5] σ post) (kk : ∀ σ', post σ' → AW g cc nL ret R own Qc pc' lv rest σ') : AW g cc nL ret R own Qc pc lv (v5 :: v4 :: v3 :: v2 :: v1 :: .ref (ad g o) :: rest) σ := aw_callv (As := [v1, v2, v3, v4, v5]) hd hl ok hc hq hci hk rfl rfl hW hR hrc hrs hM kk
theorem csv5 {v1 v2 v3 v4 v5 : Value} {post : SG → Prop} (hd : dn cc pc (.invokestatic idx) 3 pc') (hl : Cond.methodLink own idx y ∈ wtb) (ok : okS y cy ny none 5) (hW : (rest.map fun v => v.category).sum ≤ 8) (hR : rm.frames + 1 ≤ R.frames ∧ 8 + (ny + 11) + rm.locals ≤ R.locals) (hrc : rm.cells = 0) (hrs : rm.slots = 0) (hM : Ctv g y cy ny rm [v1, v2, v3, v4, v5] σ post) (kk : ∀ σ', post σ' → AW g cc nL ret R own Qc pc' lv rest σ') : AW g cc nL ret R own Qc pc lv (v5 :: v4 :: v3 :: v2 :: v1 :: rest) σ := aw_callsv (As := [v1, v2, v3, v4, v5]) hd hl ok rfl rfl hW hR hrc hrs hM kk
theorem cvv6 {v1 v2 v3 v4 v5 v6 : Value} {post : SG → Prop} (hd : dn cc pc (.invokevirtual idx) 3 pc') (hl : Cond.methodLink own idx y ∈ wtb) (ok : okV y cy ny none 6) (hc : vwCl[ci]? = some q) (hq : q.1 = y.cls) (hci : ci < 11) (hk : kd o = ci) (hW : (rest.map fun v => v.category).sum ≤ 8) (hR : rm.frames + 1 ≤ R.frames ∧ 8 + (ny + 11) + rm.locals ≤ R.locals) (hrc : rm.cells = 0) (hrs : rm.slots = 0) (hM : Ctv g y cy ny rm [.ref (ad g o), v1, v2, v3, v4, v5, v6] σ post) (kk : ∀ σ', post σ' → AW g cc nL ret R own Qc pc' lv rest σ') : AW g cc nL ret R own Qc pc lv (v6 :: v5 :: v4 :: v3 :: v2 :: v1 :: .ref (ad g o) :: rest) σ := aw_callv (As := [v1, v2, v3, v4, v5, v6]) hd hl ok hc hq hci hk rfl rfl hW hR hrc hrs hM kk
theorem csv6 {v1 v2 v3 v4 v5 v6 : Value} {post : SG → Prop} (hd : dn cc pc (.invokestatic idx) 3 pc') (hl : Cond.methodLink own idx y ∈ wtb) (ok : okS y cy ny none 6) (hW : (rest.map fun v => v.category).sum ≤ 8) (hR : rm.frames + 1 ≤ R.frames ∧ 8 + (ny + 11) + rm.locals ≤ R.locals) (hrc : rm.cells = 0) (hrs : rm.slots = 0) (hM : Ctv g y cy ny rm [v1, v2, v3, v4, v5, v6] σ post) (kk : ∀ σ', post σ' → AW g cc nL ret R own Qc pc' lv rest σ') : AW g cc nL ret R own Qc pc lv (v6 :: v5 :: v4 :: v3 :: v2 :: v1 :: rest) σ := aw_callsv (As := [v1, v2, v3, v4, v5, v6]) hd hl ok rfl rfl hW hR hrc hrs hM kk
theorem cvr0 {o2 : Nat} {post : SG → Prop} (hd : dn cc pc (.invokevirtual idx) 3 pc') (hl : Cond.methodLink own idx y ∈ wtb) (ok : okV y cy ny ry 0) (hc : vwCl[ci]? = some q) (hq : q.1 = y.cls) (hci : ci < 11) (hk : kd o = ci) (hW : (rest.map fun v => v.category).sum ≤ 8) (hR : rm.frames + 1 ≤ R.frames ∧ 8 + (ny + 11) + rm.locals ≤ R.locals) (hrc : rm.cells = 0) (hrs : rm.slots = 0) (hM : Ctr g y cy ny ry rm [.ref (ad g o)] σ o2 post) (kk : ∀ σ', post σ' → AW g cc nL ret R own Qc pc' lv (.ref (ad g o2) :: rest) σ') : AW g cc nL ret R own Qc pc lv (.ref (ad g o) :: rest) σ := aw_callr (As := []) hd hl ok hc hq hci hk rfl rfl hW hR hrc hrs hM kk
end AWv
