theorem k6 {o : Nat} (h : kd o = 6) : 26 ≤ o ∧ o < 50 := kd_all (P := fun o => 26 ≤ o ∧ o < 50) 6 (by decide) (by decide +kernel) h
/-- what is found depends on the finding alone -/
theorem FndC.fr {I A J B : Nat → Nat → Int32} {π : Nat → Nat} {c nw sl gp rc : Nat} {pc wd : Nat → Nat → Nat} (h : FndC (I, A, π) c pc nw wd sl gp rc) (hJ : ∀ f q, 21 ≤ q → q < 176 → J f q = I f q) (hB : ∀ q, 21 ≤ q → q < 176 → B q = A q) : FndC (J, B, π) c pc nw wd sl gp rc := by
  obtain ⟨⟨r1, r2, r3, r4⟩, ⟨w1, w2, w3, w4, τ, w5, w6⟩, t1, o1⟩ := h
  have hp : ∀ k, k < cnt (labI (nearN pc sl gp) c) c → π k < 24 := fun k hk => r1.2.2.1.1 k (by have := r1.2.1; omega)
  have hT := w1.1
  refine ⟨⟨r1.fr (fun f q h => ?_), fun p hp => ?_, fun k hk => ?_, ?_⟩, ⟨w1.keep (fun f t ht => hJ _ _ (by omega) (by omega)) (fun p h1 h2 => hB _ (by omega) (by omega)), ?_, ?_, fun x hx => ?_, τ, fun k hk => ?_, w6⟩, fun t ht => ⟨⟨fun w r c hi => ?_, ?_, ?_⟩, ?_, fun k e he => ?_⟩, o1⟩
  · rcases h with h | h
    · have := k6 h
      exact hJ _ _ (by omega) (by omega)
    · exact hJ _ _ (by omega) (by omega)
  · show B 50 p = _
    rw [hB _ (by decide) (by decide)]
    exact r2 p hp
  · have := hp k hk
    show J 199 (25 + 1 + π k) = _ ∧ J 200 (25 + 1 + π k) = _
    rw [hJ 199 _ (by omega) (by omega), hJ 200 _ (by omega) (by omega)]
    exact r3 k hk
  · exact (hJ 3 21 (by decide) (by decide)).trans r4
  · exact (hJ 132 172 (by decide) (by decide)).trans w2
  · exact (hJ 131 172 (by decide) (by decide)).trans w3
  · show B 173 x = _ ∧ B 174 x = _
    rw [hB 173 (by decide) (by decide), hB 174 (by decide) (by decide)]
    exact w4 x hx
  · show B 175 k = _
    rw [hB 175 (by decide) (by decide)]
    exact w5 k hk
  · show B (51 + 1 + 20 * t + 6) _ = _
    rw [hB _ (by omega) (by omega)]
    exact (t1 t ht).1.1 w r c hi
  · exact (hJ 257 _ (by omega) (by omega)).trans (t1 t ht).1.2.1
  · exact (hJ 267 _ (by omega) (by omega)).trans (t1 t ht).1.2.2
  · exact (hJ 265 _ (by omega) (by omega)).trans (t1 t ht).2.1
  · show B (51 + 1 + 20 * t + 16 + 1 + 0) k = _ ∧ B (51 + 1 + 20 * t + 16 + 1 + 1) k = _ ∧ B (51 + 1 + 20 * t + 16 + 1 + 2) k = _
    rw [hB _ (by omega) (by omega), hB _ (by omega) (by omega), hB _ (by omega) (by omega)]
    exact (t1 t ht).2.2 k e he
/-! a page and its images; what each call answers, and what it leaves -/
abbrev Sp : Type := Pg × (Nat → Option Pg)
abbrev rcP (P : Pg) : Nat := P.2.2.2.2.2.2
def pL (P : Pg) : Nat → Nat := labI (nearN P.2.1 P.2.2.2.2.1 P.2.2.2.2.2.1) P.1
def pM (P : Pg) : Nat := cnt (pL P) P.1
noncomputable def pR (P : Pg) : Nat → Nat → Nat := Rsp P.2.1 (pL P) P.1
noncomputable def pT (P : Pg) : Nat := tbn (pR P) (pM P) (rcP P)
noncomputable def pWT (P : Pg) : Nat → Nat := gWT (pR P) (pM P) (rcP P) P.2.2.2.1
noncomputable def pWC (P : Pg) : Nat → Nat := gWC (pR P) (pM P) (rcP P) P.2.2.2.1
noncomputable def pMis (P : Pg) (t : Nat) : List (Nat × Nat × Nat) := gMis (pR P) (pM P) (rcP P) P.2.2.2.1 P.2.2.1 t
noncomputable def pCw (P : Pg) (t q j : Nat) : Nat := gCw (pR P) (pM P) (rcP P) P.2.2.2.1 P.2.2.1 t q j
noncomputable def pN (P : Pg) (t : Nat) : Nat → Nat := gN (pR P) (pM P) (rcP P) t
noncomputable def pPl (P : Pg) (t : Nat) : Nat → Nat → Nat := gPl (pR P) (pM P) (rcP P) t
noncomputable def pNr (P : Pg) (t : Nat) : Nat := gNr (pR P) (pM P) (rcP P) t
noncomputable def pNc (P : Pg) (t : Nat) : Nat := gNc (pR P) (pM P) (rcP P) t
noncomputable def pCc (P : Pg) (t : Nat) : Nat := gCc (pR P) (pM P) (rcP P) t
noncomputable def pFc (P : Pg) (t : Nat) : Nat → Nat := gFc (pR P) (pM P) (rcP P) t
noncomputable def pIn (P : Pg) (t k : Nat) : Bool := inN (pR P) (pM P) (rcP P) t k
noncomputable def pSd (P : Pg) (t : Nat) : Nat → Nat → Nat → Bool := tsd (pIn P t) (pR P) (pM P) (rcP P)
noncomputable def pHd (P : Pg) (t : Nat) : Nat := thd (pIn P t) (pR P) (pM P) (rcP P)
noncomputable def pInn (P : Pg) (t q x : Nat) : Bool := decide (pWT P x = t) && decide (pWC P x = q)
def limS (k : Nat) : Nat := if k = 0 then 3 else if k = 1 then 9 else 5
def stg (P : Pg) (k : Nat) : Nat := if k = 0 then P.2.2.2.2.1 else if k = 1 then P.2.2.2.2.2.1 else rcP P
def setP (P : Pg) (k v : Nat) : Pg := (P.1, P.2.1, P.2.2.1, P.2.2.2.1, if k = 0 then v else P.2.2.2.2.1, if k = 1 then v else P.2.2.2.2.2.1, if k = 2 then v else rcP P)
def addR (c : Nat) (v : Nat → Nat → Nat) (u : Nat → Nat) : Nat → Nat → Nat := fun p => if p = c then u else v p
def remR (v : Nat → Nat → Nat) (k : Nat) : Nat → Nat → Nat := fun p => if p < k then v p else v (p + 1)
def addP (P : Pg) (u : Nat → Nat) : Pg := (P.1 + 1, addR P.1 P.2.1 u, P.2.2)
def remP (P : Pg) (k : Nat) : Pg := (P.1 - 1, remR P.2.1 k, P.2.2)
def addW (P : Pg) (u : Nat → Nat) : Pg := (P.1, P.2.1, P.2.2.1 + 1, addR P.2.2.1 P.2.2.2.1 u, P.2.2.2.2)
def remW (P : Pg) (k : Nat) : Pg := (P.1, P.2.1, P.2.2.1 - 1, remR P.2.2.2.1 k, P.2.2.2.2)
def four (a b c d : Nat) : Nat → Nat := fun k => if k = 0 then a else if k = 1 then b else if k = 2 then c else d
def sSet (S : Sp) (what n : Int32) : Int32 × Sp := match ix what 3 with
  | none => (-2, S)
  | some k => match ix n (limS k + 1) with
    | none => (-2, S)
    | some v => (nI (stg S.1 k), (setP S.1 k v, S.2))
def dArg (way at_ fr to : Int32) : Option (Nat → Nat) := match ix way 2, ix at_ 100, ix fr 100, ix to 100 with
  | some w, some a, some f, some t => if f < t then some (four w a f t) else none
  | _, _, _, _ => none
def sDraw (S : Sp) (way at_ fr to : Int32) : Int32 × Sp := match dArg way at_ fr to with
  | none => (-2, S)
  | some u => if S.1.1 = 24 then (-4, S) else (nI (S.1.1 + 1), (addP S.1 u, S.2))
def sErase (S : Sp) (x : Int32) : Int32 × Sp := match ix x S.1.1 with
  | none => (-1, S)
  | some k => (nI (S.1.1 - 1), (remP S.1 k, S.2))
def wArg (l t r b : Int32) : Option (Nat → Nat) := match ix l 100, ix t 100, ix r 100, ix b 100 with
  | some l, some t, some r, some b => if l < r ∧ t < b then some (four l t r b) else none
  | _, _, _, _ => none
def sWrite (S : Sp) (l t r b : Int32) : Int32 × Sp := match wArg l t r b with
  | none => (-2, S)
  | some u => if S.1.2.2.1 = 20 then (-4, S) else (nI (S.1.2.2.1 + 1), (addW S.1 u, S.2))
def sStrike (S : Sp) (x : Int32) : Int32 × Sp := match ix x S.1.2.2.1 with
  | none => (-1, S)
  | some k => (nI (S.1.2.2.1 - 1), (remW S.1 k, S.2))
noncomputable def aPiece (P : Pg) (x what : Int32) : Int32 := match ix x P.1 with
  | none => -1
  | some p => match ix what 5 with
    | none => -2
    | some w => if w < 4 then nI (P.2.1 p w) else nI (posR (pR P) (pM P) (pL P p))
noncomputable def aWord (P : Pg) (x what : Int32) : Int32 := match ix x P.2.2.1 with
  | none => -1
  | some p => match ix what 6 with
    | none => -2
    | some w => if w < 4 then nI (P.2.2.2.1 p w) else if pWT P p < pT P then (if w = 4 then nI (pWT P p) else nI (pWC P p)) else -6
noncomputable def tabN (P : Pg) (k : Nat) : Int32 := if isN (pR P) (pM P) (rcP P) (l2 (pR P) (pM P) (rcP P) k) = true then nI (ctB (isN (pR P) (pM P) (rcP P)) (l2 (pR P) (pM P) (rcP P) k)) else -6
noncomputable def ruT (P : Pg) (k w : Nat) : Int32 := if w < 6 then nI (pR P k w) else if w = 6 then nI (crsN (pR P) (rcP P) k (pM P)) else tabN P k
noncomputable def aRule (P : Pg) (x what : Int32) : Int32 := match ix x (pM P) with
  | none => -1
  | some k => match ix what 8 with
    | none => -2
    | some w => ruT P k w
noncomputable def aCross (P : Pg) (x y : Int32) : Int32 := match ix x (pM P), ix y (pM P) with
  | some a, some b => if crossN (pR P a) (pR P b) (rcP P) = true then 1 else 0
  | _, _ => -1
noncomputable def taT (P : Pg) (t w : Nat) : Int32 := if w = 0 then nI (pNr P t) else if w = 1 then nI (pNc P t) else if w = 2 then nI (pCc P t) else if w = 3 then nI (ctB (pIn P t) (pM P)) else if w = 4 then nI (wnT (pWT P) P.2.2.1 t) else if w = 5 then nI (pHd P t) else if w = 6 then nI (pMis P t).length else nI (ctB (fun q => decide (pCw P t q 5 = 0)) (pCc P t))
noncomputable def aTable (P : Pg) (x what : Int32) : Int32 := match ix x (pT P) with
  | none => -1
  | some t => match ix what 8 with
    | none => -2
    | some w => taT P t w
noncomputable def aEdge (P : Pg) (x way line : Int32) : Int32 := match ix x (pT P) with
  | none => -1
  | some t => match ix way 2 with
    | none => -2
    | some w => match ix line (pN P t w) with
      | none => -6
      | some l => nI (pPl P t w l)
noncomputable def aRuled (P : Pg) (x way row col : Int32) : Int32 := match ix x (pT P) with
  | none => -1
  | some t => match ix way 2 with
    | none => -2
    | some w => match ix row (pNr P t + 1 - w), ix col (pNc P t + w) with
      | some r, some c => if pSd P t w r c = true then 1 else 0
      | _, _ => -1
noncomputable def aAt (P : Pg) (x row col : Int32) : Int32 := match ix x (pT P) with
  | none => -1
  | some t => match ix row (pNr P t), ix col (pNc P t) with
    | some r, some c => nI (pFc P t (r * pNc P t + c))
    | _, _ => -1
noncomputable def aCell (P : Pg) (x cell what : Int32) : Int32 := match ix x (pT P) with
  | none => -1
  | some t => match ix cell (pCc P t) with
    | none => -1
    | some q => match ix what 7 with
      | none => -2
      | some j => nI (pCw P t q j)
/-- how many words of a cell are read before word w -/
noncomputable def ahd (P : Pg) (t q w : Nat) : Nat := ctB (fun e => pInn P t q e && befN (Qw P.2.2.2.1 e) (Qw P.2.2.2.1 w)) P.2.2.1
noncomputable def aRead (P : Pg) (x cell k : Int32) : Int32 := match ix x (pT P) with
  | none => -1
  | some t => match ix cell (pCc P t) with
    | none => -1
    | some q => orN (fst (fun w => pInn P t q w && decide (nI (ahd P t q w) = k)) P.2.2.1) P.2.2.1
noncomputable def aMissed (P : Pg) (x k what : Int32) : Int32 := match ix x (pT P) with
  | none => -1
  | some t => match ix what 3 with
    | none => -2
    | some j => match ix k (pMis P t).length with
      | none => -6
      | some i => match (pMis P t)[i]? with
        | none => -6
        | some e => if j = 0 then nI e.1 else if j = 1 then nI e.2.1 else nI e.2.2
/-- the piece that mends a missed line -/
noncomputable def mdP (P : Pg) (t : Nat) (e : Nat × Nat × Nat) : Nat → Nat := four e.2.1 (pPl P t e.2.1 e.2.2) (pPl P t (1 - e.2.1) (pCw P t e.1 (1 - e.2.1))) (pPl P t (1 - e.2.1) (pCw P t e.1 (1 - e.2.1) + pCw P t e.1 (2 + (1 - e.2.1))))
noncomputable def mdL (P : Pg) (t : Nat) : Nat → Pg
  | 0 => P
  | k + 1 => match (pMis P t)[k]? with
    | none => mdL P t k
    | some e => addP (mdL P t k) (mdP P t e)
noncomputable def sMend (S : Sp) (x : Int32) : Int32 × Sp := match ix x (pT S.1) with
  | none => (-1, S)
  | some t => if (pMis S.1 t).length = 0 then (-5, S) else if 24 < S.1.1 + (pMis S.1 t).length then (-4, S) else (nI (S.1.1 + (pMis S.1 t).length), (mdL S.1 t (pMis S.1 t).length, S.2))
noncomputable def aHeading (P : Pg) (x col k : Int32) : Int32 := match ix x (pT P) with
  | none => -1
  | some t => match ix col (pNc P t) with
    | none => -1
    | some c => if fst (fun r => isF (pNc P t) (pFc P t) c r && decide (nI (ctB (isF (pNc P t) (pFc P t) c) r) = k)) (pHd P t) < pHd P t then nI (pFc P t (fst (fun r => isF (pNc P t) (pFc P t) c r && decide (nI (ctB (isF (pNc P t) (pFc P t) c) r) = k)) (pHd P t) * pNc P t + c)) else -6
def sImage (S : Sp) (k : Int32) : Int32 × Sp := match ix k 2 with
  | none => (-2, S)
  | some i => (1, (S.1, fun j => if j = i then some S.1 else S.2 j))
def sRestore (S : Sp) (k : Int32) : Int32 × Sp := match ix k 2 with
  | none => (-2, S)
  | some i => match S.2 i with
    | none => (-3, S)
    | some Q => (1, (Q, S.2))
noncomputable def toT (P : Pg) (w : Nat) : Int32 := if w = 0 then nI P.1 else if w = 1 then nI P.2.2.1 else if w = 2 then nI (pM P) else if w = 3 then nI (pT P) else if w = 4 then nI (wnL (pWT P) (pT P) P.2.2.1) else nI (stg P (w - 5))
noncomputable def aTold (P : Pg) (what : Int32) : Int32 := match ix what 8 with
  | none => -2
  | some w => toT P w
/-! the class's state -/
def FnP (σ : SG) (P : Pg) : Prop := FndC σ P.1 P.2.1 P.2.2.1 P.2.2.2.1 P.2.2.2.2.1 P.2.2.2.2.2.1 (rcP P)
def ImC (σ : SG) (k : Nat) : Option Pg → Prop
  | none => σ.2.1 20 k = 0
  | some P => σ.2.1 20 k = 1 ∧ PgR σ (7 + 1 + 6 * k) P ∧ PgV P
def InvC (σ : SG) (S : Sp) : Prop := PgR σ 1 S.1 ∧ PgV S.1 ∧ (PgM σ 1 ∧ PgM σ 8 ∧ PgM σ 14) ∧ Perm σ.2.2 ∧ (∀ k, k < 2 → ImC σ k (S.2 k)) ∧ (σ.1 292 0 = 1 ∨ (σ.1 292 0 = 0 ∧ FnP σ S.1))
def FrC (σ σ' : SG) : Prop := (∀ f q, 176 ≤ q → σ'.1 f q = σ.1 f q) ∧ ∀ q, 176 ≤ q → σ'.2.1 q = σ.2.1 q
def FrM (σ σ' : SG) : Prop := σ'.2.2 = σ.2.2 ∧ (∀ f q, q < 176 → σ'.1 f q = σ.1 f q) ∧ ∀ q, q < 176 → σ'.2.1 q = σ.2.1 q
def PoC (σ : SG) (x : Int32 × Sp) (r : Int32) (σ' : SG) : Prop := r = x.1 ∧ InvC σ' x.2 ∧ FrC σ σ'
theorem FrC.refl (σ : SG) : FrC σ σ := ⟨fun _ _ _ => rfl, fun _ _ => rfl⟩
theorem FrC.trans {a b c : SG} (h : FrC a b) (k : FrC b c) : FrC a c := ⟨fun f q z => (k.1 f q z).trans (h.1 f q z), fun q z => (k.2 q z).trans (h.2 q z)⟩
theorem FrM.refl (σ : SG) : FrM σ σ := ⟨rfl, fun _ _ _ => rfl, fun _ _ => rfl⟩
theorem FrM.trans {a b c : SG} (h : FrM a b) (k : FrM b c) : FrM a c := ⟨k.1.trans h.1, fun f q z => (k.2.1 f q z).trans (h.2.1 f q z), fun q z => (k.2.2 q z).trans (h.2.2 q z)⟩
theorem PoC.mk {σ σ' : SG} {x : Int32 × Sp} {r : Int32} {S : Sp} (e : x = (r, S)) (hI : InvC σ' S) (hF : FrC σ σ') : PoC σ x r σ' := by
  subst e
  exact ⟨rfl, hI, hF⟩
theorem ImC.keep {σ σ' : SG} {k : Nat} {o : Option Pg} (h : ImC σ k o) (hk : k < 2) (h20 : σ'.2.1 20 k = σ.2.1 20 k) (hI : ∀ q, 8 ≤ q → q < 20 → σ'.1 162 q = σ.1 162 q) (hA : ∀ q, 8 ≤ q → q < 20 → σ'.2.1 q = σ.2.1 q) : ImC σ' k o := by
  cases o with
  | none => exact h20.trans h
  | some P => exact ⟨h20.trans h.1, h.2.1.keep (hI _ (by omega) (by omega)) (hI _ (by omega) (by omega)) (hA _ (by omega) (by omega)) (hA _ (by omega) (by omega)) (hA _ (by omega) (by omega)), h.2.2⟩
theorem InvC.fr {σ σ' : SG} {S : Sp} (h : InvC σ S) (hF : FrM σ σ') : InvC σ' S := by
  obtain ⟨h1, h2, ⟨m1, m2, m3⟩, h4, h5, h6⟩ := h
  obtain ⟨e, fI, fA⟩ := hF
  have fm : ∀ o, o < 20 → PgM σ o → PgM σ' o := fun o ho hm => ⟨(fI _ _ (by omega)).trans hm.1, (fI _ _ (by omega)).trans hm.2⟩
  refine ⟨h1.keep (fI _ _ (by decide)) (fI _ _ (by decide)) (fA _ (by decide)) (fA _ (by decide)) (fA _ (by decide)), h2, ⟨fm _ (by decide) m1, fm _ (by decide) m2, fm _ (by decide) m3⟩, by rw [e]; exact h4, fun k hk => (h5 k hk).keep hk (by rw [fA _ (by decide)]) (fun q _ _ => fI _ _ (by omega)) (fun q _ _ => fA _ (by omega)), ?_⟩
  rw [fI 292 0 (by decide)]
  refine h6.imp id (fun z => ⟨z.1, ?_⟩)
  have := FndC.fr (J := σ'.1) (B := σ'.2.1) z.2 (fun f q _ h => fI f q h) (fun q _ h => fA q h)
  rw [← e] at this
  exact this
/-- the page itself has changed -/
theorem InvC.pg {σ σ' : SG} {S : Sp} {P : Pg} (h : InvC σ S) (hP : PgR σ' 1 P) (hV : PgV P) (h1 : σ'.2.2 = σ.2.2) (hst : σ'.1 292 0 = 1) (hI : ∀ f q, (f ≠ 162 ∨ (q ≠ 2 ∧ q ≠ 4)) → (f ≠ 292 ∨ q ≠ 0) → σ'.1 f q = σ.1 f q) (hA : ∀ q, 6 < q → σ'.2.1 q = σ.2.1 q) : InvC σ' (P, S.2) ∧ FrC σ σ' := by
  obtain ⟨-, -, ⟨m1, m2, m3⟩, h4, h5, -⟩ := h
  have fm : ∀ o, PgM σ o → PgM σ' o := fun o hm => ⟨(hI _ _ (Or.inl (by decide)) (Or.inl (by decide))).trans hm.1, (hI _ _ (Or.inl (by decide)) (Or.inl (by decide))).trans hm.2⟩
  exact ⟨⟨hP, hV, ⟨fm _ m1, fm _ m2, fm _ m3⟩, by rw [h1]; exact h4, fun k hk => (h5 k hk).keep hk (by rw [hA _ (by decide)]) (fun q _ _ => hI _ _ (Or.inr ⟨by omega, by omega⟩) (Or.inl (by decide))) (fun q _ _ => hA _ (by omega)), Or.inl hst⟩, fun f q h => hI _ _ (Or.inr ⟨by omega, by omega⟩) (Or.inr (by omega)), fun q h => hA _ (by omega)⟩
theorem ix_no {x v : Int32} {c : Nat} (e : v = nI c) (h : x < 0 ∨ nI c ≤ x) : ¬ (¬ x < 0 ∧ ¬ v ≤ x) := by
  rintro ⟨a, b⟩
  rw [e] at b
  rcases h with h | h
  · exact a h
  · exact b h
theorem ix_yes {v : Int32} {k c : Nat} (e : v = nI c) (h : k < c) (hc : c < 2 ^ 31) : ¬ nI k < 0 ∧ ¬ v ≤ nI k := ⟨nI_pos (by omega), by rw [e]; exact nI_ge h hc⟩
/-- rows of four numbers: one more, one less -/
theorem dAdd {f : Nat → Int32} {c : Nat} {v : Nat → Nat → Nat} (h : ∀ p w, p < c → w < 4 → f (4 * p + w) = nI (v p w)) (u : Nat → Nat) : ∀ p w, p < c + 1 → w < 4 → upd (upd (upd (upd f (4 * c) (nI (u 0))) (4 * c + 1) (nI (u 1))) (4 * c + 2) (nI (u 2))) (4 * c + 3) (nI (u 3)) (4 * p + w) = nI (addR c v u p w) := fun p w hp hw => by
  unfold addR upd
  by_cases e : p = c
  · subst e
    rw [if_pos rfl]
    rcases (by omega : w = 0 ∨ w = 1 ∨ w = 2 ∨ w = 3) with rfl | rfl | rfl | rfl
    · rw [if_neg (by omega), if_neg (by omega), if_neg (by omega), if_pos (by omega)]
    · rw [if_neg (by omega), if_neg (by omega), if_pos (by omega)]
    · rw [if_neg (by omega), if_pos (by omega)]
    · rw [if_pos (by omega)]
  · rw [if_neg e, if_neg (by omega), if_neg (by omega), if_neg (by omega), if_neg (by omega)]
    exact h p w (by omega) hw
theorem dRem {f : Nat → Int32} {c k : Nat} {v : Nat → Nat → Nat} (h : ∀ p w, p < c → w < 4 → f (4 * p + w) = nI (v p w)) : ∀ p w, p < c - 1 → w < 4 → sh4 f (4 * k) (4 * (c - 1)) (4 * p + w) = nI (remR v k p w) := fun p w hp hw => by
  unfold remR sh4
  by_cases e : p < k
  · rw [if_neg (by omega), if_pos e]
    exact h p w (by omega) hw
  · rw [if_pos (by omega), if_neg e, show 4 * p + w + 4 = 4 * (p + 1) + w by omega]
    exact h (p + 1) w (by omega) hw
theorem four_le {a b c d : Nat} (ha : a ≤ 99) (hb : b ≤ 99) (hc : c ≤ 99) (hd : d ≤ 99) (k : Nat) : four a b c d k ≤ 99 := by
  unfold four
  split
  · exact ha
  · split
    · exact hb
    · split
      · exact hc
      · exact hd
theorem addR_le {c : Nat} {v : Nat → Nat → Nat} {u : Nat → Nat} (h : ∀ p w, v p w ≤ 99) (hu : ∀ w, u w ≤ 99) (p w : Nat) : addR c v u p w ≤ 99 := by
  unfold addR
  split
  · exact hu w
  · exact h p w
theorem remR_le {v : Nat → Nat → Nat} {k : Nat} (h : ∀ p w, v p w ≤ 99) (p w : Nat) : remR v k p w ≤ 99 := by
  unfold remR
  split
  · exact h p w
  · exact h _ w
theorem PgV.add {P : Pg} (h : PgV P) {u : Nat → Nat} (hc : P.1 < 24) (hu : ∀ w, u w ≤ 99) (h0 : u 0 ≤ 1) (h2 : u 2 < u 3) : PgV (addP P u) := by
  obtain ⟨v1, v2, v3, v4, v5, v6, v7, v8⟩ := h
  refine ⟨hc, fun p hp => ?_, v3, v4, v5, v6, addR_le v7 hu, v8⟩
  show addR P.1 P.2.1 u p 0 ≤ 1 ∧ addR P.1 P.2.1 u p 2 < addR P.1 P.2.1 u p 3
  unfold addR
  by_cases e : p = P.1
  · rw [if_pos e]
    exact ⟨h0, h2⟩
  · rw [if_neg e]
    exact v2 p (by have : p < P.1 + 1 := hp; omega)
theorem PgV.rem {P : Pg} (h : PgV P) {k : Nat} : PgV (remP P k) := by
  obtain ⟨v1, v2, v3, v4, v5, v6, v7, v8⟩ := h
  refine ⟨by show P.1 - 1 ≤ 24; omega, fun p hp => ?_, v3, v4, v5, v6, remR_le v7, v8⟩
  have hp : p < P.1 - 1 := hp
  show remR P.2.1 k p 0 ≤ 1 ∧ remR P.2.1 k p 2 < remR P.2.1 k p 3
  unfold remR
  by_cases e : p < k
  · rw [if_pos e]
    exact v2 p (by omega)
  · rw [if_neg e]
    exact v2 (p + 1) (by omega)
theorem PgV.addW {P : Pg} (h : PgV P) {u : Nat → Nat} (hc : P.2.2.1 < 20) (hu : ∀ w, u w ≤ 99) : PgV (addW P u) := by
  obtain ⟨v1, v2, v3, v4, v5, v6, v7, v8⟩ := h
  exact ⟨v1, v2, hc, v4, v5, v6, v7, addR_le v8 hu⟩
theorem PgV.remW {P : Pg} (h : PgV P) {k : Nat} : PgV (remW P k) := by
  obtain ⟨v1, v2, v3, v4, v5, v6, v7, v8⟩ := h
  exact ⟨v1, v2, by show P.2.2.1 - 1 ≤ 20; omega, v4, v5, v6, v7, remR_le v8⟩
theorem PgV.set {P : Pg} (h : PgV P) {k v : Nat} (hv : v ≤ limS k) : PgV (setP P k v) := by
  obtain ⟨v1, v2, v3, v4, v5, v6, v7, v8⟩ := h
  unfold limS at hv
  refine ⟨v1, v2, v3, ?_, ?_, ?_, v7, v8⟩
  · show (if k = 0 then v else _) ≤ 3
    split
    · rename_i e
      rw [if_pos e] at hv
      exact hv
    · exact v4
  · show (if k = 1 then v else _) ≤ 9
    split
    · rename_i e
      rw [if_neg (by omega), if_pos e] at hv
      exact hv
    · exact v5
  · show (if k = 2 then v else _) ≤ 5
    split
    · rename_i e
      rw [if_neg (by omega), if_neg (by omega)] at hv
      exact hv
    · exact v6
theorem RowN.add {σ : SG} {o c : Nat} {v : Nat → Nat → Nat} (h : RowN σ o c v) (hcl : 4 * c + 4 ≤ ln (o + 1)) {u : Nat → Nat} (hu : ∀ w, u w ≤ 99) {I A : Nat → Nat → Int32} {π : Nat → Nat} (h1 : I 162 o = nI (c + 1)) (h2 : A (o + 1) = upd (upd (upd (upd (σ.2.1 (o + 1)) (4 * c) (nI (u 0))) (4 * c + 1) (nI (u 1))) (4 * c + 2) (nI (u 2))) (4 * c + 3) (nI (u 3))) : RowN (I, A, π) o (c + 1) (addR c v u) := ⟨h.1, h1, by omega, fun p w hp hw => by
  show A (o + 1) (4 * p + w) = _ ∧ _
  rw [h2]
  refine ⟨dAdd (fun p w hp hw => (h.2.2.2 p w hp hw).1) u p w hp hw, ?_⟩
  unfold addR
  by_cases e : p = c
  · rw [if_pos e]
    exact hu w
  · rw [if_neg e]
    exact (h.2.2.2 p w (by omega) hw).2⟩
theorem RowN.rem {σ : SG} {o c k : Nat} {v : Nat → Nat → Nat} (h : RowN σ o c v) {I A : Nat → Nat → Int32} {π : Nat → Nat} (h1 : I 162 o = nI (c - 1)) (h2 : A (o + 1) = sh4 (σ.2.1 (o + 1)) (4 * k) (4 * (c - 1))) : RowN (I, A, π) o (c - 1) (remR v k) := ⟨h.1, h1, by have := h.2.2.1; omega, fun p w hp hw => by
  show A (o + 1) (4 * p + w) = _ ∧ _
  rw [h2]
  refine ⟨dRem (fun p w hp hw => (h.2.2.2 p w hp hw).1) p w hp hw, ?_⟩
  unfold remR
  by_cases e : p < k
  · rw [if_pos e]
    exact (h.2.2.2 p w (by omega) hw).2
  · rw [if_neg e]
    exact (h.2.2.2 (p + 1) w (by omega) hw).2⟩
