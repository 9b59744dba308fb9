theorem uA_uA (A : Nat → Nat → Int32) (o : Nat) (f h : Nat → Int32) : uA (uA A o f) o h = uA A o h := by
  funext q
  unfold uA
  split <;> rfl
theorem uI_uI (I : Nat → Nat → Int32) (f o : Nat) (v x : Int32) : uI (uI I f o v) f o x = uI I f o x := by
  funext a b
  unfold uI
  split <;> rfl
theorem uA_same (A : Nat → Nat → Int32) (o : Nat) : uA A o (A o) = A := by
  funext q
  unfold uA
  split
  · rename_i h
    rw [h]
  · rfl
theorem uI_same (I : Nat → Nat → Int32) (f o : Nat) : uI I f o (I f o) = I := by
  funext a b
  unfold uI
  split
  · rename_i h
    rw [h.1, h.2]
  · rfl
section AWl
variable {g : GG} {cc : ByteArray} {nL : Nat} {ret : Option FieldType} {R : Room} {own : String} {Qc : Array Value → State → Outcome → State → Prop} {pc pc' tgt : Nat} {lv : List (Option Value)} {st : List Value} {σ : SG}
/-- a counter that goes up to e -/
theorem for_up (inv : Nat → SG → Prop) (lvf : Nat → List (Option Value)) (e : Nat) (step : ∀ i σ, i < e → inv i σ → (∀ σ', inv (i + 1) σ' → AW g cc nL ret R own Qc pc (lvf (i + 1)) st σ') → AW g cc nL ret R own Qc pc (lvf i) st σ) (last : ∀ σ, inv e σ → AW g cc nL ret R own Qc pc (lvf e) st σ) : ∀ (i : Nat) (σ : SG), i ≤ e → inv i σ → AW g cc nL ret R own Qc pc (lvf i) st σ := by
  have key : ∀ (n i : Nat) (σ : SG), n = e - i → i ≤ e → inv i σ → AW g cc nL ret R own Qc pc (lvf i) st σ := by
    intro n
    induction n with
    | zero =>
      intro i σ hn hi hv
      have : i = e := by omega
      subst this
      exact last σ hv
    | succ n ih =>
      intro i σ hn hi hv
      exact step i σ (by omega) hv (fun σ' h' => ih (i + 1) σ' (by omega) (by omega) h')
  exact fun i σ hi hv => key (e - i) i σ rfl hi hv
/-- any loop, by a measure that falls -/
theorem for_wf (P : Nat → SG → List (Option Value) → Prop) (step : ∀ n σ lv, P n σ lv → (∀ m σ' lv', m < n → P m σ' lv' → AW g cc nL ret R own Qc pc lv' st σ') → AW g cc nL ret R own Qc pc lv st σ) : ∀ n σ lv, P n σ lv → AW g cc nL ret R own Qc pc lv st σ := by
  intro n
  induction n using Nat.strongRecOn with
  | ind n ih => exact fun σ lv h => step n σ lv h (fun m σ' lv' hm h' => ih m hm σ' lv' h')
end AWl
/-- a part of a row moved down by four -/
def sh4 (f : Nat → Int32) (s i : Nat) : Nat → Int32 := fun k => if s ≤ k ∧ k < i then f (k + 4) else f k
theorem sh4_0 (f : Nat → Int32) (s : Nat) : sh4 f s s = f := by
  funext k
  unfold sh4
  rw [if_neg (by omega)]
theorem sh4_s {f : Nat → Int32} {s i : Nat} (h : s ≤ i) : upd (sh4 f s i) i (sh4 f s i (i + 4)) = sh4 f s (i + 1) := by
  funext k
  by_cases e : k = i
  · subst e
    rw [pk_us]
    unfold sh4
    rw [if_neg (by omega), if_pos (by omega)]
  · rw [pk_un e]
    unfold sh4
    by_cases q : s ≤ k ∧ k < i
    · rw [if_pos q, if_pos (by omega)]
    · rw [if_neg q, if_neg (by omega)]
/-- a row whose first i places are another's -/
def cp_ (f h : Nat → Int32) (i : Nat) : Nat → Int32 := fun k => if k < i then h k else f k
theorem cp_0 (f h : Nat → Int32) : cp_ f h 0 = f := by
  funext k
  unfold cp_
  rw [if_neg (by omega)]
theorem cp_s (f h : Nat → Int32) (i : Nat) : upd (cp_ f h i) i (h i) = cp_ f h (i + 1) := by
  funext k
  by_cases e : k = i
  · subst e
    rw [pk_us]
    unfold cp_
    rw [if_pos (by omega)]
  · rw [pk_un e]
    unfold cp_
    by_cases q : k < i
    · rw [if_pos q, if_pos (by omega)]
    · rw [if_neg q, if_neg (by omega)]
