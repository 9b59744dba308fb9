/-! the state at the start -/
def I0 : Nat → Nat → Int32 := fun f o => if f = 161 then (if o = 2 ∨ o = 9 ∨ o = 15 then nI 24 else nI 20) else if f = 292 then nI 1 else 0
def A0 : Nat → Nat → Int32 := fun o => if o = 6 ∨ o = 13 ∨ o = 19 then fF else if o = 179 then upd (upd (upd (fun _ => 0) 0 (nI 1)) 1 (nI 2)) 2 (nI 1) else fun _ => 0
def S0 : SG := (I0, A0, fun k => k)
theorem cl_is {g : GG} {o k : Nat} {e : va_E} (hk : kd o = k) (h : e = cl0 g S0 o k) : e = cl_ g S0 o := h.trans (cl_k hk).symm
def FinB (g : GG) (E : Nat → va_E) (a b : Nat) (E' : Nat → va_E) : Prop := (∀ k, k < a → E' k = E k) ∧ ∀ k, a ≤ k → k < b → E' k = cl_ g S0 k
theorem rowsE_o {E : Nat → va_E} {g : GG} {nn N M j : Nat} (h : j < nn) : rowsE E g nn N M j = E j := by
  unfold rowsE
  rw [if_neg (by omega), if_neg (by omega)]
section BWN
variable {g : GG} {cc : ByteArray} {nL : Nat} {R : Room} {own : String} {Qc : Array Value → State → Outcome → State → Prop} {mc ms pc : Nat} {lv : List (Option Value)} {st : List Value} {nn : Nat} {E : Nat → va_E} {cu su : Nat}
theorem bw_N {n' cu' su' : Nat} (h1 : nn = n') (h2 : cu = cu') (h3 : su = su') (k : BW g cc nL R own Qc mc ms pc lv st n' E cu' su') : BW g cc nL R own Qc mc ms pc lv st nn E cu su := by
  subst h1
  subst h2
  subst h3
  exact k
theorem bw_cell {o N : Nat} {cA : ClassId} {f f' : Nat → Option Nat} (ho : o < nn) (he : E o = .inl (cA, N, .inr (.inr (.inr (.inr f))))) (hf : ∀ j, j < N → f j = f' j) (k : BW g cc nL R own Qc mc ms pc lv st nn (updE E o (.inl (cA, N, .inr (.inr (.inr (.inr f')))))) cu su) : BW g cc nL R own Qc mc ms pc lv st nn E cu su := by
  intro p e s m args below meth c H locs ls F hY hP hz hS hl
  refine k p e s m args below meth c H locs ls F hY (fun i q hq => ?_) hz hS hl
  have hi := wsB_lt hq
  rw [wsB_at g _ hi] at hq
  cases hq
  by_cases z : i = o
  · subst z
    rw [updE_s]
    have h := hP i _ (wsB_at g E hi)
    rw [he] at h
    have e2 : arrV cA N (fun j => va_rf (f j)) = arrV cA N (fun j => va_rf (f' j)) := by
      unfold arrV
      congr 1
      apply Array.ext_getElem?
      intro j
      by_cases hj : j < N
      · simp [hj, hf j hj]
      · simp [hj]
    show H[ad g i]? = some (arrV cA N (fun j => va_rf (f' j)))
    rw [← e2]
    exact h
  · rw [updE_n z]
    exact hP i _ (wsB_at g E hi)
end BWN
theorem dfX0 : ∀ j, j < 5 → defaultValue (tyX0 j) = vp_V [.null, .null, .null, .int 0, .null] j := fun j hj => by
  rcases (by omega : j = 0 ∨ j = 1 ∨ j = 2 ∨ j = 3 ∨ j = 4) with rfl | rfl | rfl | rfl | rfl <;> rfl
theorem dfX1 : ∀ j, j < 1 → defaultValue (tyX1 j) = vp_V [.null] j := fun j hj => by
  rcases (by omega : j = 0) with rfl <;> rfl
theorem dfX2 : ∀ j, j < 2 → defaultValue (tyX2 j) = vp_V [.null, .null] j := fun j hj => by
  rcases (by omega : j = 0 ∨ j = 1) with rfl | rfl <;> rfl
theorem dfX3 : ∀ j, j < 3 → defaultValue (tyX3 j) = vp_V [.null, .null, .null] j := fun j hj => by
  rcases (by omega : j = 0 ∨ j = 1 ∨ j = 2) with rfl | rfl | rfl <;> rfl
theorem dfX4 : ∀ j, j < 5 → defaultValue (tyX4 j) = vp_V [.null, .null, .null, .int 0, .int 0] j := fun j hj => by
  rcases (by omega : j = 0 ∨ j = 1 ∨ j = 2 ∨ j = 3 ∨ j = 4) with rfl | rfl | rfl | rfl | rfl <;> rfl
theorem dfX5 : ∀ j, j < 3 → defaultValue (tyX5 j) = vp_V [.null, .int 0, .int 0] j := fun j hj => by
  rcases (by omega : j = 0 ∨ j = 1 ∨ j = 2) with rfl | rfl | rfl <;> rfl
theorem dfX6 : ∀ j, j < 9 → defaultValue (tyX6 j) = vp_V [.int 0, .int 0, .int 0, .int 0, .int 0, .int 0, .int 0, .int 0, .int 0] j := fun j hj => by
  rcases (by omega : j = 0 ∨ j = 1 ∨ j = 2 ∨ j = 3 ∨ j = 4 ∨ j = 5 ∨ j = 6 ∨ j = 7 ∨ j = 8) with rfl | rfl | rfl | rfl | rfl | rfl | rfl | rfl | rfl <;> rfl
theorem dfX7 : ∀ j, j < 3 → defaultValue (tyX7 j) = vp_V [.null, .null, .int 0] j := fun j hj => by
  rcases (by omega : j = 0 ∨ j = 1 ∨ j = 2) with rfl | rfl | rfl <;> rfl
theorem dfX8 : ∀ j, j < 12 → defaultValue (tyX8 j) = vp_V [.null, .int 0, .int 0, .int 0, .null, .null, .null, .int 0, .null, .int 0, .int 0, .int 0] j := fun j hj => by
  rcases (by omega : j = 0 ∨ j = 1 ∨ j = 2 ∨ j = 3 ∨ j = 4 ∨ j = 5 ∨ j = 6 ∨ j = 7 ∨ j = 8 ∨ j = 9 ∨ j = 10 ∨ j = 11) with rfl | rfl | rfl | rfl | rfl | rfl | rfl | rfl | rfl | rfl | rfl | rfl <;> rfl
theorem dfX9 : ∀ j, j < 5 → defaultValue (tyX9 j) = vp_V [.null, .null, .null, .null, .int 0] j := fun j hj => by
  rcases (by omega : j = 0 ∨ j = 1 ∨ j = 2 ∨ j = 3 ∨ j = 4) with rfl | rfl | rfl | rfl | rfl <;> rfl
theorem dfX10 : ∀ j, j < 28 → defaultValue (tyX10 j) = vp_V [.null, .int 0, .null, .int 0, .null, .int 0, .null, .null, .int 0, .null, .int 0, .null, .null, .null, .null, .null, .null, .null, .null, .int 0, .int 0, .int 0, .int 0, .null, .null, .null, .int 0, .int 0] j := fun j hj => by
  rcases (by omega : j = 0 ∨ j = 1 ∨ j = 2 ∨ j = 3 ∨ j = 4 ∨ j = 5 ∨ j = 6 ∨ j = 7 ∨ j = 8 ∨ j = 9 ∨ j = 10 ∨ j = 11 ∨ j = 12 ∨ j = 13 ∨ j = 14 ∨ j = 15 ∨ j = 16 ∨ j = 17 ∨ j = 18 ∨ j = 19 ∨ j = 20 ∨ j = 21 ∨ j = 22 ∨ j = 23 ∨ j = 24 ∨ j = 25 ∨ j = 26 ∨ j = 27) with rfl | rfl | rfl | rfl | rfl | rfl | rfl | rfl | rfl | rfl | rfl | rfl | rfl | rfl | rfl | rfl | rfl | rfl | rfl | rfl | rfl | rfl | rfl | rfl | rfl | rfl | rfl | rfl <;> rfl
theorem b6_ {g : GG} {E : Nat → va_E} {o : Nat} (hk : kd o = 6) (hE : E o = .inr (6, [.int 0, .int 0, .int 0, .int 0, .int 0, .int 0, .int 0, .int 0, .int 0])) : Ctb g yX6_init cX6_init 1 1 40 0 0 [.ref (ad g o)] (o + 1) E (o + 1) (FinB g E o (o + 1)) := by
  refine bt_of (own := RX6) (lv := [some (.ref (ad g o))]) rfl rfl (by decide) (Nat.le_of_ble_eq_true rfl) (by intro u hu; simp only [List.mem_cons, List.not_mem_nil, or_false] at hu; rcases hu with rfl <;> rfl) (lv_ok [.ref (ad g o)] 0) ?_
  refine bw_aload_n dX6_init_0 rfl ?_
  refine bw_obj dX6_init_1 kI6_3 (Nat.le_of_ble_eq_true rfl) (Nat.le_of_ble_eq_true rfl) ?_
  refine bw_ret dX6_init_4 (Nat.le_of_ble_eq_true rfl) (Nat.le_of_ble_eq_true rfl) ⟨fun k _ => rfl, fun k h1 h2 => ?_⟩
  obtain rfl : k = o := by omega
  exact hE.trans (cl_is hk rfl)
theorem kd_rule {i : Nat} (h : i < 24) : kd (26 + i) = 6 := by
  have : ∀ i, i < 24 → kd (26 + i) = 6 := by decide +kernel
  exact this i h
set_option maxHeartbeats 4000000 in
set_option maxRecDepth 100000 in
theorem b7_24 {g : GG} {E : Nat → va_E} (hE : E 24 = .inr (7, [.null, .null, .int 0])) : Ctb g yX7_init cX7_init 2 2 62 26 264 [.ref (ad g 24)] 25 E 51 (FinB g E 24 51) := by
  refine bt_of (own := RX7) (lv := [some (.ref (ad g 24)), none]) rfl rfl (by decide) (Nat.le_of_ble_eq_true rfl) (by intro u hu; simp only [List.mem_cons, List.not_mem_nil, or_false] at hu; rcases hu with rfl <;> rfl) (lv_ok [.ref (ad g 24)] 1) ?_
  refine bw_aload_n dX7_init_0 rfl ?_
  refine bw_obj dX7_init_1 kI7_3 (Nat.le_of_ble_eq_true rfl) (Nat.le_of_ble_eq_true rfl) ?_
  refine bw_aload_n dX7_init_4 rfl ?_
  refine bw_bi (nI 24) dX7_init_5 (by decide) ?_
  refine bw_anew_Rule (N := 24) dX7_init_7 kc7_9 rfl (by decide) (Nat.le_of_ble_eq_true rfl) (Nat.le_of_ble_eq_true rfl) ?_
  refine bw_N (n' := 26) (cu' := 1) (su' := 24) rfl rfl rfl ?_
  refine bw_put (ci := 7) (k := 0) (o := 24) (fs := [.null, .null, .int 0]) (v := .ref (ad g 25)) (ty := tyX7 0) dX7_init_10 inX7 tyX7_ok nmX7 rfl (by decide) ((updE_n (by decide)).trans hE) (by decide) rfl rfl rfl rfl rfl (Nat.le_of_ble_eq_true rfl) kf7_11 ?_
  refine bw_ic (nI 0) dX7_init_13 (by decide) ?_
  refine bw_istore_n dX7_init_14 (Nat.le_of_ble_eq_true rfl) ?_
  refine bw_for (fun i n E' cu su => n = 26 + i ∧ cu = 1 + i ∧ su = 24 + 9 * i ∧ (∀ k, k < 24 → E' k = E k) ∧ E' 24 = .inr (7, [.ref (ad g 25), .null, .int 0]) ∧ (∃ f, E' 25 = .inl (g.2.2.2.2.1 3, 24, .inr (.inr (.inr (.inr f)))) ∧ ∀ j, j < i → f j = some (ad g (25 + 1 + j))) ∧ ∀ j, j < i → E' (26 + j) = cl_ g S0 (26 + j)) (fun i => [some (.ref (ad g 24)), some (.int (nI i))]) 24 ?_ ?_ 0 _ _ _ _ (by omega) ⟨rfl, rfl, rfl, fun k hk => (updE_n (by omega)).trans (updE_n (by omega)), updE_s _ _ _, ⟨_, (updE_n (by decide)).trans (updE_s _ _ _), fun j hj => absurd hj (Nat.not_lt_zero j)⟩, fun j hj => absurd hj (Nat.not_lt_zero j)⟩
  · rintro i n E1 cu su hi ⟨rfl, rfl, rfl, a1, a2, ⟨f, a3, a4⟩, a5⟩ ih
    refine bw_iload_n dX7_init_15 rfl ?_
    refine bw_bi (nI 24) dX7_init_16 (by decide) ?_
    refine bw_icmp_geN dX7_init_18 rfl rfl (by omega) (by decide) (fun h => absurd h (by omega)) (fun _ => ?_)
    refine bw_aload_n dX7_init_21 rfl ?_
    refine bw_get (ci := 7) (k := 0) (o := 24) (fs := [.ref (ad g 25), .null, .int 0]) (v := .ref (ad g 25)) dX7_init_22 inX7 rfl (by omega) a2 (by decide) rfl rfl kf7_11 ?_
    refine bw_iload_n dX7_init_25 rfl ?_
    refine bw_new (ci := 6) (fs := [.int 0, .int 0, .int 0, .int 0, .int 0, .int 0, .int 0, .int 0, .int 0]) dX7_init_26 inX6 tyX6_ok rfl dfX6 kc7_9 ki6 kn6 (by show _ ≤ 26; omega) (by show _ ≤ 264; omega) ?_
    refine bw_dup dX7_init_29 rfl ?_
    refine bw_callN (idx := 17) (o := 26 + i) dX7_init_30 rfl okI6 (Nat.le_of_ble_eq_true rfl) ⟨Nat.le_of_ble_eq_true rfl, Nat.le_of_ble_eq_true rfl⟩ ⟨by show _ ≤ 26; omega, by show _ ≤ 264; omega⟩ (b6_ (kd_rule hi) (updE_s _ _ _)) rfl (fun E2 h => ?_)
    have c24 : E2 24 = .inr (7, [.ref (ad g 25), .null, .int 0]) := (h.1 24 (by omega)).trans ((updE_n (by omega)).trans a2)
    have c25 : E2 25 = .inl (g.2.2.2.2.1 3, 24, .inr (.inr (.inr (.inr f)))) := (h.1 25 (by omega)).trans ((updE_n (by omega)).trans a3)
    refine bw_aast (o := 25) (q := 26 + i) (ci := 6) (t0 := 3) (n := 24) (i := i) (f := f) (r := (RX6, TX6, 9)) dX7_init_33 (by omega) (by omega) c25 ((h.2 (26 + i) (by omega) (by omega)).trans (cl_k (kd_rule hi))) rfl rfl rfl hi (by decide) ?_
    refine bw_inc (nI (i + 1)) dX7_init_34 rfl (Nat.le_of_ble_eq_true rfl) (nI_1 i) ?_
    refine bw_goto dX7_init_37 ?_
    refine ih _ _ _ _ ⟨by omega, by omega, by omega, fun k hk => (updE_n (by omega)).trans ((h.1 k (by omega)).trans ((updE_n (by omega)).trans (a1 k hk))), (updE_n (by decide)).trans c24, ⟨_, updE_s _ _ _, fun j hj => ?_⟩, fun j hj => ?_⟩
    · unfold va_up
      by_cases z : j = i
      · rw [if_pos z, z]
      · rw [if_neg z]
        exact a4 j (by omega)
    · by_cases z : j = i
      · rw [z]
        exact (updE_n (by omega)).trans (h.2 (26 + i) (by omega) (by omega))
      · exact (updE_n (by omega)).trans ((h.1 (26 + j) (by omega)).trans ((updE_n (by omega)).trans (a5 j (by omega))))
  · rintro n E1 cu su ⟨rfl, rfl, rfl, a1, a2, ⟨f, a3, a4⟩, a5⟩
    refine bw_N (n' := 50) (cu' := 25) (su' := 240) rfl rfl rfl ?_
    refine bw_iload_n dX7_init_15 rfl ?_
    refine bw_bi (nI 24) dX7_init_16 (by decide) ?_
    refine bw_icmp_geN dX7_init_18 rfl rfl (by decide) (by decide) (fun _ => ?_) (fun h => absurd h (by decide))
    refine bw_aload_n dX7_init_40 rfl ?_
    refine bw_bi (nI 24) dX7_init_41 (by decide) ?_
    refine bw_newa_int (N := 24) dX7_init_43 rfl (by decide) (Nat.le_of_ble_eq_true rfl) (Nat.le_of_ble_eq_true rfl) ?_
    refine bw_N (n' := 51) (cu' := 26) (su' := 264) rfl rfl rfl ?_
    refine bw_put (ci := 7) (k := 1) (o := 24) (fs := [.ref (ad g 25), .null, .int 0]) (v := .ref (ad g 50)) (ty := tyX7 1) dX7_init_45 inX7 tyX7_ok nmX7 rfl (by decide) ((updE_n (by decide)).trans a2) (by decide) rfl rfl rfl rfl rfl (Nat.le_of_ble_eq_true rfl) kf7_18 ?_
    refine bw_cell (o := 25) (N := 24) (f := f) (f' := fun k => some (ad g (25 + 1 + k))) (by decide) ((updE_n (by decide)).trans ((updE_n (by decide)).trans a3)) a4 ?_
    refine bw_ret dX7_init_48 (Nat.le_of_ble_eq_true rfl) (Nat.le_of_ble_eq_true rfl) ⟨fun k hk => (updE_n (by omega)).trans ((updE_n (by omega)).trans ((updE_n (by omega)).trans (a1 k hk))), fun k h1_ h2_ => ?_⟩
    rcases (by omega : k = 24 ∨ k = 25 ∨ (26 ≤ k ∧ k < 50) ∨ k = 50) with rfl | rfl | hr | rfl
    · exact (updE_n (by decide)).trans ((updE_s _ _ _).trans (cl_is k_24 rfl))
    · exact (updE_s _ _ _).trans (cl_is k_25 rfl)
    · have := a5 (k - 26) (by omega)
      rw [show 26 + (k - 26) = k by omega] at this
      exact (updE_n (by omega)).trans ((updE_n (by omega)).trans ((updE_n (by omega)).trans this))
    · exact (updE_n (by decide)).trans ((updE_n (by decide)).trans ((updE_s _ _ _).trans (cl_is k_50 rfl)))
set_option maxHeartbeats 4000000 in
set_option maxRecDepth 100000 in
theorem b5_2 {g : GG} {E : Nat → va_E} (hE : E 2 = .inr (5, [.null, .int 0, .int 0])) : Ctb g yX5_init cX5_init 2 1 40 1 96 [.ref (ad g 2), .int (nI 24)] 3 E 4 (FinB g E 2 4) := by
  refine bt_of (own := RX5) (lv := [some (.ref (ad g 2)), some (.int (nI 24))]) rfl rfl (by decide) (Nat.le_of_ble_eq_true rfl) (by intro u hu; simp only [List.mem_cons, List.not_mem_nil, or_false] at hu; rcases hu with rfl | rfl <;> rfl) (lv_ok [.ref (ad g 2), .int (nI 24)] 0) ?_
  refine bw_aload_n dX5_init_0 rfl ?_
  refine bw_obj dX5_init_1 kI5_3 (Nat.le_of_ble_eq_true rfl) (Nat.le_of_ble_eq_true rfl) ?_
  refine bw_aload_n dX5_init_4 rfl ?_
  refine bw_ic (nI 0) dX5_init_5 (by decide) ?_
  refine bw_iload_n dX5_init_6 rfl ?_
  refine bw_max dX5_init_7 km5_9 ⟨Nat.le_of_ble_eq_true rfl, Nat.le_of_ble_eq_true rfl⟩ ⟨Nat.le_of_ble_eq_true rfl, Nat.le_of_ble_eq_true rfl⟩ ?_
  refine bw_eq (show _ = nI 24 by decide) ?_
  refine bw_put (ci := 5) (k := 1) (o := 2) (fs := [.null, .int 0, .int 0]) (v := .int (nI 24)) (ty := tyX5 1) dX5_init_10 inX5 tyX5_ok nmX5 rfl (by decide) hE (by decide) rfl rfl rfl rfl rfl (Nat.le_of_ble_eq_true rfl) kf5_15 ?_
  refine bw_aload_n dX5_init_13 rfl ?_
  refine bw_aload_n dX5_init_14 rfl ?_
  refine bw_get (ci := 5) (k := 1) (o := 2) (fs := [.null, .int (nI 24), .int 0]) (v := .int (nI 24)) dX5_init_15 inX5 rfl (by decide) (updE_s _ _ _) (by decide) rfl rfl kf5_15 ?_
  refine bw_ic (nI 4) dX5_init_18 (by decide) ?_
  refine bw_imul dX5_init_19 ?_
  refine bw_eq (show _ = nI 96 by decide) ?_
  refine bw_newa_int (N := 96) dX5_init_20 rfl (by decide) (Nat.le_of_ble_eq_true rfl) (Nat.le_of_ble_eq_true rfl) ?_
  refine bw_N (n' := 4) (cu' := 1) (su' := 96) rfl rfl rfl ?_
  refine bw_put (ci := 5) (k := 0) (o := 2) (fs := [.null, .int (nI 24), .int 0]) (v := .ref (ad g 3)) (ty := tyX5 0) dX5_init_22 inX5 tyX5_ok nmX5 rfl (by decide) ((updE_n (by decide)).trans (updE_s _ _ _)) (by decide) rfl rfl rfl rfl rfl (Nat.le_of_ble_eq_true rfl) kf5_21 ?_
  refine bw_ret dX5_init_25 (Nat.le_of_ble_eq_true rfl) (Nat.le_of_ble_eq_true rfl) ⟨fun k hk => ?_, fun k h1_ h2_ => ?_⟩
  · exact ((updE_n (by omega)).trans ((updE_n (by omega)).trans ((updE_n (by omega)).trans rfl)))
  · rcases (by omega : k = 2 ∨ k = 3) with rfl | rfl
    · exact ((updE_s _ _ _).trans (cl_is k_2 rfl))
    · exact ((updE_n (by decide)).trans ((updE_s _ _ _).trans (cl_is k_3 rfl)))
set_option maxHeartbeats 4000000 in
set_option maxRecDepth 100000 in
theorem b5_4 {g : GG} {E : Nat → va_E} (hE : E 4 = .inr (5, [.null, .int 0, .int 0])) : Ctb g yX5_init cX5_init 2 1 40 1 80 [.ref (ad g 4), .int (nI 20)] 5 E 6 (FinB g E 4 6) := by
  refine bt_of (own := RX5) (lv := [some (.ref (ad g 4)), some (.int (nI 20))]) rfl rfl (by decide) (Nat.le_of_ble_eq_true rfl) (by intro u hu; simp only [List.mem_cons, List.not_mem_nil, or_false] at hu; rcases hu with rfl | rfl <;> rfl) (lv_ok [.ref (ad g 4), .int (nI 20)] 0) ?_
  refine bw_aload_n dX5_init_0 rfl ?_
  refine bw_obj dX5_init_1 kI5_3 (Nat.le_of_ble_eq_true rfl) (Nat.le_of_ble_eq_true rfl) ?_
  refine bw_aload_n dX5_init_4 rfl ?_
  refine bw_ic (nI 0) dX5_init_5 (by decide) ?_
  refine bw_iload_n dX5_init_6 rfl ?_
  refine bw_max dX5_init_7 km5_9 ⟨Nat.le_of_ble_eq_true rfl, Nat.le_of_ble_eq_true rfl⟩ ⟨Nat.le_of_ble_eq_true rfl, Nat.le_of_ble_eq_true rfl⟩ ?_
  refine bw_eq (show _ = nI 20 by decide) ?_
  refine bw_put (ci := 5) (k := 1) (o := 4) (fs := [.null, .int 0, .int 0]) (v := .int (nI 20)) (ty := tyX5 1) dX5_init_10 inX5 tyX5_ok nmX5 rfl (by decide) hE (by decide) rfl rfl rfl rfl rfl (Nat.le_of_ble_eq_true rfl) kf5_15 ?_
  refine bw_aload_n dX5_init_13 rfl ?_
  refine bw_aload_n dX5_init_14 rfl ?_
  refine bw_get (ci := 5) (k := 1) (o := 4) (fs := [.null, .int (nI 20), .int 0]) (v := .int (nI 20)) dX5_init_15 inX5 rfl (by decide) (updE_s _ _ _) (by decide) rfl rfl kf5_15 ?_
  refine bw_ic (nI 4) dX5_init_18 (by decide) ?_
  refine bw_imul dX5_init_19 ?_
  refine bw_eq (show _ = nI 80 by decide) ?_
  refine bw_newa_int (N := 80) dX5_init_20 rfl (by decide) (Nat.le_of_ble_eq_true rfl) (Nat.le_of_ble_eq_true rfl) ?_
  refine bw_N (n' := 6) (cu' := 1) (su' := 80) rfl rfl rfl ?_
  refine bw_put (ci := 5) (k := 0) (o := 4) (fs := [.null, .int (nI 20), .int 0]) (v := .ref (ad g 5)) (ty := tyX5 0) dX5_init_22 inX5 tyX5_ok nmX5 rfl (by decide) ((updE_n (by decide)).trans (updE_s _ _ _)) (by decide) rfl rfl rfl rfl rfl (Nat.le_of_ble_eq_true rfl) kf5_21 ?_
  refine bw_ret dX5_init_25 (Nat.le_of_ble_eq_true rfl) (Nat.le_of_ble_eq_true rfl) ⟨fun k hk => ?_, fun k h1_ h2_ => ?_⟩
  · exact ((updE_n (by omega)).trans ((updE_n (by omega)).trans ((updE_n (by omega)).trans rfl)))
  · rcases (by omega : k = 4 ∨ k = 5) with rfl | rfl
    · exact ((updE_s _ _ _).trans (cl_is k_4 rfl))
    · exact ((updE_n (by decide)).trans ((updE_s _ _ _).trans (cl_is k_5 rfl)))
set_option maxHeartbeats 4000000 in
set_option maxRecDepth 100000 in
theorem b3_1 {g : GG} {E : Nat → va_E} (hE : E 1 = .inr (3, [.null, .null, .null])) : Ctb g yX3_init cX3_init 1 2 63 5 185 [.ref (ad g 1)] 2 E 7 (FinB g E 1 7) := by
  refine bt_of (own := RX3) (lv := [some (.ref (ad g 1))]) rfl rfl (by decide) (Nat.le_of_ble_eq_true rfl) (by intro u hu; simp only [List.mem_cons, List.not_mem_nil, or_false] at hu; rcases hu with rfl <;> rfl) (lv_ok [.ref (ad g 1)] 0) ?_
  refine bw_aload_n dX3_init_0 rfl ?_
  refine bw_obj dX3_init_1 kI3_3 (Nat.le_of_ble_eq_true rfl) (Nat.le_of_ble_eq_true rfl) ?_
  refine bw_aload_n dX3_init_4 rfl ?_
  refine bw_new (ci := 5) (fs := [.null, .int 0, .int 0]) dX3_init_5 inX5 tyX5_ok rfl dfX5 kc3_9 ki5 kn5 (Nat.le_of_ble_eq_true rfl) (Nat.le_of_ble_eq_true rfl) ?_
  refine bw_N (n' := 3) (cu' := 1) (su' := 3) rfl rfl rfl ?_
  refine bw_dup dX3_init_8 rfl ?_
  refine bw_bi (nI 24) dX3_init_9 (by decide) ?_
  refine bw_call (o := 2) (As := [.int (nI 24)]) dX3_init_11 kI3_11 okI5 rfl rfl (Nat.le_of_ble_eq_true rfl) ⟨Nat.le_of_ble_eq_true rfl, Nat.le_of_ble_eq_true rfl⟩ ⟨Nat.le_of_ble_eq_true rfl, Nat.le_of_ble_eq_true rfl⟩ (b5_2 (updE_s _ _ _)) rfl (fun E1 h1 => ?_)
  refine bw_N (n' := 4) (cu' := 2) (su' := 99) rfl rfl rfl ?_
  refine bw_put (ci := 3) (k := 0) (o := 1) (fs := [.null, .null, .null]) (v := .ref (ad g 2)) (ty := tyX3 0) dX3_init_14 inX3 tyX3_ok nmX3 rfl (by decide) ((h1.1 1 (by decide)).trans ((updE_n (by decide)).trans hE)) (by decide) rfl rfl rfl rfl rfl (Nat.le_of_ble_eq_true rfl) kf3_14 ?_
  refine bw_aload_n dX3_init_17 rfl ?_
  refine bw_new (ci := 5) (fs := [.null, .int 0, .int 0]) dX3_init_18 inX5 tyX5_ok rfl dfX5 kc3_9 ki5 kn5 (Nat.le_of_ble_eq_true rfl) (Nat.le_of_ble_eq_true rfl) ?_
  refine bw_N (n' := 5) (cu' := 3) (su' := 102) rfl rfl rfl ?_
  refine bw_dup dX3_init_21 rfl ?_
  refine bw_bi (nI 20) dX3_init_22 (by decide) ?_
  refine bw_call (o := 4) (As := [.int (nI 20)]) dX3_init_24 kI3_11 okI5 rfl rfl (Nat.le_of_ble_eq_true rfl) ⟨Nat.le_of_ble_eq_true rfl, Nat.le_of_ble_eq_true rfl⟩ ⟨Nat.le_of_ble_eq_true rfl, Nat.le_of_ble_eq_true rfl⟩ (b5_4 (updE_s _ _ _)) rfl (fun E2 h2 => ?_)
  refine bw_N (n' := 6) (cu' := 4) (su' := 182) rfl rfl rfl ?_
  refine bw_put (ci := 3) (k := 1) (o := 1) (fs := [.ref (ad g 2), .null, .null]) (v := .ref (ad g 4)) (ty := tyX3 1) dX3_init_27 inX3 tyX3_ok nmX3 rfl (by decide) ((h2.1 1 (by decide)).trans ((updE_n (by decide)).trans (updE_s _ _ _))) (by decide) rfl rfl rfl rfl rfl (Nat.le_of_ble_eq_true rfl) kf3_20 ?_
  refine bw_aload_n dX3_init_30 rfl ?_
  refine bw_first dX3_init_31 rfl ?_
  refine bw_clone dX3_init_34 rfl (Nat.le_of_ble_eq_true rfl) (Nat.le_of_ble_eq_true rfl) (Nat.le_of_ble_eq_true rfl) (Nat.le_of_ble_eq_true rfl) ?_
  refine bw_N (n' := 7) (cu' := 5) (su' := 185) rfl rfl rfl ?_
  refine bw_cast (o := 6) (n := 3) (f := fF) dX3_init_37 kc3_28 (by decide) (updE_s _ _ _) ?_
  refine bw_put (ci := 3) (k := 2) (o := 1) (fs := [.ref (ad g 2), .ref (ad g 4), .null]) (v := .ref (ad g 6)) (ty := tyX3 2) dX3_init_40 inX3 tyX3_ok nmX3 rfl (by decide) ((updE_n (by decide)).trans (updE_s _ _ _)) (by decide) rfl rfl rfl rfl rfl (Nat.le_of_ble_eq_true rfl) kf3_32 ?_
  refine bw_ret dX3_init_43 (Nat.le_of_ble_eq_true rfl) (Nat.le_of_ble_eq_true rfl) ⟨fun k hk => ?_, fun k h1_ h2_ => ?_⟩
  · exact ((updE_n (by omega)).trans ((updE_n (by omega)).trans ((updE_n (by omega)).trans ((h2.1 k (by omega)).trans ((updE_n (by omega)).trans ((updE_n (by omega)).trans ((h1.1 k (by omega)).trans ((updE_n (by omega)).trans rfl))))))))
  · rcases (by omega : k = 1 ∨ (2 ≤ k ∧ k < 4) ∨ (4 ≤ k ∧ k < 6) ∨ k = 6) with rfl | hr | hr | rfl
    · exact ((updE_s _ _ _).trans (cl_is k_1 rfl))
    · exact ((updE_n (by omega)).trans ((updE_n (by omega)).trans ((updE_n (by omega)).trans ((h2.1 k (by omega)).trans ((updE_n (by omega)).trans ((updE_n (by omega)).trans (h1.2 k (by omega) (by omega))))))))
    · exact ((updE_n (by omega)).trans ((updE_n (by omega)).trans ((updE_n (by omega)).trans (h2.2 k (by omega) (by omega)))))
    · exact ((updE_n (by decide)).trans ((updE_s _ _ _).trans (cl_is k_6 rfl)))
set_option maxHeartbeats 4000000 in
set_option maxRecDepth 100000 in
theorem b5_9 {g : GG} {E : Nat → va_E} (hE : E 9 = .inr (5, [.null, .int 0, .int 0])) : Ctb g yX5_init cX5_init 2 1 40 1 96 [.ref (ad g 9), .int (nI 24)] 10 E 11 (FinB g E 9 11) := by
  refine bt_of (own := RX5) (lv := [some (.ref (ad g 9)), some (.int (nI 24))]) rfl rfl (by decide) (Nat.le_of_ble_eq_true rfl) (by intro u hu; simp only [List.mem_cons, List.not_mem_nil, or_false] at hu; rcases hu with rfl | rfl <;> rfl) (lv_ok [.ref (ad g 9), .int (nI 24)] 0) ?_
  refine bw_aload_n dX5_init_0 rfl ?_
  refine bw_obj dX5_init_1 kI5_3 (Nat.le_of_ble_eq_true rfl) (Nat.le_of_ble_eq_true rfl) ?_
  refine bw_aload_n dX5_init_4 rfl ?_
  refine bw_ic (nI 0) dX5_init_5 (by decide) ?_
  refine bw_iload_n dX5_init_6 rfl ?_
  refine bw_max dX5_init_7 km5_9 ⟨Nat.le_of_ble_eq_true rfl, Nat.le_of_ble_eq_true rfl⟩ ⟨Nat.le_of_ble_eq_true rfl, Nat.le_of_ble_eq_true rfl⟩ ?_
  refine bw_eq (show _ = nI 24 by decide) ?_
  refine bw_put (ci := 5) (k := 1) (o := 9) (fs := [.null, .int 0, .int 0]) (v := .int (nI 24)) (ty := tyX5 1) dX5_init_10 inX5 tyX5_ok nmX5 rfl (by decide) hE (by decide) rfl rfl rfl rfl rfl (Nat.le_of_ble_eq_true rfl) kf5_15 ?_
  refine bw_aload_n dX5_init_13 rfl ?_
  refine bw_aload_n dX5_init_14 rfl ?_
  refine bw_get (ci := 5) (k := 1) (o := 9) (fs := [.null, .int (nI 24), .int 0]) (v := .int (nI 24)) dX5_init_15 inX5 rfl (by decide) (updE_s _ _ _) (by decide) rfl rfl kf5_15 ?_
  refine bw_ic (nI 4) dX5_init_18 (by decide) ?_
  refine bw_imul dX5_init_19 ?_
  refine bw_eq (show _ = nI 96 by decide) ?_
  refine bw_newa_int (N := 96) dX5_init_20 rfl (by decide) (Nat.le_of_ble_eq_true rfl) (Nat.le_of_ble_eq_true rfl) ?_
  refine bw_N (n' := 11) (cu' := 1) (su' := 96) rfl rfl rfl ?_
  refine bw_put (ci := 5) (k := 0) (o := 9) (fs := [.null, .int (nI 24), .int 0]) (v := .ref (ad g 10)) (ty := tyX5 0) dX5_init_22 inX5 tyX5_ok nmX5 rfl (by decide) ((updE_n (by decide)).trans (updE_s _ _ _)) (by decide) rfl rfl rfl rfl rfl (Nat.le_of_ble_eq_true rfl) kf5_21 ?_
  refine bw_ret dX5_init_25 (Nat.le_of_ble_eq_true rfl) (Nat.le_of_ble_eq_true rfl) ⟨fun k hk => ?_, fun k h1_ h2_ => ?_⟩
  · exact ((updE_n (by omega)).trans ((updE_n (by omega)).trans ((updE_n (by omega)).trans rfl)))
  · rcases (by omega : k = 9 ∨ k = 10) with rfl | rfl
    · exact ((updE_s _ _ _).trans (cl_is k_9 rfl))
    · exact ((updE_n (by decide)).trans ((updE_s _ _ _).trans (cl_is k_10 rfl)))
set_option maxHeartbeats 4000000 in
set_option maxRecDepth 100000 in
theorem b5_11 {g : GG} {E : Nat → va_E} (hE : E 11 = .inr (5, [.null, .int 0, .int 0])) : Ctb g yX5_init cX5_init 2 1 40 1 80 [.ref (ad g 11), .int (nI 20)] 12 E 13 (FinB g E 11 13) := by
  refine bt_of (own := RX5) (lv := [some (.ref (ad g 11)), some (.int (nI 20))]) rfl rfl (by decide) (Nat.le_of_ble_eq_true rfl) (by intro u hu; simp only [List.mem_cons, List.not_mem_nil, or_false] at hu; rcases hu with rfl | rfl <;> rfl) (lv_ok [.ref (ad g 11), .int (nI 20)] 0) ?_
  refine bw_aload_n dX5_init_0 rfl ?_
  refine bw_obj dX5_init_1 kI5_3 (Nat.le_of_ble_eq_true rfl) (Nat.le_of_ble_eq_true rfl) ?_
  refine bw_aload_n dX5_init_4 rfl ?_
  refine bw_ic (nI 0) dX5_init_5 (by decide) ?_
  refine bw_iload_n dX5_init_6 rfl ?_
  refine bw_max dX5_init_7 km5_9 ⟨Nat.le_of_ble_eq_true rfl, Nat.le_of_ble_eq_true rfl⟩ ⟨Nat.le_of_ble_eq_true rfl, Nat.le_of_ble_eq_true rfl⟩ ?_
  refine bw_eq (show _ = nI 20 by decide) ?_
  refine bw_put (ci := 5) (k := 1) (o := 11) (fs := [.null, .int 0, .int 0]) (v := .int (nI 20)) (ty := tyX5 1) dX5_init_10 inX5 tyX5_ok nmX5 rfl (by decide) hE (by decide) rfl rfl rfl rfl rfl (Nat.le_of_ble_eq_true rfl) kf5_15 ?_
  refine bw_aload_n dX5_init_13 rfl ?_
  refine bw_aload_n dX5_init_14 rfl ?_
  refine bw_get (ci := 5) (k := 1) (o := 11) (fs := [.null, .int (nI 20), .int 0]) (v := .int (nI 20)) dX5_init_15 inX5 rfl (by decide) (updE_s _ _ _) (by decide) rfl rfl kf5_15 ?_
  refine bw_ic (nI 4) dX5_init_18 (by decide) ?_
  refine bw_imul dX5_init_19 ?_
  refine bw_eq (show _ = nI 80 by decide) ?_
  refine bw_newa_int (N := 80) dX5_init_20 rfl (by decide) (Nat.le_of_ble_eq_true rfl) (Nat.le_of_ble_eq_true rfl) ?_
  refine bw_N (n' := 13) (cu' := 1) (su' := 80) rfl rfl rfl ?_
  refine bw_put (ci := 5) (k := 0) (o := 11) (fs := [.null, .int (nI 20), .int 0]) (v := .ref (ad g 12)) (ty := tyX5 0) dX5_init_22 inX5 tyX5_ok nmX5 rfl (by decide) ((updE_n (by decide)).trans (updE_s _ _ _)) (by decide) rfl rfl rfl rfl rfl (Nat.le_of_ble_eq_true rfl) kf5_21 ?_
  refine bw_ret dX5_init_25 (Nat.le_of_ble_eq_true rfl) (Nat.le_of_ble_eq_true rfl) ⟨fun k hk => ?_, fun k h1_ h2_ => ?_⟩
  · exact ((updE_n (by omega)).trans ((updE_n (by omega)).trans ((updE_n (by omega)).trans rfl)))
  · rcases (by omega : k = 11 ∨ k = 12) with rfl | rfl
    · exact ((updE_s _ _ _).trans (cl_is k_11 rfl))
    · exact ((updE_n (by decide)).trans ((updE_s _ _ _).trans (cl_is k_12 rfl)))
set_option maxHeartbeats 4000000 in
set_option maxRecDepth 100000 in
theorem b3_8 {g : GG} {E : Nat → va_E} (hE : E 8 = .inr (3, [.null, .null, .null])) : Ctb g yX3_init cX3_init 1 2 63 5 185 [.ref (ad g 8)] 9 E 14 (FinB g E 8 14) := by
  refine bt_of (own := RX3) (lv := [some (.ref (ad g 8))]) rfl rfl (by decide) (Nat.le_of_ble_eq_true rfl) (by intro u hu; simp only [List.mem_cons, List.not_mem_nil, or_false] at hu; rcases hu with rfl <;> rfl) (lv_ok [.ref (ad g 8)] 0) ?_
  refine bw_aload_n dX3_init_0 rfl ?_
  refine bw_obj dX3_init_1 kI3_3 (Nat.le_of_ble_eq_true rfl) (Nat.le_of_ble_eq_true rfl) ?_
  refine bw_aload_n dX3_init_4 rfl ?_
  refine bw_new (ci := 5) (fs := [.null, .int 0, .int 0]) dX3_init_5 inX5 tyX5_ok rfl dfX5 kc3_9 ki5 kn5 (Nat.le_of_ble_eq_true rfl) (Nat.le_of_ble_eq_true rfl) ?_
  refine bw_N (n' := 10) (cu' := 1) (su' := 3) rfl rfl rfl ?_
  refine bw_dup dX3_init_8 rfl ?_
  refine bw_bi (nI 24) dX3_init_9 (by decide) ?_
  refine bw_call (o := 9) (As := [.int (nI 24)]) dX3_init_11 kI3_11 okI5 rfl rfl (Nat.le_of_ble_eq_true rfl) ⟨Nat.le_of_ble_eq_true rfl, Nat.le_of_ble_eq_true rfl⟩ ⟨Nat.le_of_ble_eq_true rfl, Nat.le_of_ble_eq_true rfl⟩ (b5_9 (updE_s _ _ _)) rfl (fun E1 h1 => ?_)
  refine bw_N (n' := 11) (cu' := 2) (su' := 99) rfl rfl rfl ?_
  refine bw_put (ci := 3) (k := 0) (o := 8) (fs := [.null, .null, .null]) (v := .ref (ad g 9)) (ty := tyX3 0) dX3_init_14 inX3 tyX3_ok nmX3 rfl (by decide) ((h1.1 8 (by decide)).trans ((updE_n (by decide)).trans hE)) (by decide) rfl rfl rfl rfl rfl (Nat.le_of_ble_eq_true rfl) kf3_14 ?_
  refine bw_aload_n dX3_init_17 rfl ?_
  refine bw_new (ci := 5) (fs := [.null, .int 0, .int 0]) dX3_init_18 inX5 tyX5_ok rfl dfX5 kc3_9 ki5 kn5 (Nat.le_of_ble_eq_true rfl) (Nat.le_of_ble_eq_true rfl) ?_
  refine bw_N (n' := 12) (cu' := 3) (su' := 102) rfl rfl rfl ?_
  refine bw_dup dX3_init_21 rfl ?_
  refine bw_bi (nI 20) dX3_init_22 (by decide) ?_
  refine bw_call (o := 11) (As := [.int (nI 20)]) dX3_init_24 kI3_11 okI5 rfl rfl (Nat.le_of_ble_eq_true rfl) ⟨Nat.le_of_ble_eq_true rfl, Nat.le_of_ble_eq_true rfl⟩ ⟨Nat.le_of_ble_eq_true rfl, Nat.le_of_ble_eq_true rfl⟩ (b5_11 (updE_s _ _ _)) rfl (fun E2 h2 => ?_)
  refine bw_N (n' := 13) (cu' := 4) (su' := 182) rfl rfl rfl ?_
  refine bw_put (ci := 3) (k := 1) (o := 8) (fs := [.ref (ad g 9), .null, .null]) (v := .ref (ad g 11)) (ty := tyX3 1) dX3_init_27 inX3 tyX3_ok nmX3 rfl (by decide) ((h2.1 8 (by decide)).trans ((updE_n (by decide)).trans (updE_s _ _ _))) (by decide) rfl rfl rfl rfl rfl (Nat.le_of_ble_eq_true rfl) kf3_20 ?_
  refine bw_aload_n dX3_init_30 rfl ?_
  refine bw_first dX3_init_31 rfl ?_
  refine bw_clone dX3_init_34 rfl (Nat.le_of_ble_eq_true rfl) (Nat.le_of_ble_eq_true rfl) (Nat.le_of_ble_eq_true rfl) (Nat.le_of_ble_eq_true rfl) ?_
  refine bw_N (n' := 14) (cu' := 5) (su' := 185) rfl rfl rfl ?_
  refine bw_cast (o := 13) (n := 3) (f := fF) dX3_init_37 kc3_28 (by decide) (updE_s _ _ _) ?_
  refine bw_put (ci := 3) (k := 2) (o := 8) (fs := [.ref (ad g 9), .ref (ad g 11), .null]) (v := .ref (ad g 13)) (ty := tyX3 2) dX3_init_40 inX3 tyX3_ok nmX3 rfl (by decide) ((updE_n (by decide)).trans (updE_s _ _ _)) (by decide) rfl rfl rfl rfl rfl (Nat.le_of_ble_eq_true rfl) kf3_32 ?_
  refine bw_ret dX3_init_43 (Nat.le_of_ble_eq_true rfl) (Nat.le_of_ble_eq_true rfl) ⟨fun k hk => ?_, fun k h1_ h2_ => ?_⟩
  · exact ((updE_n (by omega)).trans ((updE_n (by omega)).trans ((updE_n (by omega)).trans ((h2.1 k (by omega)).trans ((updE_n (by omega)).trans ((updE_n (by omega)).trans ((h1.1 k (by omega)).trans ((updE_n (by omega)).trans rfl))))))))
  · rcases (by omega : k = 8 ∨ (9 ≤ k ∧ k < 11) ∨ (11 ≤ k ∧ k < 13) ∨ k = 13) with rfl | hr | hr | rfl
    · exact ((updE_s _ _ _).trans (cl_is k_8 rfl))
    · exact ((updE_n (by omega)).trans ((updE_n (by omega)).trans ((updE_n (by omega)).trans ((h2.1 k (by omega)).trans ((updE_n (by omega)).trans ((updE_n (by omega)).trans (h1.2 k (by omega) (by omega))))))))
    · exact ((updE_n (by omega)).trans ((updE_n (by omega)).trans ((updE_n (by omega)).trans (h2.2 k (by omega) (by omega)))))
    · exact ((updE_n (by decide)).trans ((updE_s _ _ _).trans (cl_is k_13 rfl)))
set_option maxHeartbeats 4000000 in
set_option maxRecDepth 100000 in
theorem b5_15 {g : GG} {E : Nat → va_E} (hE : E 15 = .inr (5, [.null, .int 0, .int 0])) : Ctb g yX5_init cX5_init 2 1 40 1 96 [.ref (ad g 15), .int (nI 24)] 16 E 17 (FinB g E 15 17) := by
  refine bt_of (own := RX5) (lv := [some (.ref (ad g 15)), some (.int (nI 24))]) rfl rfl (by decide) (Nat.le_of_ble_eq_true rfl) (by intro u hu; simp only [List.mem_cons, List.not_mem_nil, or_false] at hu; rcases hu with rfl | rfl <;> rfl) (lv_ok [.ref (ad g 15), .int (nI 24)] 0) ?_
  refine bw_aload_n dX5_init_0 rfl ?_
  refine bw_obj dX5_init_1 kI5_3 (Nat.le_of_ble_eq_true rfl) (Nat.le_of_ble_eq_true rfl) ?_
  refine bw_aload_n dX5_init_4 rfl ?_
  refine bw_ic (nI 0) dX5_init_5 (by decide) ?_
  refine bw_iload_n dX5_init_6 rfl ?_
  refine bw_max dX5_init_7 km5_9 ⟨Nat.le_of_ble_eq_true rfl, Nat.le_of_ble_eq_true rfl⟩ ⟨Nat.le_of_ble_eq_true rfl, Nat.le_of_ble_eq_true rfl⟩ ?_
  refine bw_eq (show _ = nI 24 by decide) ?_
  refine bw_put (ci := 5) (k := 1) (o := 15) (fs := [.null, .int 0, .int 0]) (v := .int (nI 24)) (ty := tyX5 1) dX5_init_10 inX5 tyX5_ok nmX5 rfl (by decide) hE (by decide) rfl rfl rfl rfl rfl (Nat.le_of_ble_eq_true rfl) kf5_15 ?_
  refine bw_aload_n dX5_init_13 rfl ?_
  refine bw_aload_n dX5_init_14 rfl ?_
  refine bw_get (ci := 5) (k := 1) (o := 15) (fs := [.null, .int (nI 24), .int 0]) (v := .int (nI 24)) dX5_init_15 inX5 rfl (by decide) (updE_s _ _ _) (by decide) rfl rfl kf5_15 ?_
  refine bw_ic (nI 4) dX5_init_18 (by decide) ?_
  refine bw_imul dX5_init_19 ?_
  refine bw_eq (show _ = nI 96 by decide) ?_
  refine bw_newa_int (N := 96) dX5_init_20 rfl (by decide) (Nat.le_of_ble_eq_true rfl) (Nat.le_of_ble_eq_true rfl) ?_
  refine bw_N (n' := 17) (cu' := 1) (su' := 96) rfl rfl rfl ?_
  refine bw_put (ci := 5) (k := 0) (o := 15) (fs := [.null, .int (nI 24), .int 0]) (v := .ref (ad g 16)) (ty := tyX5 0) dX5_init_22 inX5 tyX5_ok nmX5 rfl (by decide) ((updE_n (by decide)).trans (updE_s _ _ _)) (by decide) rfl rfl rfl rfl rfl (Nat.le_of_ble_eq_true rfl) kf5_21 ?_
  refine bw_ret dX5_init_25 (Nat.le_of_ble_eq_true rfl) (Nat.le_of_ble_eq_true rfl) ⟨fun k hk => ?_, fun k h1_ h2_ => ?_⟩
  · exact ((updE_n (by omega)).trans ((updE_n (by omega)).trans ((updE_n (by omega)).trans rfl)))
  · rcases (by omega : k = 15 ∨ k = 16) with rfl | rfl
    · exact ((updE_s _ _ _).trans (cl_is k_15 rfl))
    · exact ((updE_n (by decide)).trans ((updE_s _ _ _).trans (cl_is k_16 rfl)))
set_option maxHeartbeats 4000000 in
set_option maxRecDepth 100000 in
theorem b5_17 {g : GG} {E : Nat → va_E} (hE : E 17 = .inr (5, [.null, .int 0, .int 0])) : Ctb g yX5_init cX5_init 2 1 40 1 80 [.ref (ad g 17), .int (nI 20)] 18 E 19 (FinB g E 17 19) := by
  refine bt_of (own := RX5) (lv := [some (.ref (ad g 17)), some (.int (nI 20))]) rfl rfl (by decide) (Nat.le_of_ble_eq_true rfl) (by intro u hu; simp only [List.mem_cons, List.not_mem_nil, or_false] at hu; rcases hu with rfl | rfl <;> rfl) (lv_ok [.ref (ad g 17), .int (nI 20)] 0) ?_
  refine bw_aload_n dX5_init_0 rfl ?_
  refine bw_obj dX5_init_1 kI5_3 (Nat.le_of_ble_eq_true rfl) (Nat.le_of_ble_eq_true rfl) ?_
  refine bw_aload_n dX5_init_4 rfl ?_
  refine bw_ic (nI 0) dX5_init_5 (by decide) ?_
  refine bw_iload_n dX5_init_6 rfl ?_
  refine bw_max dX5_init_7 km5_9 ⟨Nat.le_of_ble_eq_true rfl, Nat.le_of_ble_eq_true rfl⟩ ⟨Nat.le_of_ble_eq_true rfl, Nat.le_of_ble_eq_true rfl⟩ ?_
  refine bw_eq (show _ = nI 20 by decide) ?_
  refine bw_put (ci := 5) (k := 1) (o := 17) (fs := [.null, .int 0, .int 0]) (v := .int (nI 20)) (ty := tyX5 1) dX5_init_10 inX5 tyX5_ok nmX5 rfl (by decide) hE (by decide) rfl rfl rfl rfl rfl (Nat.le_of_ble_eq_true rfl) kf5_15 ?_
  refine bw_aload_n dX5_init_13 rfl ?_
  refine bw_aload_n dX5_init_14 rfl ?_
  refine bw_get (ci := 5) (k := 1) (o := 17) (fs := [.null, .int (nI 20), .int 0]) (v := .int (nI 20)) dX5_init_15 inX5 rfl (by decide) (updE_s _ _ _) (by decide) rfl rfl kf5_15 ?_
  refine bw_ic (nI 4) dX5_init_18 (by decide) ?_
  refine bw_imul dX5_init_19 ?_
  refine bw_eq (show _ = nI 80 by decide) ?_
  refine bw_newa_int (N := 80) dX5_init_20 rfl (by decide) (Nat.le_of_ble_eq_true rfl) (Nat.le_of_ble_eq_true rfl) ?_
  refine bw_N (n' := 19) (cu' := 1) (su' := 80) rfl rfl rfl ?_
  refine bw_put (ci := 5) (k := 0) (o := 17) (fs := [.null, .int (nI 20), .int 0]) (v := .ref (ad g 18)) (ty := tyX5 0) dX5_init_22 inX5 tyX5_ok nmX5 rfl (by decide) ((updE_n (by decide)).trans (updE_s _ _ _)) (by decide) rfl rfl rfl rfl rfl (Nat.le_of_ble_eq_true rfl) kf5_21 ?_
  refine bw_ret dX5_init_25 (Nat.le_of_ble_eq_true rfl) (Nat.le_of_ble_eq_true rfl) ⟨fun k hk => ?_, fun k h1_ h2_ => ?_⟩
  · exact ((updE_n (by omega)).trans ((updE_n (by omega)).trans ((updE_n (by omega)).trans rfl)))
  · rcases (by omega : k = 17 ∨ k = 18) with rfl | rfl
    · exact ((updE_s _ _ _).trans (cl_is k_17 rfl))
    · exact ((updE_n (by decide)).trans ((updE_s _ _ _).trans (cl_is k_18 rfl)))
set_option maxHeartbeats 4000000 in
set_option maxRecDepth 100000 in
theorem b3_14 {g : GG} {E : Nat → va_E} (hE : E 14 = .inr (3, [.null, .null, .null])) : Ctb g yX3_init cX3_init 1 2 63 5 185 [.ref (ad g 14)] 15 E 20 (FinB g E 14 20) := by
  refine bt_of (own := RX3) (lv := [some (.ref (ad g 14))]) rfl rfl (by decide) (Nat.le_of_ble_eq_true rfl) (by intro u hu; simp only [List.mem_cons, List.not_mem_nil, or_false] at hu; rcases hu with rfl <;> rfl) (lv_ok [.ref (ad g 14)] 0) ?_
  refine bw_aload_n dX3_init_0 rfl ?_
  refine bw_obj dX3_init_1 kI3_3 (Nat.le_of_ble_eq_true rfl) (Nat.le_of_ble_eq_true rfl) ?_
  refine bw_aload_n dX3_init_4 rfl ?_
  refine bw_new (ci := 5) (fs := [.null, .int 0, .int 0]) dX3_init_5 inX5 tyX5_ok rfl dfX5 kc3_9 ki5 kn5 (Nat.le_of_ble_eq_true rfl) (Nat.le_of_ble_eq_true rfl) ?_
  refine bw_N (n' := 16) (cu' := 1) (su' := 3) rfl rfl rfl ?_
  refine bw_dup dX3_init_8 rfl ?_
  refine bw_bi (nI 24) dX3_init_9 (by decide) ?_
  refine bw_call (o := 15) (As := [.int (nI 24)]) dX3_init_11 kI3_11 okI5 rfl rfl (Nat.le_of_ble_eq_true rfl) ⟨Nat.le_of_ble_eq_true rfl, Nat.le_of_ble_eq_true rfl⟩ ⟨Nat.le_of_ble_eq_true rfl, Nat.le_of_ble_eq_true rfl⟩ (b5_15 (updE_s _ _ _)) rfl (fun E1 h1 => ?_)
  refine bw_N (n' := 17) (cu' := 2) (su' := 99) rfl rfl rfl ?_
  refine bw_put (ci := 3) (k := 0) (o := 14) (fs := [.null, .null, .null]) (v := .ref (ad g 15)) (ty := tyX3 0) dX3_init_14 inX3 tyX3_ok nmX3 rfl (by decide) ((h1.1 14 (by decide)).trans ((updE_n (by decide)).trans hE)) (by decide) rfl rfl rfl rfl rfl (Nat.le_of_ble_eq_true rfl) kf3_14 ?_
  refine bw_aload_n dX3_init_17 rfl ?_
  refine bw_new (ci := 5) (fs := [.null, .int 0, .int 0]) dX3_init_18 inX5 tyX5_ok rfl dfX5 kc3_9 ki5 kn5 (Nat.le_of_ble_eq_true rfl) (Nat.le_of_ble_eq_true rfl) ?_
  refine bw_N (n' := 18) (cu' := 3) (su' := 102) rfl rfl rfl ?_
  refine bw_dup dX3_init_21 rfl ?_
  refine bw_bi (nI 20) dX3_init_22 (by decide) ?_
  refine bw_call (o := 17) (As := [.int (nI 20)]) dX3_init_24 kI3_11 okI5 rfl rfl (Nat.le_of_ble_eq_true rfl) ⟨Nat.le_of_ble_eq_true rfl, Nat.le_of_ble_eq_true rfl⟩ ⟨Nat.le_of_ble_eq_true rfl, Nat.le_of_ble_eq_true rfl⟩ (b5_17 (updE_s _ _ _)) rfl (fun E2 h2 => ?_)
  refine bw_N (n' := 19) (cu' := 4) (su' := 182) rfl rfl rfl ?_
  refine bw_put (ci := 3) (k := 1) (o := 14) (fs := [.ref (ad g 15), .null, .null]) (v := .ref (ad g 17)) (ty := tyX3 1) dX3_init_27 inX3 tyX3_ok nmX3 rfl (by decide) ((h2.1 14 (by decide)).trans ((updE_n (by decide)).trans (updE_s _ _ _))) (by decide) rfl rfl rfl rfl rfl (Nat.le_of_ble_eq_true rfl) kf3_20 ?_
  refine bw_aload_n dX3_init_30 rfl ?_
  refine bw_first dX3_init_31 rfl ?_
  refine bw_clone dX3_init_34 rfl (Nat.le_of_ble_eq_true rfl) (Nat.le_of_ble_eq_true rfl) (Nat.le_of_ble_eq_true rfl) (Nat.le_of_ble_eq_true rfl) ?_
  refine bw_N (n' := 20) (cu' := 5) (su' := 185) rfl rfl rfl ?_
  refine bw_cast (o := 19) (n := 3) (f := fF) dX3_init_37 kc3_28 (by decide) (updE_s _ _ _) ?_
  refine bw_put (ci := 3) (k := 2) (o := 14) (fs := [.ref (ad g 15), .ref (ad g 17), .null]) (v := .ref (ad g 19)) (ty := tyX3 2) dX3_init_40 inX3 tyX3_ok nmX3 rfl (by decide) ((updE_n (by decide)).trans (updE_s _ _ _)) (by decide) rfl rfl rfl rfl rfl (Nat.le_of_ble_eq_true rfl) kf3_32 ?_
  refine bw_ret dX3_init_43 (Nat.le_of_ble_eq_true rfl) (Nat.le_of_ble_eq_true rfl) ⟨fun k hk => ?_, fun k h1_ h2_ => ?_⟩
  · exact ((updE_n (by omega)).trans ((updE_n (by omega)).trans ((updE_n (by omega)).trans ((h2.1 k (by omega)).trans ((updE_n (by omega)).trans ((updE_n (by omega)).trans ((h1.1 k (by omega)).trans ((updE_n (by omega)).trans rfl))))))))
  · rcases (by omega : k = 14 ∨ (15 ≤ k ∧ k < 17) ∨ (17 ≤ k ∧ k < 19) ∨ k = 19) with rfl | hr | hr | rfl
    · exact ((updE_s _ _ _).trans (cl_is k_14 rfl))
    · exact ((updE_n (by omega)).trans ((updE_n (by omega)).trans ((updE_n (by omega)).trans ((h2.1 k (by omega)).trans ((updE_n (by omega)).trans ((updE_n (by omega)).trans (h1.2 k (by omega) (by omega))))))))
    · exact ((updE_n (by omega)).trans ((updE_n (by omega)).trans ((updE_n (by omega)).trans (h2.2 k (by omega) (by omega)))))
    · exact ((updE_n (by decide)).trans ((updE_s _ _ _).trans (cl_is k_19 rfl)))
set_option maxHeartbeats 4000000 in
set_option maxRecDepth 100000 in
theorem b1_22 {g : GG} {E : Nat → va_E} (hE : E 22 = .inr (1, [.null])) : Ctb g yX1_init cX1_init 2 1 40 1 121 [.ref (ad g 22), .int (nI 121)] 23 E 24 (FinB g E 22 24) := by
  refine bt_of (own := RX1) (lv := [some (.ref (ad g 22)), some (.int (nI 121))]) rfl rfl (by decide) (Nat.le_of_ble_eq_true rfl) (by intro u hu; simp only [List.mem_cons, List.not_mem_nil, or_false] at hu; rcases hu with rfl | rfl <;> rfl) (lv_ok [.ref (ad g 22), .int (nI 121)] 0) ?_
  refine bw_aload_n dX1_init_0 rfl ?_
  refine bw_obj dX1_init_1 kI1_1 (Nat.le_of_ble_eq_true rfl) (Nat.le_of_ble_eq_true rfl) ?_
  refine bw_aload_n dX1_init_4 rfl ?_
  refine bw_ic (nI 0) dX1_init_5 (by decide) ?_
  refine bw_iload_n dX1_init_6 rfl ?_
  refine bw_max dX1_init_7 km1_7 ⟨Nat.le_of_ble_eq_true rfl, Nat.le_of_ble_eq_true rfl⟩ ⟨Nat.le_of_ble_eq_true rfl, Nat.le_of_ble_eq_true rfl⟩ ?_
  refine bw_eq (show _ = nI 121 by decide) ?_
  refine bw_newa_int (N := 121) dX1_init_10 rfl (by decide) (Nat.le_of_ble_eq_true rfl) (Nat.le_of_ble_eq_true rfl) ?_
  refine bw_N (n' := 24) (cu' := 1) (su' := 121) rfl rfl rfl ?_
  refine bw_put (ci := 1) (k := 0) (o := 22) (fs := [.null]) (v := .ref (ad g 23)) (ty := tyX1 0) dX1_init_12 inX1 tyX1_ok nmX1 rfl (by decide) ((updE_n (by decide)).trans hE) (by decide) rfl rfl rfl rfl rfl (Nat.le_of_ble_eq_true rfl) kf1_13 ?_
  refine bw_ret dX1_init_15 (Nat.le_of_ble_eq_true rfl) (Nat.le_of_ble_eq_true rfl) ⟨fun k hk => ?_, fun k h1_ h2_ => ?_⟩
  · exact ((updE_n (by omega)).trans ((updE_n (by omega)).trans rfl))
  · rcases (by omega : k = 22 ∨ k = 23) with rfl | rfl
    · exact ((updE_s _ _ _).trans (cl_is k_22 rfl))
    · exact ((updE_n (by decide)).trans ((updE_s _ _ _).trans (cl_is k_23 rfl)))
set_option maxHeartbeats 4000000 in
set_option maxRecDepth 100000 in
theorem b2_53 {g : GG} {E : Nat → va_E} (hE : E 53 = .inr (2, [.null, .null])) : Ctb g yX2_init cX2_init 2 1 40 4 48 [.ref (ad g 53), .int (nI 22)] 54 E 58 (FinB g E 53 58) := by
  refine bt_of (own := RX2) (lv := [some (.ref (ad g 53)), some (.int (nI 22))]) rfl rfl (by decide) (Nat.le_of_ble_eq_true rfl) (by intro u hu; simp only [List.mem_cons, List.not_mem_nil, or_false] at hu; rcases hu with rfl | rfl <;> rfl) (lv_ok [.ref (ad g 53), .int (nI 22)] 0) ?_
  refine bw_aload_n dX2_init_0 rfl ?_
  refine bw_obj dX2_init_1 kI2_3 (Nat.le_of_ble_eq_true rfl) (Nat.le_of_ble_eq_true rfl) ?_
  refine bw_aload_n dX2_init_4 rfl ?_
  refine bw_ic (nI 2) dX2_init_5 (by decide) ?_
  refine bw_ic (nI 0) dX2_init_6 (by decide) ?_
  refine bw_iload_n dX2_init_7 rfl ?_
  refine bw_max dX2_init_8 km2_9 ⟨Nat.le_of_ble_eq_true rfl, Nat.le_of_ble_eq_true rfl⟩ ⟨Nat.le_of_ble_eq_true rfl, Nat.le_of_ble_eq_true rfl⟩ ?_
  refine bw_eq (show _ = nI 22 by decide) ?_
  refine bw_multi (N := 2) (M := 22) dX2_init_11 kc2_15 rfl rfl (by decide) (by decide) (by decide) (Nat.le_of_ble_eq_true rfl) (Nat.le_of_ble_eq_true rfl) ?_
  refine bw_N (n' := 57) (cu' := 3) (su' := 46) rfl rfl rfl ?_
  refine bw_put (ci := 2) (k := 0) (o := 53) (fs := [.null, .null]) (v := .ref (ad g 54)) (ty := tyX2 0) dX2_init_15 inX2 tyX2_ok nmX2 rfl (by decide) ((rowsE_o (by decide)).trans hE) (by decide) rfl rfl rfl rfl rfl (Nat.le_of_ble_eq_true rfl) kf2_17 ?_
  refine bw_aload_n dX2_init_18 rfl ?_
  refine bw_ic (nI 2) dX2_init_19 (by decide) ?_
  refine bw_newa_int (N := 2) dX2_init_20 rfl (by decide) (Nat.le_of_ble_eq_true rfl) (Nat.le_of_ble_eq_true rfl) ?_
  refine bw_N (n' := 58) (cu' := 4) (su' := 48) rfl rfl rfl ?_
  refine bw_put (ci := 2) (k := 1) (o := 53) (fs := [.ref (ad g 54), .null]) (v := .ref (ad g 57)) (ty := tyX2 1) dX2_init_22 inX2 tyX2_ok nmX2 rfl (by decide) ((updE_n (by decide)).trans (updE_s _ _ _)) (by decide) rfl rfl rfl rfl rfl (Nat.le_of_ble_eq_true rfl) kf2_22 ?_
  refine bw_ret dX2_init_25 (Nat.le_of_ble_eq_true rfl) (Nat.le_of_ble_eq_true rfl) ⟨fun k hk => ?_, fun k h1_ h2_ => ?_⟩
  · exact ((updE_n (by omega)).trans ((updE_n (by omega)).trans ((updE_n (by omega)).trans ((rowsE_o (by omega)).trans rfl))))
  · rcases (by omega : k = 53 ∨ (54 ≤ k ∧ k < 57) ∨ k = 57) with rfl | hr | rfl
    · exact ((updE_s _ _ _).trans (cl_is k_53 rfl))
    · rcases (by omega : k = 54 ∨ k = 55 ∨ k = 56) with rfl | rfl | rfl
      · exact ((updE_n (by decide)).trans ((updE_n (by decide)).trans ((updE_n (by decide)).trans (cl_is k_54 rfl))))
      · exact ((updE_n (by decide)).trans ((updE_n (by decide)).trans ((updE_n (by decide)).trans (cl_is k_55 rfl))))
      · exact ((updE_n (by decide)).trans ((updE_n (by decide)).trans ((updE_n (by decide)).trans (cl_is k_56 rfl))))
    · exact ((updE_n (by decide)).trans ((updE_s _ _ _).trans (cl_is k_57 rfl)))
set_option maxHeartbeats 4000000 in
set_option maxRecDepth 100000 in
theorem b8_52 {g : GG} {E : Nat → va_E} (hE : E 52 = .inr (8, [.null, .int 0, .int 0, .int 0, .null, .null, .null, .int 0, .null, .int 0, .int 0, .int 0])) : Ctb g yX8_init cX8_init 4 2 63 19 1655 [.ref (ad g 52), .int (nI 24)] 53 E 72 (FinB g E 52 72) := by
  refine bt_of (own := RX8) (lv := [some (.ref (ad g 52)), some (.int (nI 24)), none, none]) rfl rfl (by decide) (Nat.le_of_ble_eq_true rfl) (by intro u hu; simp only [List.mem_cons, List.not_mem_nil, or_false] at hu; rcases hu with rfl | rfl <;> rfl) (lv_ok [.ref (ad g 52), .int (nI 24)] 2) ?_
  refine bw_aload_n dX8_init_0 rfl ?_
  refine bw_obj dX8_init_1 kI8_3 (Nat.le_of_ble_eq_true rfl) (Nat.le_of_ble_eq_true rfl) ?_
  refine bw_ic (nI 2) dX8_init_4 (by decide) ?_
  refine bw_iload_n dX8_init_5 rfl ?_
  refine bw_ic (nI 2) dX8_init_6 (by decide) ?_
  refine bw_idiv dX8_init_7 (by decide) ?_
  refine bw_eq (show _ = nI 12 by decide) ?_
  refine bw_max dX8_init_8 km8_9 ⟨Nat.le_of_ble_eq_true rfl, Nat.le_of_ble_eq_true rfl⟩ ⟨Nat.le_of_ble_eq_true rfl, Nat.le_of_ble_eq_true rfl⟩ ?_
  refine bw_eq (show _ = nI 12 by decide) ?_
  refine bw_istore_n dX8_init_11 (Nat.le_of_ble_eq_true rfl) ?_
  refine bw_iload_n dX8_init_12 rfl ?_
  refine bw_ic (nI 1) dX8_init_13 (by decide) ?_
  refine bw_isub dX8_init_14 ?_
  refine bw_eq (show _ = nI 11 by decide) ?_
  refine bw_iload_n dX8_init_15 rfl ?_
  refine bw_ic (nI 1) dX8_init_16 (by decide) ?_
  refine bw_isub dX8_init_17 ?_
  refine bw_eq (show _ = nI 11 by decide) ?_
  refine bw_imul dX8_init_18 ?_
  refine bw_eq (show _ = nI 121 by decide) ?_
  refine bw_istore_n dX8_init_19 (Nat.le_of_ble_eq_true rfl) ?_
  refine bw_aload_n dX8_init_20 rfl ?_
  refine bw_new (ci := 2) (fs := [.null, .null]) dX8_init_21 inX2 tyX2_ok rfl dfX2 kc8_15 ki2 kn2 (Nat.le_of_ble_eq_true rfl) (Nat.le_of_ble_eq_true rfl) ?_
  refine bw_N (n' := 54) (cu' := 1) (su' := 2) rfl rfl rfl ?_
  refine bw_dup dX8_init_24 rfl ?_
  refine bw_ic (nI 2) dX8_init_25 (by decide) ?_
  refine bw_iload_n dX8_init_26 rfl ?_
  refine bw_imul dX8_init_27 ?_
  refine bw_eq (show _ = nI 24 by decide) ?_
  refine bw_ic (nI 2) dX8_init_28 (by decide) ?_
  refine bw_isub dX8_init_29 ?_
  refine bw_eq (show _ = nI 22 by decide) ?_
  refine bw_call (o := 53) (As := [.int (nI 22)]) dX8_init_30 kI8_17 okI2 rfl rfl (Nat.le_of_ble_eq_true rfl) ⟨Nat.le_of_ble_eq_true rfl, Nat.le_of_ble_eq_true rfl⟩ ⟨Nat.le_of_ble_eq_true rfl, Nat.le_of_ble_eq_true rfl⟩ (b2_53 (updE_s _ _ _)) rfl (fun E1 h1 => ?_)
  refine bw_N (n' := 58) (cu' := 5) (su' := 50) rfl rfl rfl ?_
  refine bw_put (ci := 8) (k := 0) (o := 52) (fs := [.null, .int 0, .int 0, .int 0, .null, .null, .null, .int 0, .null, .int 0, .int 0, .int 0]) (v := .ref (ad g 53)) (ty := tyX8 0) dX8_init_33 inX8 tyX8_ok nmX8 rfl (by decide) ((h1.1 52 (by decide)).trans ((updE_n (by decide)).trans hE)) (by decide) rfl rfl rfl rfl rfl (Nat.le_of_ble_eq_true rfl) kf8_20 ?_
  refine bw_aload_n dX8_init_36 rfl ?_
  refine bw_ic (nI 2) dX8_init_37 (by decide) ?_
  refine bw_iload_n dX8_init_38 rfl ?_
  refine bw_imul dX8_init_39 ?_
  refine bw_eq (show _ = nI 24 by decide) ?_
  refine bw_iload_n dX8_init_40 rfl ?_
  refine bw_ic (nI 1) dX8_init_41 (by decide) ?_
  refine bw_isub dX8_init_42 ?_
  refine bw_eq (show _ = nI 11 by decide) ?_
  refine bw_imul dX8_init_43 ?_
  refine bw_eq (show _ = nI 264 by decide) ?_
  refine bw_newa_bool (N := 264) dX8_init_44 rfl (by decide) (Nat.le_of_ble_eq_true rfl) (Nat.le_of_ble_eq_true rfl) ?_
  refine bw_N (n' := 59) (cu' := 6) (su' := 314) rfl rfl rfl ?_
  refine bw_put (ci := 8) (k := 4) (o := 52) (fs := [.ref (ad g 53), .int 0, .int 0, .int 0, .null, .null, .null, .int 0, .null, .int 0, .int 0, .int 0]) (v := .ref (ad g 58)) (ty := tyX8 4) dX8_init_46 inX8 tyX8_ok nmX8 rfl (by decide) ((updE_n (by decide)).trans (updE_s _ _ _)) (by decide) rfl rfl rfl rfl rfl (Nat.le_of_ble_eq_true rfl) kf8_26 ?_
  refine bw_aload_n dX8_init_49 rfl ?_
  refine bw_iload_n dX8_init_50 rfl ?_
  refine bw_newa_int (N := 121) dX8_init_51 rfl (by decide) (Nat.le_of_ble_eq_true rfl) (Nat.le_of_ble_eq_true rfl) ?_
  refine bw_N (n' := 60) (cu' := 7) (su' := 435) rfl rfl rfl ?_
  refine bw_put (ci := 8) (k := 5) (o := 52) (fs := [.ref (ad g 53), .int 0, .int 0, .int 0, .ref (ad g 58), .null, .null, .int 0, .null, .int 0, .int 0, .int 0]) (v := .ref (ad g 59)) (ty := tyX8 5) dX8_init_53 inX8 tyX8_ok nmX8 rfl (by decide) ((updE_n (by decide)).trans (updE_s _ _ _)) (by decide) rfl rfl rfl rfl rfl (Nat.le_of_ble_eq_true rfl) kf8_30 ?_
  refine bw_aload_n dX8_init_56 rfl ?_
  refine bw_bi (nI 7) dX8_init_57 (by decide) ?_
  refine bw_iload_n dX8_init_59 rfl ?_
  refine bw_multi (N := 7) (M := 121) dX8_init_60 kc8_34 rfl rfl (by decide) (by decide) (by decide) (Nat.le_of_ble_eq_true rfl) (Nat.le_of_ble_eq_true rfl) ?_
  refine bw_N (n' := 68) (cu' := 15) (su' := 1289) rfl rfl rfl ?_
  refine bw_put (ci := 8) (k := 6) (o := 52) (fs := [.ref (ad g 53), .int 0, .int 0, .int 0, .ref (ad g 58), .ref (ad g 59), .null, .int 0, .null, .int 0, .int 0, .int 0]) (v := .ref (ad g 60)) (ty := tyX8 6) dX8_init_64 inX8 tyX8_ok nmX8 rfl (by decide) ((rowsE_o (by decide)).trans (updE_s _ _ _)) (by decide) rfl rfl rfl rfl rfl (Nat.le_of_ble_eq_true rfl) kf8_36 ?_
  refine bw_aload_n dX8_init_67 rfl ?_
  refine bw_ic (nI 3) dX8_init_68 (by decide) ?_
  refine bw_iload_n dX8_init_69 rfl ?_
  refine bw_multi (N := 3) (M := 121) dX8_init_70 kc8_34 rfl rfl (by decide) (by decide) (by decide) (Nat.le_of_ble_eq_true rfl) (Nat.le_of_ble_eq_true rfl) ?_
  refine bw_N (n' := 72) (cu' := 19) (su' := 1655) rfl rfl rfl ?_
  refine bw_put (ci := 8) (k := 8) (o := 52) (fs := [.ref (ad g 53), .int 0, .int 0, .int 0, .ref (ad g 58), .ref (ad g 59), .ref (ad g 60), .int 0, .null, .int 0, .int 0, .int 0]) (v := .ref (ad g 68)) (ty := tyX8 8) dX8_init_74 inX8 tyX8_ok nmX8 rfl (by decide) ((rowsE_o (by decide)).trans (updE_s _ _ _)) (by decide) rfl rfl rfl rfl rfl (Nat.le_of_ble_eq_true rfl) kf8_39 ?_
  refine bw_ret dX8_init_77 (Nat.le_of_ble_eq_true rfl) (Nat.le_of_ble_eq_true rfl) ⟨fun k hk => ?_, fun k h1_ h2_ => ?_⟩
  · exact ((updE_n (by omega)).trans ((rowsE_o (by omega)).trans ((updE_n (by omega)).trans ((rowsE_o (by omega)).trans ((updE_n (by omega)).trans ((updE_n (by omega)).trans ((updE_n (by omega)).trans ((updE_n (by omega)).trans ((updE_n (by omega)).trans ((h1.1 k (by omega)).trans ((updE_n (by omega)).trans rfl)))))))))))
  · rcases (by omega : k = 52 ∨ (53 ≤ k ∧ k < 58) ∨ k = 58 ∨ k = 59 ∨ (60 ≤ k ∧ k < 68) ∨ (68 ≤ k ∧ k < 72)) with rfl | hr | rfl | rfl | hr | hr
    · exact ((updE_s _ _ _).trans (cl_is k_52 rfl))
    · exact ((updE_n (by omega)).trans ((rowsE_o (by omega)).trans ((updE_n (by omega)).trans ((rowsE_o (by omega)).trans ((updE_n (by omega)).trans ((updE_n (by omega)).trans ((updE_n (by omega)).trans ((updE_n (by omega)).trans ((updE_n (by omega)).trans (h1.2 k (by omega) (by omega)))))))))))
    · exact ((updE_n (by decide)).trans ((rowsE_o (by decide)).trans ((updE_n (by decide)).trans ((rowsE_o (by decide)).trans ((updE_n (by decide)).trans ((updE_n (by decide)).trans ((updE_n (by decide)).trans ((updE_s _ _ _).trans (cl_is k_58 rfl)))))))))
    · exact ((updE_n (by decide)).trans ((rowsE_o (by decide)).trans ((updE_n (by decide)).trans ((rowsE_o (by decide)).trans ((updE_n (by decide)).trans ((updE_s _ _ _).trans (cl_is k_59 rfl)))))))
    · rcases (by omega : k = 60 ∨ k = 61 ∨ k = 62 ∨ k = 63 ∨ k = 64 ∨ k = 65 ∨ k = 66 ∨ k = 67) with rfl | rfl | rfl | rfl | rfl | rfl | rfl | rfl
      · exact ((updE_n (by decide)).trans ((rowsE_o (by decide)).trans ((updE_n (by decide)).trans (cl_is k_60 rfl))))
      · exact ((updE_n (by decide)).trans ((rowsE_o (by decide)).trans ((updE_n (by decide)).trans (cl_is k_61 rfl))))
      · exact ((updE_n (by decide)).trans ((rowsE_o (by decide)).trans ((updE_n (by decide)).trans (cl_is k_62 rfl))))
      · exact ((updE_n (by decide)).trans ((rowsE_o (by decide)).trans ((updE_n (by decide)).trans (cl_is k_63 rfl))))
      · exact ((updE_n (by decide)).trans ((rowsE_o (by decide)).trans ((updE_n (by decide)).trans (cl_is k_64 rfl))))
      · exact ((updE_n (by decide)).trans ((rowsE_o (by decide)).trans ((updE_n (by decide)).trans (cl_is k_65 rfl))))
      · exact ((updE_n (by decide)).trans ((rowsE_o (by decide)).trans ((updE_n (by decide)).trans (cl_is k_66 rfl))))
      · exact ((updE_n (by decide)).trans ((rowsE_o (by decide)).trans ((updE_n (by decide)).trans (cl_is k_67 rfl))))
    · rcases (by omega : k = 68 ∨ k = 69 ∨ k = 70 ∨ k = 71) with rfl | rfl | rfl | rfl
      · exact ((updE_n (by decide)).trans (cl_is k_68 rfl))
      · exact ((updE_n (by decide)).trans (cl_is k_69 rfl))
      · exact ((updE_n (by decide)).trans (cl_is k_70 rfl))
      · exact ((updE_n (by decide)).trans (cl_is k_71 rfl))
set_option maxHeartbeats 4000000 in
set_option maxRecDepth 100000 in
theorem b2_73 {g : GG} {E : Nat → va_E} (hE : E 73 = .inr (2, [.null, .null])) : Ctb g yX2_init cX2_init 2 1 40 4 40 [.ref (ad g 73), .int (nI 18)] 74 E 78 (FinB g E 73 78) := by
  refine bt_of (own := RX2) (lv := [some (.ref (ad g 73)), some (.int (nI 18))]) rfl rfl (by decide) (Nat.le_of_ble_eq_true rfl) (by intro u hu; simp only [List.mem_cons, List.not_mem_nil, or_false] at hu; rcases hu with rfl | rfl <;> rfl) (lv_ok [.ref (ad g 73), .int (nI 18)] 0) ?_
  refine bw_aload_n dX2_init_0 rfl ?_
  refine bw_obj dX2_init_1 kI2_3 (Nat.le_of_ble_eq_true rfl) (Nat.le_of_ble_eq_true rfl) ?_
  refine bw_aload_n dX2_init_4 rfl ?_
  refine bw_ic (nI 2) dX2_init_5 (by decide) ?_
  refine bw_ic (nI 0) dX2_init_6 (by decide) ?_
  refine bw_iload_n dX2_init_7 rfl ?_
  refine bw_max dX2_init_8 km2_9 ⟨Nat.le_of_ble_eq_true rfl, Nat.le_of_ble_eq_true rfl⟩ ⟨Nat.le_of_ble_eq_true rfl, Nat.le_of_ble_eq_true rfl⟩ ?_
  refine bw_eq (show _ = nI 18 by decide) ?_
  refine bw_multi (N := 2) (M := 18) dX2_init_11 kc2_15 rfl rfl (by decide) (by decide) (by decide) (Nat.le_of_ble_eq_true rfl) (Nat.le_of_ble_eq_true rfl) ?_
  refine bw_N (n' := 77) (cu' := 3) (su' := 38) rfl rfl rfl ?_
  refine bw_put (ci := 2) (k := 0) (o := 73) (fs := [.null, .null]) (v := .ref (ad g 74)) (ty := tyX2 0) dX2_init_15 inX2 tyX2_ok nmX2 rfl (by decide) ((rowsE_o (by decide)).trans hE) (by decide) rfl rfl rfl rfl rfl (Nat.le_of_ble_eq_true rfl) kf2_17 ?_
  refine bw_aload_n dX2_init_18 rfl ?_
  refine bw_ic (nI 2) dX2_init_19 (by decide) ?_
  refine bw_newa_int (N := 2) dX2_init_20 rfl (by decide) (Nat.le_of_ble_eq_true rfl) (Nat.le_of_ble_eq_true rfl) ?_
  refine bw_N (n' := 78) (cu' := 4) (su' := 40) rfl rfl rfl ?_
  refine bw_put (ci := 2) (k := 1) (o := 73) (fs := [.ref (ad g 74), .null]) (v := .ref (ad g 77)) (ty := tyX2 1) dX2_init_22 inX2 tyX2_ok nmX2 rfl (by decide) ((updE_n (by decide)).trans (updE_s _ _ _)) (by decide) rfl rfl rfl rfl rfl (Nat.le_of_ble_eq_true rfl) kf2_22 ?_
  refine bw_ret dX2_init_25 (Nat.le_of_ble_eq_true rfl) (Nat.le_of_ble_eq_true rfl) ⟨fun k hk => ?_, fun k h1_ h2_ => ?_⟩
  · exact ((updE_n (by omega)).trans ((updE_n (by omega)).trans ((updE_n (by omega)).trans ((rowsE_o (by omega)).trans rfl))))
  · rcases (by omega : k = 73 ∨ (74 ≤ k ∧ k < 77) ∨ k = 77) with rfl | hr | rfl
    · exact ((updE_s _ _ _).trans (cl_is k_73 rfl))
    · rcases (by omega : k = 74 ∨ k = 75 ∨ k = 76) with rfl | rfl | rfl
      · exact ((updE_n (by decide)).trans ((updE_n (by decide)).trans ((updE_n (by decide)).trans (cl_is k_74 rfl))))
      · exact ((updE_n (by decide)).trans ((updE_n (by decide)).trans ((updE_n (by decide)).trans (cl_is k_75 rfl))))
      · exact ((updE_n (by decide)).trans ((updE_n (by decide)).trans ((updE_n (by decide)).trans (cl_is k_76 rfl))))
    · exact ((updE_n (by decide)).trans ((updE_s _ _ _).trans (cl_is k_77 rfl)))
set_option maxHeartbeats 4000000 in
set_option maxRecDepth 100000 in
theorem b8_72 {g : GG} {E : Nat → va_E} (hE : E 72 = .inr (8, [.null, .int 0, .int 0, .int 0, .null, .null, .null, .int 0, .null, .int 0, .int 0, .int 0])) : Ctb g yX8_init cX8_init 4 2 63 19 1123 [.ref (ad g 72), .int (nI 20)] 73 E 92 (FinB g E 72 92) := by
  refine bt_of (own := RX8) (lv := [some (.ref (ad g 72)), some (.int (nI 20)), none, none]) rfl rfl (by decide) (Nat.le_of_ble_eq_true rfl) (by intro u hu; simp only [List.mem_cons, List.not_mem_nil, or_false] at hu; rcases hu with rfl | rfl <;> rfl) (lv_ok [.ref (ad g 72), .int (nI 20)] 2) ?_
  refine bw_aload_n dX8_init_0 rfl ?_
  refine bw_obj dX8_init_1 kI8_3 (Nat.le_of_ble_eq_true rfl) (Nat.le_of_ble_eq_true rfl) ?_
  refine bw_ic (nI 2) dX8_init_4 (by decide) ?_
  refine bw_iload_n dX8_init_5 rfl ?_
  refine bw_ic (nI 2) dX8_init_6 (by decide) ?_
  refine bw_idiv dX8_init_7 (by decide) ?_
  refine bw_eq (show _ = nI 10 by decide) ?_
  refine bw_max dX8_init_8 km8_9 ⟨Nat.le_of_ble_eq_true rfl, Nat.le_of_ble_eq_true rfl⟩ ⟨Nat.le_of_ble_eq_true rfl, Nat.le_of_ble_eq_true rfl⟩ ?_
  refine bw_eq (show _ = nI 10 by decide) ?_
  refine bw_istore_n dX8_init_11 (Nat.le_of_ble_eq_true rfl) ?_
  refine bw_iload_n dX8_init_12 rfl ?_
  refine bw_ic (nI 1) dX8_init_13 (by decide) ?_
  refine bw_isub dX8_init_14 ?_
  refine bw_eq (show _ = nI 9 by decide) ?_
  refine bw_iload_n dX8_init_15 rfl ?_
  refine bw_ic (nI 1) dX8_init_16 (by decide) ?_
  refine bw_isub dX8_init_17 ?_
  refine bw_eq (show _ = nI 9 by decide) ?_
  refine bw_imul dX8_init_18 ?_
  refine bw_eq (show _ = nI 81 by decide) ?_
  refine bw_istore_n dX8_init_19 (Nat.le_of_ble_eq_true rfl) ?_
  refine bw_aload_n dX8_init_20 rfl ?_
  refine bw_new (ci := 2) (fs := [.null, .null]) dX8_init_21 inX2 tyX2_ok rfl dfX2 kc8_15 ki2 kn2 (Nat.le_of_ble_eq_true rfl) (Nat.le_of_ble_eq_true rfl) ?_
  refine bw_N (n' := 74) (cu' := 1) (su' := 2) rfl rfl rfl ?_
  refine bw_dup dX8_init_24 rfl ?_
  refine bw_ic (nI 2) dX8_init_25 (by decide) ?_
  refine bw_iload_n dX8_init_26 rfl ?_
  refine bw_imul dX8_init_27 ?_
  refine bw_eq (show _ = nI 20 by decide) ?_
  refine bw_ic (nI 2) dX8_init_28 (by decide) ?_
  refine bw_isub dX8_init_29 ?_
  refine bw_eq (show _ = nI 18 by decide) ?_
  refine bw_call (o := 73) (As := [.int (nI 18)]) dX8_init_30 kI8_17 okI2 rfl rfl (Nat.le_of_ble_eq_true rfl) ⟨Nat.le_of_ble_eq_true rfl, Nat.le_of_ble_eq_true rfl⟩ ⟨Nat.le_of_ble_eq_true rfl, Nat.le_of_ble_eq_true rfl⟩ (b2_73 (updE_s _ _ _)) rfl (fun E1 h1 => ?_)
  refine bw_N (n' := 78) (cu' := 5) (su' := 42) rfl rfl rfl ?_
  refine bw_put (ci := 8) (k := 0) (o := 72) (fs := [.null, .int 0, .int 0, .int 0, .null, .null, .null, .int 0, .null, .int 0, .int 0, .int 0]) (v := .ref (ad g 73)) (ty := tyX8 0) dX8_init_33 inX8 tyX8_ok nmX8 rfl (by decide) ((h1.1 72 (by decide)).trans ((updE_n (by decide)).trans hE)) (by decide) rfl rfl rfl rfl rfl (Nat.le_of_ble_eq_true rfl) kf8_20 ?_
  refine bw_aload_n dX8_init_36 rfl ?_
  refine bw_ic (nI 2) dX8_init_37 (by decide) ?_
  refine bw_iload_n dX8_init_38 rfl ?_
  refine bw_imul dX8_init_39 ?_
  refine bw_eq (show _ = nI 20 by decide) ?_
  refine bw_iload_n dX8_init_40 rfl ?_
  refine bw_ic (nI 1) dX8_init_41 (by decide) ?_
  refine bw_isub dX8_init_42 ?_
  refine bw_eq (show _ = nI 9 by decide) ?_
  refine bw_imul dX8_init_43 ?_
  refine bw_eq (show _ = nI 180 by decide) ?_
  refine bw_newa_bool (N := 180) dX8_init_44 rfl (by decide) (Nat.le_of_ble_eq_true rfl) (Nat.le_of_ble_eq_true rfl) ?_
  refine bw_N (n' := 79) (cu' := 6) (su' := 222) rfl rfl rfl ?_
  refine bw_put (ci := 8) (k := 4) (o := 72) (fs := [.ref (ad g 73), .int 0, .int 0, .int 0, .null, .null, .null, .int 0, .null, .int 0, .int 0, .int 0]) (v := .ref (ad g 78)) (ty := tyX8 4) dX8_init_46 inX8 tyX8_ok nmX8 rfl (by decide) ((updE_n (by decide)).trans (updE_s _ _ _)) (by decide) rfl rfl rfl rfl rfl (Nat.le_of_ble_eq_true rfl) kf8_26 ?_
  refine bw_aload_n dX8_init_49 rfl ?_
  refine bw_iload_n dX8_init_50 rfl ?_
  refine bw_newa_int (N := 81) dX8_init_51 rfl (by decide) (Nat.le_of_ble_eq_true rfl) (Nat.le_of_ble_eq_true rfl) ?_
  refine bw_N (n' := 80) (cu' := 7) (su' := 303) rfl rfl rfl ?_
  refine bw_put (ci := 8) (k := 5) (o := 72) (fs := [.ref (ad g 73), .int 0, .int 0, .int 0, .ref (ad g 78), .null, .null, .int 0, .null, .int 0, .int 0, .int 0]) (v := .ref (ad g 79)) (ty := tyX8 5) dX8_init_53 inX8 tyX8_ok nmX8 rfl (by decide) ((updE_n (by decide)).trans (updE_s _ _ _)) (by decide) rfl rfl rfl rfl rfl (Nat.le_of_ble_eq_true rfl) kf8_30 ?_
  refine bw_aload_n dX8_init_56 rfl ?_
  refine bw_bi (nI 7) dX8_init_57 (by decide) ?_
  refine bw_iload_n dX8_init_59 rfl ?_
  refine bw_multi (N := 7) (M := 81) dX8_init_60 kc8_34 rfl rfl (by decide) (by decide) (by decide) (Nat.le_of_ble_eq_true rfl) (Nat.le_of_ble_eq_true rfl) ?_
  refine bw_N (n' := 88) (cu' := 15) (su' := 877) rfl rfl rfl ?_
  refine bw_put (ci := 8) (k := 6) (o := 72) (fs := [.ref (ad g 73), .int 0, .int 0, .int 0, .ref (ad g 78), .ref (ad g 79), .null, .int 0, .null, .int 0, .int 0, .int 0]) (v := .ref (ad g 80)) (ty := tyX8 6) dX8_init_64 inX8 tyX8_ok nmX8 rfl (by decide) ((rowsE_o (by decide)).trans (updE_s _ _ _)) (by decide) rfl rfl rfl rfl rfl (Nat.le_of_ble_eq_true rfl) kf8_36 ?_
  refine bw_aload_n dX8_init_67 rfl ?_
  refine bw_ic (nI 3) dX8_init_68 (by decide) ?_
  refine bw_iload_n dX8_init_69 rfl ?_
  refine bw_multi (N := 3) (M := 81) dX8_init_70 kc8_34 rfl rfl (by decide) (by decide) (by decide) (Nat.le_of_ble_eq_true rfl) (Nat.le_of_ble_eq_true rfl) ?_
  refine bw_N (n' := 92) (cu' := 19) (su' := 1123) rfl rfl rfl ?_
  refine bw_put (ci := 8) (k := 8) (o := 72) (fs := [.ref (ad g 73), .int 0, .int 0, .int 0, .ref (ad g 78), .ref (ad g 79), .ref (ad g 80), .int 0, .null, .int 0, .int 0, .int 0]) (v := .ref (ad g 88)) (ty := tyX8 8) dX8_init_74 inX8 tyX8_ok nmX8 rfl (by decide) ((rowsE_o (by decide)).trans (updE_s _ _ _)) (by decide) rfl rfl rfl rfl rfl (Nat.le_of_ble_eq_true rfl) kf8_39 ?_
  refine bw_ret dX8_init_77 (Nat.le_of_ble_eq_true rfl) (Nat.le_of_ble_eq_true rfl) ⟨fun k hk => ?_, fun k h1_ h2_ => ?_⟩
  · exact ((updE_n (by omega)).trans ((rowsE_o (by omega)).trans ((updE_n (by omega)).trans ((rowsE_o (by omega)).trans ((updE_n (by omega)).trans ((updE_n (by omega)).trans ((updE_n (by omega)).trans ((updE_n (by omega)).trans ((updE_n (by omega)).trans ((h1.1 k (by omega)).trans ((updE_n (by omega)).trans rfl)))))))))))
  · rcases (by omega : k = 72 ∨ (73 ≤ k ∧ k < 78) ∨ k = 78 ∨ k = 79 ∨ (80 ≤ k ∧ k < 88) ∨ (88 ≤ k ∧ k < 92)) with rfl | hr | rfl | rfl | hr | hr
    · exact ((updE_s _ _ _).trans (cl_is k_72 rfl))
    · exact ((updE_n (by omega)).trans ((rowsE_o (by omega)).trans ((updE_n (by omega)).trans ((rowsE_o (by omega)).trans ((updE_n (by omega)).trans ((updE_n (by omega)).trans ((updE_n (by omega)).trans ((updE_n (by omega)).trans ((updE_n (by omega)).trans (h1.2 k (by omega) (by omega)))))))))))
    · exact ((updE_n (by decide)).trans ((rowsE_o (by decide)).trans ((updE_n (by decide)).trans ((rowsE_o (by decide)).trans ((updE_n (by decide)).trans ((updE_n (by decide)).trans ((updE_n (by decide)).trans ((updE_s _ _ _).trans (cl_is k_78 rfl)))))))))
    · exact ((updE_n (by decide)).trans ((rowsE_o (by decide)).trans ((updE_n (by decide)).trans ((rowsE_o (by decide)).trans ((updE_n (by decide)).trans ((updE_s _ _ _).trans (cl_is k_79 rfl)))))))
    · rcases (by omega : k = 80 ∨ k = 81 ∨ k = 82 ∨ k = 83 ∨ k = 84 ∨ k = 85 ∨ k = 86 ∨ k = 87) with rfl | rfl | rfl | rfl | rfl | rfl | rfl | rfl
      · exact ((updE_n (by decide)).trans ((rowsE_o (by decide)).trans ((updE_n (by decide)).trans (cl_is k_80 rfl))))
      · exact ((updE_n (by decide)).trans ((rowsE_o (by decide)).trans ((updE_n (by decide)).trans (cl_is k_81 rfl))))
      · exact ((updE_n (by decide)).trans ((rowsE_o (by decide)).trans ((updE_n (by decide)).trans (cl_is k_82 rfl))))
      · exact ((updE_n (by decide)).trans ((rowsE_o (by decide)).trans ((updE_n (by decide)).trans (cl_is k_83 rfl))))
      · exact ((updE_n (by decide)).trans ((rowsE_o (by decide)).trans ((updE_n (by decide)).trans (cl_is k_84 rfl))))
      · exact ((updE_n (by decide)).trans ((rowsE_o (by decide)).trans ((updE_n (by decide)).trans (cl_is k_85 rfl))))
      · exact ((updE_n (by decide)).trans ((rowsE_o (by decide)).trans ((updE_n (by decide)).trans (cl_is k_86 rfl))))
      · exact ((updE_n (by decide)).trans ((rowsE_o (by decide)).trans ((updE_n (by decide)).trans (cl_is k_87 rfl))))
    · rcases (by omega : k = 88 ∨ k = 89 ∨ k = 90 ∨ k = 91) with rfl | rfl | rfl | rfl
      · exact ((updE_n (by decide)).trans (cl_is k_88 rfl))
      · exact ((updE_n (by decide)).trans (cl_is k_89 rfl))
      · exact ((updE_n (by decide)).trans (cl_is k_90 rfl))
      · exact ((updE_n (by decide)).trans (cl_is k_91 rfl))
set_option maxHeartbeats 4000000 in
set_option maxRecDepth 100000 in
theorem b2_93 {g : GG} {E : Nat → va_E} (hE : E 93 = .inr (2, [.null, .null])) : Ctb g yX2_init cX2_init 2 1 40 4 32 [.ref (ad g 93), .int (nI 14)] 94 E 98 (FinB g E 93 98) := by
  refine bt_of (own := RX2) (lv := [some (.ref (ad g 93)), some (.int (nI 14))]) rfl rfl (by decide) (Nat.le_of_ble_eq_true rfl) (by intro u hu; simp only [List.mem_cons, List.not_mem_nil, or_false] at hu; rcases hu with rfl | rfl <;> rfl) (lv_ok [.ref (ad g 93), .int (nI 14)] 0) ?_
  refine bw_aload_n dX2_init_0 rfl ?_
  refine bw_obj dX2_init_1 kI2_3 (Nat.le_of_ble_eq_true rfl) (Nat.le_of_ble_eq_true rfl) ?_
  refine bw_aload_n dX2_init_4 rfl ?_
  refine bw_ic (nI 2) dX2_init_5 (by decide) ?_
  refine bw_ic (nI 0) dX2_init_6 (by decide) ?_
  refine bw_iload_n dX2_init_7 rfl ?_
  refine bw_max dX2_init_8 km2_9 ⟨Nat.le_of_ble_eq_true rfl, Nat.le_of_ble_eq_true rfl⟩ ⟨Nat.le_of_ble_eq_true rfl, Nat.le_of_ble_eq_true rfl⟩ ?_
  refine bw_eq (show _ = nI 14 by decide) ?_
  refine bw_multi (N := 2) (M := 14) dX2_init_11 kc2_15 rfl rfl (by decide) (by decide) (by decide) (Nat.le_of_ble_eq_true rfl) (Nat.le_of_ble_eq_true rfl) ?_
  refine bw_N (n' := 97) (cu' := 3) (su' := 30) rfl rfl rfl ?_
  refine bw_put (ci := 2) (k := 0) (o := 93) (fs := [.null, .null]) (v := .ref (ad g 94)) (ty := tyX2 0) dX2_init_15 inX2 tyX2_ok nmX2 rfl (by decide) ((rowsE_o (by decide)).trans hE) (by decide) rfl rfl rfl rfl rfl (Nat.le_of_ble_eq_true rfl) kf2_17 ?_
  refine bw_aload_n dX2_init_18 rfl ?_
  refine bw_ic (nI 2) dX2_init_19 (by decide) ?_
  refine bw_newa_int (N := 2) dX2_init_20 rfl (by decide) (Nat.le_of_ble_eq_true rfl) (Nat.le_of_ble_eq_true rfl) ?_
  refine bw_N (n' := 98) (cu' := 4) (su' := 32) rfl rfl rfl ?_
  refine bw_put (ci := 2) (k := 1) (o := 93) (fs := [.ref (ad g 94), .null]) (v := .ref (ad g 97)) (ty := tyX2 1) dX2_init_22 inX2 tyX2_ok nmX2 rfl (by decide) ((updE_n (by decide)).trans (updE_s _ _ _)) (by decide) rfl rfl rfl rfl rfl (Nat.le_of_ble_eq_true rfl) kf2_22 ?_
  refine bw_ret dX2_init_25 (Nat.le_of_ble_eq_true rfl) (Nat.le_of_ble_eq_true rfl) ⟨fun k hk => ?_, fun k h1_ h2_ => ?_⟩
  · exact ((updE_n (by omega)).trans ((updE_n (by omega)).trans ((updE_n (by omega)).trans ((rowsE_o (by omega)).trans rfl))))
  · rcases (by omega : k = 93 ∨ (94 ≤ k ∧ k < 97) ∨ k = 97) with rfl | hr | rfl
    · exact ((updE_s _ _ _).trans (cl_is k_93 rfl))
    · rcases (by omega : k = 94 ∨ k = 95 ∨ k = 96) with rfl | rfl | rfl
      · exact ((updE_n (by decide)).trans ((updE_n (by decide)).trans ((updE_n (by decide)).trans (cl_is k_94 rfl))))
      · exact ((updE_n (by decide)).trans ((updE_n (by decide)).trans ((updE_n (by decide)).trans (cl_is k_95 rfl))))
      · exact ((updE_n (by decide)).trans ((updE_n (by decide)).trans ((updE_n (by decide)).trans (cl_is k_96 rfl))))
    · exact ((updE_n (by decide)).trans ((updE_s _ _ _).trans (cl_is k_97 rfl)))
set_option maxHeartbeats 4000000 in
set_option maxRecDepth 100000 in
theorem b8_92 {g : GG} {E : Nat → va_E} (hE : E 92 = .inr (8, [.null, .int 0, .int 0, .int 0, .null, .null, .null, .int 0, .null, .int 0, .int 0, .int 0])) : Ctb g yX8_init cX8_init 4 2 63 19 695 [.ref (ad g 92), .int (nI 16)] 93 E 112 (FinB g E 92 112) := by
  refine bt_of (own := RX8) (lv := [some (.ref (ad g 92)), some (.int (nI 16)), none, none]) rfl rfl (by decide) (Nat.le_of_ble_eq_true rfl) (by intro u hu; simp only [List.mem_cons, List.not_mem_nil, or_false] at hu; rcases hu with rfl | rfl <;> rfl) (lv_ok [.ref (ad g 92), .int (nI 16)] 2) ?_
  refine bw_aload_n dX8_init_0 rfl ?_
  refine bw_obj dX8_init_1 kI8_3 (Nat.le_of_ble_eq_true rfl) (Nat.le_of_ble_eq_true rfl) ?_
  refine bw_ic (nI 2) dX8_init_4 (by decide) ?_
  refine bw_iload_n dX8_init_5 rfl ?_
  refine bw_ic (nI 2) dX8_init_6 (by decide) ?_
  refine bw_idiv dX8_init_7 (by decide) ?_
  refine bw_eq (show _ = nI 8 by decide) ?_
  refine bw_max dX8_init_8 km8_9 ⟨Nat.le_of_ble_eq_true rfl, Nat.le_of_ble_eq_true rfl⟩ ⟨Nat.le_of_ble_eq_true rfl, Nat.le_of_ble_eq_true rfl⟩ ?_
  refine bw_eq (show _ = nI 8 by decide) ?_
  refine bw_istore_n dX8_init_11 (Nat.le_of_ble_eq_true rfl) ?_
  refine bw_iload_n dX8_init_12 rfl ?_
  refine bw_ic (nI 1) dX8_init_13 (by decide) ?_
  refine bw_isub dX8_init_14 ?_
  refine bw_eq (show _ = nI 7 by decide) ?_
  refine bw_iload_n dX8_init_15 rfl ?_
  refine bw_ic (nI 1) dX8_init_16 (by decide) ?_
  refine bw_isub dX8_init_17 ?_
  refine bw_eq (show _ = nI 7 by decide) ?_
  refine bw_imul dX8_init_18 ?_
  refine bw_eq (show _ = nI 49 by decide) ?_
  refine bw_istore_n dX8_init_19 (Nat.le_of_ble_eq_true rfl) ?_
  refine bw_aload_n dX8_init_20 rfl ?_
  refine bw_new (ci := 2) (fs := [.null, .null]) dX8_init_21 inX2 tyX2_ok rfl dfX2 kc8_15 ki2 kn2 (Nat.le_of_ble_eq_true rfl) (Nat.le_of_ble_eq_true rfl) ?_
  refine bw_N (n' := 94) (cu' := 1) (su' := 2) rfl rfl rfl ?_
  refine bw_dup dX8_init_24 rfl ?_
  refine bw_ic (nI 2) dX8_init_25 (by decide) ?_
  refine bw_iload_n dX8_init_26 rfl ?_
  refine bw_imul dX8_init_27 ?_
  refine bw_eq (show _ = nI 16 by decide) ?_
  refine bw_ic (nI 2) dX8_init_28 (by decide) ?_
  refine bw_isub dX8_init_29 ?_
  refine bw_eq (show _ = nI 14 by decide) ?_
  refine bw_call (o := 93) (As := [.int (nI 14)]) dX8_init_30 kI8_17 okI2 rfl rfl (Nat.le_of_ble_eq_true rfl) ⟨Nat.le_of_ble_eq_true rfl, Nat.le_of_ble_eq_true rfl⟩ ⟨Nat.le_of_ble_eq_true rfl, Nat.le_of_ble_eq_true rfl⟩ (b2_93 (updE_s _ _ _)) rfl (fun E1 h1 => ?_)
  refine bw_N (n' := 98) (cu' := 5) (su' := 34) rfl rfl rfl ?_
  refine bw_put (ci := 8) (k := 0) (o := 92) (fs := [.null, .int 0, .int 0, .int 0, .null, .null, .null, .int 0, .null, .int 0, .int 0, .int 0]) (v := .ref (ad g 93)) (ty := tyX8 0) dX8_init_33 inX8 tyX8_ok nmX8 rfl (by decide) ((h1.1 92 (by decide)).trans ((updE_n (by decide)).trans hE)) (by decide) rfl rfl rfl rfl rfl (Nat.le_of_ble_eq_true rfl) kf8_20 ?_
  refine bw_aload_n dX8_init_36 rfl ?_
  refine bw_ic (nI 2) dX8_init_37 (by decide) ?_
  refine bw_iload_n dX8_init_38 rfl ?_
  refine bw_imul dX8_init_39 ?_
  refine bw_eq (show _ = nI 16 by decide) ?_
  refine bw_iload_n dX8_init_40 rfl ?_
  refine bw_ic (nI 1) dX8_init_41 (by decide) ?_
  refine bw_isub dX8_init_42 ?_
  refine bw_eq (show _ = nI 7 by decide) ?_
  refine bw_imul dX8_init_43 ?_
  refine bw_eq (show _ = nI 112 by decide) ?_
  refine bw_newa_bool (N := 112) dX8_init_44 rfl (by decide) (Nat.le_of_ble_eq_true rfl) (Nat.le_of_ble_eq_true rfl) ?_
  refine bw_N (n' := 99) (cu' := 6) (su' := 146) rfl rfl rfl ?_
  refine bw_put (ci := 8) (k := 4) (o := 92) (fs := [.ref (ad g 93), .int 0, .int 0, .int 0, .null, .null, .null, .int 0, .null, .int 0, .int 0, .int 0]) (v := .ref (ad g 98)) (ty := tyX8 4) dX8_init_46 inX8 tyX8_ok nmX8 rfl (by decide) ((updE_n (by decide)).trans (updE_s _ _ _)) (by decide) rfl rfl rfl rfl rfl (Nat.le_of_ble_eq_true rfl) kf8_26 ?_
  refine bw_aload_n dX8_init_49 rfl ?_
  refine bw_iload_n dX8_init_50 rfl ?_
  refine bw_newa_int (N := 49) dX8_init_51 rfl (by decide) (Nat.le_of_ble_eq_true rfl) (Nat.le_of_ble_eq_true rfl) ?_
  refine bw_N (n' := 100) (cu' := 7) (su' := 195) rfl rfl rfl ?_
  refine bw_put (ci := 8) (k := 5) (o := 92) (fs := [.ref (ad g 93), .int 0, .int 0, .int 0, .ref (ad g 98), .null, .null, .int 0, .null, .int 0, .int 0, .int 0]) (v := .ref (ad g 99)) (ty := tyX8 5) dX8_init_53 inX8 tyX8_ok nmX8 rfl (by decide) ((updE_n (by decide)).trans (updE_s _ _ _)) (by decide) rfl rfl rfl rfl rfl (Nat.le_of_ble_eq_true rfl) kf8_30 ?_
  refine bw_aload_n dX8_init_56 rfl ?_
  refine bw_bi (nI 7) dX8_init_57 (by decide) ?_
  refine bw_iload_n dX8_init_59 rfl ?_
  refine bw_multi (N := 7) (M := 49) dX8_init_60 kc8_34 rfl rfl (by decide) (by decide) (by decide) (Nat.le_of_ble_eq_true rfl) (Nat.le_of_ble_eq_true rfl) ?_
  refine bw_N (n' := 108) (cu' := 15) (su' := 545) rfl rfl rfl ?_
  refine bw_put (ci := 8) (k := 6) (o := 92) (fs := [.ref (ad g 93), .int 0, .int 0, .int 0, .ref (ad g 98), .ref (ad g 99), .null, .int 0, .null, .int 0, .int 0, .int 0]) (v := .ref (ad g 100)) (ty := tyX8 6) dX8_init_64 inX8 tyX8_ok nmX8 rfl (by decide) ((rowsE_o (by decide)).trans (updE_s _ _ _)) (by decide) rfl rfl rfl rfl rfl (Nat.le_of_ble_eq_true rfl) kf8_36 ?_
  refine bw_aload_n dX8_init_67 rfl ?_
  refine bw_ic (nI 3) dX8_init_68 (by decide) ?_
  refine bw_iload_n dX8_init_69 rfl ?_
  refine bw_multi (N := 3) (M := 49) dX8_init_70 kc8_34 rfl rfl (by decide) (by decide) (by decide) (Nat.le_of_ble_eq_true rfl) (Nat.le_of_ble_eq_true rfl) ?_
  refine bw_N (n' := 112) (cu' := 19) (su' := 695) rfl rfl rfl ?_
  refine bw_put (ci := 8) (k := 8) (o := 92) (fs := [.ref (ad g 93), .int 0, .int 0, .int 0, .ref (ad g 98), .ref (ad g 99), .ref (ad g 100), .int 0, .null, .int 0, .int 0, .int 0]) (v := .ref (ad g 108)) (ty := tyX8 8) dX8_init_74 inX8 tyX8_ok nmX8 rfl (by decide) ((rowsE_o (by decide)).trans (updE_s _ _ _)) (by decide) rfl rfl rfl rfl rfl (Nat.le_of_ble_eq_true rfl) kf8_39 ?_
  refine bw_ret dX8_init_77 (Nat.le_of_ble_eq_true rfl) (Nat.le_of_ble_eq_true rfl) ⟨fun k hk => ?_, fun k h1_ h2_ => ?_⟩
  · exact ((updE_n (by omega)).trans ((rowsE_o (by omega)).trans ((updE_n (by omega)).trans ((rowsE_o (by omega)).trans ((updE_n (by omega)).trans ((updE_n (by omega)).trans ((updE_n (by omega)).trans ((updE_n (by omega)).trans ((updE_n (by omega)).trans ((h1.1 k (by omega)).trans ((updE_n (by omega)).trans rfl)))))))))))
  · rcases (by omega : k = 92 ∨ (93 ≤ k ∧ k < 98) ∨ k = 98 ∨ k = 99 ∨ (100 ≤ k ∧ k < 108) ∨ (108 ≤ k ∧ k < 112)) with rfl | hr | rfl | rfl | hr | hr
    · exact ((updE_s _ _ _).trans (cl_is k_92 rfl))
    · exact ((updE_n (by omega)).trans ((rowsE_o (by omega)).trans ((updE_n (by omega)).trans ((rowsE_o (by omega)).trans ((updE_n (by omega)).trans ((updE_n (by omega)).trans ((updE_n (by omega)).trans ((updE_n (by omega)).trans ((updE_n (by omega)).trans (h1.2 k (by omega) (by omega)))))))))))
    · exact ((updE_n (by decide)).trans ((rowsE_o (by decide)).trans ((updE_n (by decide)).trans ((rowsE_o (by decide)).trans ((updE_n (by decide)).trans ((updE_n (by decide)).trans ((updE_n (by decide)).trans ((updE_s _ _ _).trans (cl_is k_98 rfl)))))))))
    · exact ((updE_n (by decide)).trans ((rowsE_o (by decide)).trans ((updE_n (by decide)).trans ((rowsE_o (by decide)).trans ((updE_n (by decide)).trans ((updE_s _ _ _).trans (cl_is k_99 rfl)))))))
    · rcases (by omega : k = 100 ∨ k = 101 ∨ k = 102 ∨ k = 103 ∨ k = 104 ∨ k = 105 ∨ k = 106 ∨ k = 107) with rfl | rfl | rfl | rfl | rfl | rfl | rfl | rfl
      · exact ((updE_n (by decide)).trans ((rowsE_o (by decide)).trans ((updE_n (by decide)).trans (cl_is k_100 rfl))))
      · exact ((updE_n (by decide)).trans ((rowsE_o (by decide)).trans ((updE_n (by decide)).trans (cl_is k_101 rfl))))
      · exact ((updE_n (by decide)).trans ((rowsE_o (by decide)).trans ((updE_n (by decide)).trans (cl_is k_102 rfl))))
      · exact ((updE_n (by decide)).trans ((rowsE_o (by decide)).trans ((updE_n (by decide)).trans (cl_is k_103 rfl))))
      · exact ((updE_n (by decide)).trans ((rowsE_o (by decide)).trans ((updE_n (by decide)).trans (cl_is k_104 rfl))))
      · exact ((updE_n (by decide)).trans ((rowsE_o (by decide)).trans ((updE_n (by decide)).trans (cl_is k_105 rfl))))
      · exact ((updE_n (by decide)).trans ((rowsE_o (by decide)).trans ((updE_n (by decide)).trans (cl_is k_106 rfl))))
      · exact ((updE_n (by decide)).trans ((rowsE_o (by decide)).trans ((updE_n (by decide)).trans (cl_is k_107 rfl))))
    · rcases (by omega : k = 108 ∨ k = 109 ∨ k = 110 ∨ k = 111) with rfl | rfl | rfl | rfl
      · exact ((updE_n (by decide)).trans (cl_is k_108 rfl))
      · exact ((updE_n (by decide)).trans (cl_is k_109 rfl))
      · exact ((updE_n (by decide)).trans (cl_is k_110 rfl))
      · exact ((updE_n (by decide)).trans (cl_is k_111 rfl))
set_option maxHeartbeats 4000000 in
set_option maxRecDepth 100000 in
theorem b2_113 {g : GG} {E : Nat → va_E} (hE : E 113 = .inr (2, [.null, .null])) : Ctb g yX2_init cX2_init 2 1 40 4 24 [.ref (ad g 113), .int (nI 10)] 114 E 118 (FinB g E 113 118) := by
  refine bt_of (own := RX2) (lv := [some (.ref (ad g 113)), some (.int (nI 10))]) rfl rfl (by decide) (Nat.le_of_ble_eq_true rfl) (by intro u hu; simp only [List.mem_cons, List.not_mem_nil, or_false] at hu; rcases hu with rfl | rfl <;> rfl) (lv_ok [.ref (ad g 113), .int (nI 10)] 0) ?_
  refine bw_aload_n dX2_init_0 rfl ?_
  refine bw_obj dX2_init_1 kI2_3 (Nat.le_of_ble_eq_true rfl) (Nat.le_of_ble_eq_true rfl) ?_
  refine bw_aload_n dX2_init_4 rfl ?_
  refine bw_ic (nI 2) dX2_init_5 (by decide) ?_
  refine bw_ic (nI 0) dX2_init_6 (by decide) ?_
  refine bw_iload_n dX2_init_7 rfl ?_
  refine bw_max dX2_init_8 km2_9 ⟨Nat.le_of_ble_eq_true rfl, Nat.le_of_ble_eq_true rfl⟩ ⟨Nat.le_of_ble_eq_true rfl, Nat.le_of_ble_eq_true rfl⟩ ?_
  refine bw_eq (show _ = nI 10 by decide) ?_
  refine bw_multi (N := 2) (M := 10) dX2_init_11 kc2_15 rfl rfl (by decide) (by decide) (by decide) (Nat.le_of_ble_eq_true rfl) (Nat.le_of_ble_eq_true rfl) ?_
  refine bw_N (n' := 117) (cu' := 3) (su' := 22) rfl rfl rfl ?_
  refine bw_put (ci := 2) (k := 0) (o := 113) (fs := [.null, .null]) (v := .ref (ad g 114)) (ty := tyX2 0) dX2_init_15 inX2 tyX2_ok nmX2 rfl (by decide) ((rowsE_o (by decide)).trans hE) (by decide) rfl rfl rfl rfl rfl (Nat.le_of_ble_eq_true rfl) kf2_17 ?_
  refine bw_aload_n dX2_init_18 rfl ?_
  refine bw_ic (nI 2) dX2_init_19 (by decide) ?_
  refine bw_newa_int (N := 2) dX2_init_20 rfl (by decide) (Nat.le_of_ble_eq_true rfl) (Nat.le_of_ble_eq_true rfl) ?_
  refine bw_N (n' := 118) (cu' := 4) (su' := 24) rfl rfl rfl ?_
  refine bw_put (ci := 2) (k := 1) (o := 113) (fs := [.ref (ad g 114), .null]) (v := .ref (ad g 117)) (ty := tyX2 1) dX2_init_22 inX2 tyX2_ok nmX2 rfl (by decide) ((updE_n (by decide)).trans (updE_s _ _ _)) (by decide) rfl rfl rfl rfl rfl (Nat.le_of_ble_eq_true rfl) kf2_22 ?_
  refine bw_ret dX2_init_25 (Nat.le_of_ble_eq_true rfl) (Nat.le_of_ble_eq_true rfl) ⟨fun k hk => ?_, fun k h1_ h2_ => ?_⟩
  · exact ((updE_n (by omega)).trans ((updE_n (by omega)).trans ((updE_n (by omega)).trans ((rowsE_o (by omega)).trans rfl))))
  · rcases (by omega : k = 113 ∨ (114 ≤ k ∧ k < 117) ∨ k = 117) with rfl | hr | rfl
    · exact ((updE_s _ _ _).trans (cl_is k_113 rfl))
    · rcases (by omega : k = 114 ∨ k = 115 ∨ k = 116) with rfl | rfl | rfl
      · exact ((updE_n (by decide)).trans ((updE_n (by decide)).trans ((updE_n (by decide)).trans (cl_is k_114 rfl))))
      · exact ((updE_n (by decide)).trans ((updE_n (by decide)).trans ((updE_n (by decide)).trans (cl_is k_115 rfl))))
      · exact ((updE_n (by decide)).trans ((updE_n (by decide)).trans ((updE_n (by decide)).trans (cl_is k_116 rfl))))
    · exact ((updE_n (by decide)).trans ((updE_s _ _ _).trans (cl_is k_117 rfl)))
set_option maxHeartbeats 4000000 in
set_option maxRecDepth 100000 in
theorem b8_112 {g : GG} {E : Nat → va_E} (hE : E 112 = .inr (8, [.null, .int 0, .int 0, .int 0, .null, .null, .null, .int 0, .null, .int 0, .int 0, .int 0])) : Ctb g yX8_init cX8_init 4 2 63 19 371 [.ref (ad g 112), .int (nI 12)] 113 E 132 (FinB g E 112 132) := by
  refine bt_of (own := RX8) (lv := [some (.ref (ad g 112)), some (.int (nI 12)), none, none]) rfl rfl (by decide) (Nat.le_of_ble_eq_true rfl) (by intro u hu; simp only [List.mem_cons, List.not_mem_nil, or_false] at hu; rcases hu with rfl | rfl <;> rfl) (lv_ok [.ref (ad g 112), .int (nI 12)] 2) ?_
  refine bw_aload_n dX8_init_0 rfl ?_
  refine bw_obj dX8_init_1 kI8_3 (Nat.le_of_ble_eq_true rfl) (Nat.le_of_ble_eq_true rfl) ?_
  refine bw_ic (nI 2) dX8_init_4 (by decide) ?_
  refine bw_iload_n dX8_init_5 rfl ?_
  refine bw_ic (nI 2) dX8_init_6 (by decide) ?_
  refine bw_idiv dX8_init_7 (by decide) ?_
  refine bw_eq (show _ = nI 6 by decide) ?_
  refine bw_max dX8_init_8 km8_9 ⟨Nat.le_of_ble_eq_true rfl, Nat.le_of_ble_eq_true rfl⟩ ⟨Nat.le_of_ble_eq_true rfl, Nat.le_of_ble_eq_true rfl⟩ ?_
  refine bw_eq (show _ = nI 6 by decide) ?_
  refine bw_istore_n dX8_init_11 (Nat.le_of_ble_eq_true rfl) ?_
  refine bw_iload_n dX8_init_12 rfl ?_
  refine bw_ic (nI 1) dX8_init_13 (by decide) ?_
  refine bw_isub dX8_init_14 ?_
  refine bw_eq (show _ = nI 5 by decide) ?_
  refine bw_iload_n dX8_init_15 rfl ?_
  refine bw_ic (nI 1) dX8_init_16 (by decide) ?_
  refine bw_isub dX8_init_17 ?_
  refine bw_eq (show _ = nI 5 by decide) ?_
  refine bw_imul dX8_init_18 ?_
  refine bw_eq (show _ = nI 25 by decide) ?_
  refine bw_istore_n dX8_init_19 (Nat.le_of_ble_eq_true rfl) ?_
  refine bw_aload_n dX8_init_20 rfl ?_
  refine bw_new (ci := 2) (fs := [.null, .null]) dX8_init_21 inX2 tyX2_ok rfl dfX2 kc8_15 ki2 kn2 (Nat.le_of_ble_eq_true rfl) (Nat.le_of_ble_eq_true rfl) ?_
  refine bw_N (n' := 114) (cu' := 1) (su' := 2) rfl rfl rfl ?_
  refine bw_dup dX8_init_24 rfl ?_
  refine bw_ic (nI 2) dX8_init_25 (by decide) ?_
  refine bw_iload_n dX8_init_26 rfl ?_
  refine bw_imul dX8_init_27 ?_
  refine bw_eq (show _ = nI 12 by decide) ?_
  refine bw_ic (nI 2) dX8_init_28 (by decide) ?_
  refine bw_isub dX8_init_29 ?_
  refine bw_eq (show _ = nI 10 by decide) ?_
  refine bw_call (o := 113) (As := [.int (nI 10)]) dX8_init_30 kI8_17 okI2 rfl rfl (Nat.le_of_ble_eq_true rfl) ⟨Nat.le_of_ble_eq_true rfl, Nat.le_of_ble_eq_true rfl⟩ ⟨Nat.le_of_ble_eq_true rfl, Nat.le_of_ble_eq_true rfl⟩ (b2_113 (updE_s _ _ _)) rfl (fun E1 h1 => ?_)
  refine bw_N (n' := 118) (cu' := 5) (su' := 26) rfl rfl rfl ?_
  refine bw_put (ci := 8) (k := 0) (o := 112) (fs := [.null, .int 0, .int 0, .int 0, .null, .null, .null, .int 0, .null, .int 0, .int 0, .int 0]) (v := .ref (ad g 113)) (ty := tyX8 0) dX8_init_33 inX8 tyX8_ok nmX8 rfl (by decide) ((h1.1 112 (by decide)).trans ((updE_n (by decide)).trans hE)) (by decide) rfl rfl rfl rfl rfl (Nat.le_of_ble_eq_true rfl) kf8_20 ?_
  refine bw_aload_n dX8_init_36 rfl ?_
  refine bw_ic (nI 2) dX8_init_37 (by decide) ?_
  refine bw_iload_n dX8_init_38 rfl ?_
  refine bw_imul dX8_init_39 ?_
  refine bw_eq (show _ = nI 12 by decide) ?_
  refine bw_iload_n dX8_init_40 rfl ?_
  refine bw_ic (nI 1) dX8_init_41 (by decide) ?_
  refine bw_isub dX8_init_42 ?_
  refine bw_eq (show _ = nI 5 by decide) ?_
  refine bw_imul dX8_init_43 ?_
  refine bw_eq (show _ = nI 60 by decide) ?_
  refine bw_newa_bool (N := 60) dX8_init_44 rfl (by decide) (Nat.le_of_ble_eq_true rfl) (Nat.le_of_ble_eq_true rfl) ?_
  refine bw_N (n' := 119) (cu' := 6) (su' := 86) rfl rfl rfl ?_
  refine bw_put (ci := 8) (k := 4) (o := 112) (fs := [.ref (ad g 113), .int 0, .int 0, .int 0, .null, .null, .null, .int 0, .null, .int 0, .int 0, .int 0]) (v := .ref (ad g 118)) (ty := tyX8 4) dX8_init_46 inX8 tyX8_ok nmX8 rfl (by decide) ((updE_n (by decide)).trans (updE_s _ _ _)) (by decide) rfl rfl rfl rfl rfl (Nat.le_of_ble_eq_true rfl) kf8_26 ?_
  refine bw_aload_n dX8_init_49 rfl ?_
  refine bw_iload_n dX8_init_50 rfl ?_
  refine bw_newa_int (N := 25) dX8_init_51 rfl (by decide) (Nat.le_of_ble_eq_true rfl) (Nat.le_of_ble_eq_true rfl) ?_
  refine bw_N (n' := 120) (cu' := 7) (su' := 111) rfl rfl rfl ?_
  refine bw_put (ci := 8) (k := 5) (o := 112) (fs := [.ref (ad g 113), .int 0, .int 0, .int 0, .ref (ad g 118), .null, .null, .int 0, .null, .int 0, .int 0, .int 0]) (v := .ref (ad g 119)) (ty := tyX8 5) dX8_init_53 inX8 tyX8_ok nmX8 rfl (by decide) ((updE_n (by decide)).trans (updE_s _ _ _)) (by decide) rfl rfl rfl rfl rfl (Nat.le_of_ble_eq_true rfl) kf8_30 ?_
  refine bw_aload_n dX8_init_56 rfl ?_
  refine bw_bi (nI 7) dX8_init_57 (by decide) ?_
  refine bw_iload_n dX8_init_59 rfl ?_
  refine bw_multi (N := 7) (M := 25) dX8_init_60 kc8_34 rfl rfl (by decide) (by decide) (by decide) (Nat.le_of_ble_eq_true rfl) (Nat.le_of_ble_eq_true rfl) ?_
  refine bw_N (n' := 128) (cu' := 15) (su' := 293) rfl rfl rfl ?_
  refine bw_put (ci := 8) (k := 6) (o := 112) (fs := [.ref (ad g 113), .int 0, .int 0, .int 0, .ref (ad g 118), .ref (ad g 119), .null, .int 0, .null, .int 0, .int 0, .int 0]) (v := .ref (ad g 120)) (ty := tyX8 6) dX8_init_64 inX8 tyX8_ok nmX8 rfl (by decide) ((rowsE_o (by decide)).trans (updE_s _ _ _)) (by decide) rfl rfl rfl rfl rfl (Nat.le_of_ble_eq_true rfl) kf8_36 ?_
  refine bw_aload_n dX8_init_67 rfl ?_
  refine bw_ic (nI 3) dX8_init_68 (by decide) ?_
  refine bw_iload_n dX8_init_69 rfl ?_
  refine bw_multi (N := 3) (M := 25) dX8_init_70 kc8_34 rfl rfl (by decide) (by decide) (by decide) (Nat.le_of_ble_eq_true rfl) (Nat.le_of_ble_eq_true rfl) ?_
  refine bw_N (n' := 132) (cu' := 19) (su' := 371) rfl rfl rfl ?_
  refine bw_put (ci := 8) (k := 8) (o := 112) (fs := [.ref (ad g 113), .int 0, .int 0, .int 0, .ref (ad g 118), .ref (ad g 119), .ref (ad g 120), .int 0, .null, .int 0, .int 0, .int 0]) (v := .ref (ad g 128)) (ty := tyX8 8) dX8_init_74 inX8 tyX8_ok nmX8 rfl (by decide) ((rowsE_o (by decide)).trans (updE_s _ _ _)) (by decide) rfl rfl rfl rfl rfl (Nat.le_of_ble_eq_true rfl) kf8_39 ?_
  refine bw_ret dX8_init_77 (Nat.le_of_ble_eq_true rfl) (Nat.le_of_ble_eq_true rfl) ⟨fun k hk => ?_, fun k h1_ h2_ => ?_⟩
  · exact ((updE_n (by omega)).trans ((rowsE_o (by omega)).trans ((updE_n (by omega)).trans ((rowsE_o (by omega)).trans ((updE_n (by omega)).trans ((updE_n (by omega)).trans ((updE_n (by omega)).trans ((updE_n (by omega)).trans ((updE_n (by omega)).trans ((h1.1 k (by omega)).trans ((updE_n (by omega)).trans rfl)))))))))))
  · rcases (by omega : k = 112 ∨ (113 ≤ k ∧ k < 118) ∨ k = 118 ∨ k = 119 ∨ (120 ≤ k ∧ k < 128) ∨ (128 ≤ k ∧ k < 132)) with rfl | hr | rfl | rfl | hr | hr
    · exact ((updE_s _ _ _).trans (cl_is k_112 rfl))
    · exact ((updE_n (by omega)).trans ((rowsE_o (by omega)).trans ((updE_n (by omega)).trans ((rowsE_o (by omega)).trans ((updE_n (by omega)).trans ((updE_n (by omega)).trans ((updE_n (by omega)).trans ((updE_n (by omega)).trans ((updE_n (by omega)).trans (h1.2 k (by omega) (by omega)))))))))))
    · exact ((updE_n (by decide)).trans ((rowsE_o (by decide)).trans ((updE_n (by decide)).trans ((rowsE_o (by decide)).trans ((updE_n (by decide)).trans ((updE_n (by decide)).trans ((updE_n (by decide)).trans ((updE_s _ _ _).trans (cl_is k_118 rfl)))))))))
    · exact ((updE_n (by decide)).trans ((rowsE_o (by decide)).trans ((updE_n (by decide)).trans ((rowsE_o (by decide)).trans ((updE_n (by decide)).trans ((updE_s _ _ _).trans (cl_is k_119 rfl)))))))
    · rcases (by omega : k = 120 ∨ k = 121 ∨ k = 122 ∨ k = 123 ∨ k = 124 ∨ k = 125 ∨ k = 126 ∨ k = 127) with rfl | rfl | rfl | rfl | rfl | rfl | rfl | rfl
      · exact ((updE_n (by decide)).trans ((rowsE_o (by decide)).trans ((updE_n (by decide)).trans (cl_is k_120 rfl))))
      · exact ((updE_n (by decide)).trans ((rowsE_o (by decide)).trans ((updE_n (by decide)).trans (cl_is k_121 rfl))))
      · exact ((updE_n (by decide)).trans ((rowsE_o (by decide)).trans ((updE_n (by decide)).trans (cl_is k_122 rfl))))
      · exact ((updE_n (by decide)).trans ((rowsE_o (by decide)).trans ((updE_n (by decide)).trans (cl_is k_123 rfl))))
      · exact ((updE_n (by decide)).trans ((rowsE_o (by decide)).trans ((updE_n (by decide)).trans (cl_is k_124 rfl))))
      · exact ((updE_n (by decide)).trans ((rowsE_o (by decide)).trans ((updE_n (by decide)).trans (cl_is k_125 rfl))))
      · exact ((updE_n (by decide)).trans ((rowsE_o (by decide)).trans ((updE_n (by decide)).trans (cl_is k_126 rfl))))
      · exact ((updE_n (by decide)).trans ((rowsE_o (by decide)).trans ((updE_n (by decide)).trans (cl_is k_127 rfl))))
    · rcases (by omega : k = 128 ∨ k = 129 ∨ k = 130 ∨ k = 131) with rfl | rfl | rfl | rfl
      · exact ((updE_n (by decide)).trans (cl_is k_128 rfl))
      · exact ((updE_n (by decide)).trans (cl_is k_129 rfl))
      · exact ((updE_n (by decide)).trans (cl_is k_130 rfl))
      · exact ((updE_n (by decide)).trans (cl_is k_131 rfl))
set_option maxHeartbeats 4000000 in
set_option maxRecDepth 100000 in
theorem b2_133 {g : GG} {E : Nat → va_E} (hE : E 133 = .inr (2, [.null, .null])) : Ctb g yX2_init cX2_init 2 1 40 4 16 [.ref (ad g 133), .int (nI 6)] 134 E 138 (FinB g E 133 138) := by
  refine bt_of (own := RX2) (lv := [some (.ref (ad g 133)), some (.int (nI 6))]) rfl rfl (by decide) (Nat.le_of_ble_eq_true rfl) (by intro u hu; simp only [List.mem_cons, List.not_mem_nil, or_false] at hu; rcases hu with rfl | rfl <;> rfl) (lv_ok [.ref (ad g 133), .int (nI 6)] 0) ?_
  refine bw_aload_n dX2_init_0 rfl ?_
  refine bw_obj dX2_init_1 kI2_3 (Nat.le_of_ble_eq_true rfl) (Nat.le_of_ble_eq_true rfl) ?_
  refine bw_aload_n dX2_init_4 rfl ?_
  refine bw_ic (nI 2) dX2_init_5 (by decide) ?_
  refine bw_ic (nI 0) dX2_init_6 (by decide) ?_
  refine bw_iload_n dX2_init_7 rfl ?_
  refine bw_max dX2_init_8 km2_9 ⟨Nat.le_of_ble_eq_true rfl, Nat.le_of_ble_eq_true rfl⟩ ⟨Nat.le_of_ble_eq_true rfl, Nat.le_of_ble_eq_true rfl⟩ ?_
  refine bw_eq (show _ = nI 6 by decide) ?_
  refine bw_multi (N := 2) (M := 6) dX2_init_11 kc2_15 rfl rfl (by decide) (by decide) (by decide) (Nat.le_of_ble_eq_true rfl) (Nat.le_of_ble_eq_true rfl) ?_
  refine bw_N (n' := 137) (cu' := 3) (su' := 14) rfl rfl rfl ?_
  refine bw_put (ci := 2) (k := 0) (o := 133) (fs := [.null, .null]) (v := .ref (ad g 134)) (ty := tyX2 0) dX2_init_15 inX2 tyX2_ok nmX2 rfl (by decide) ((rowsE_o (by decide)).trans hE) (by decide) rfl rfl rfl rfl rfl (Nat.le_of_ble_eq_true rfl) kf2_17 ?_
  refine bw_aload_n dX2_init_18 rfl ?_
  refine bw_ic (nI 2) dX2_init_19 (by decide) ?_
  refine bw_newa_int (N := 2) dX2_init_20 rfl (by decide) (Nat.le_of_ble_eq_true rfl) (Nat.le_of_ble_eq_true rfl) ?_
  refine bw_N (n' := 138) (cu' := 4) (su' := 16) rfl rfl rfl ?_
  refine bw_put (ci := 2) (k := 1) (o := 133) (fs := [.ref (ad g 134), .null]) (v := .ref (ad g 137)) (ty := tyX2 1) dX2_init_22 inX2 tyX2_ok nmX2 rfl (by decide) ((updE_n (by decide)).trans (updE_s _ _ _)) (by decide) rfl rfl rfl rfl rfl (Nat.le_of_ble_eq_true rfl) kf2_22 ?_
  refine bw_ret dX2_init_25 (Nat.le_of_ble_eq_true rfl) (Nat.le_of_ble_eq_true rfl) ⟨fun k hk => ?_, fun k h1_ h2_ => ?_⟩
  · exact ((updE_n (by omega)).trans ((updE_n (by omega)).trans ((updE_n (by omega)).trans ((rowsE_o (by omega)).trans rfl))))
  · rcases (by omega : k = 133 ∨ (134 ≤ k ∧ k < 137) ∨ k = 137) with rfl | hr | rfl
    · exact ((updE_s _ _ _).trans (cl_is k_133 rfl))
    · rcases (by omega : k = 134 ∨ k = 135 ∨ k = 136) with rfl | rfl | rfl
      · exact ((updE_n (by decide)).trans ((updE_n (by decide)).trans ((updE_n (by decide)).trans (cl_is k_134 rfl))))
      · exact ((updE_n (by decide)).trans ((updE_n (by decide)).trans ((updE_n (by decide)).trans (cl_is k_135 rfl))))
      · exact ((updE_n (by decide)).trans ((updE_n (by decide)).trans ((updE_n (by decide)).trans (cl_is k_136 rfl))))
    · exact ((updE_n (by decide)).trans ((updE_s _ _ _).trans (cl_is k_137 rfl)))
set_option maxHeartbeats 4000000 in
set_option maxRecDepth 100000 in
theorem b8_132 {g : GG} {E : Nat → va_E} (hE : E 132 = .inr (8, [.null, .int 0, .int 0, .int 0, .null, .null, .null, .int 0, .null, .int 0, .int 0, .int 0])) : Ctb g yX8_init cX8_init 4 2 63 19 151 [.ref (ad g 132), .int (nI 8)] 133 E 152 (FinB g E 132 152) := by
  refine bt_of (own := RX8) (lv := [some (.ref (ad g 132)), some (.int (nI 8)), none, none]) rfl rfl (by decide) (Nat.le_of_ble_eq_true rfl) (by intro u hu; simp only [List.mem_cons, List.not_mem_nil, or_false] at hu; rcases hu with rfl | rfl <;> rfl) (lv_ok [.ref (ad g 132), .int (nI 8)] 2) ?_
  refine bw_aload_n dX8_init_0 rfl ?_
  refine bw_obj dX8_init_1 kI8_3 (Nat.le_of_ble_eq_true rfl) (Nat.le_of_ble_eq_true rfl) ?_
  refine bw_ic (nI 2) dX8_init_4 (by decide) ?_
  refine bw_iload_n dX8_init_5 rfl ?_
  refine bw_ic (nI 2) dX8_init_6 (by decide) ?_
  refine bw_idiv dX8_init_7 (by decide) ?_
  refine bw_eq (show _ = nI 4 by decide) ?_
  refine bw_max dX8_init_8 km8_9 ⟨Nat.le_of_ble_eq_true rfl, Nat.le_of_ble_eq_true rfl⟩ ⟨Nat.le_of_ble_eq_true rfl, Nat.le_of_ble_eq_true rfl⟩ ?_
  refine bw_eq (show _ = nI 4 by decide) ?_
  refine bw_istore_n dX8_init_11 (Nat.le_of_ble_eq_true rfl) ?_
  refine bw_iload_n dX8_init_12 rfl ?_
  refine bw_ic (nI 1) dX8_init_13 (by decide) ?_
  refine bw_isub dX8_init_14 ?_
  refine bw_eq (show _ = nI 3 by decide) ?_
  refine bw_iload_n dX8_init_15 rfl ?_
  refine bw_ic (nI 1) dX8_init_16 (by decide) ?_
  refine bw_isub dX8_init_17 ?_
  refine bw_eq (show _ = nI 3 by decide) ?_
  refine bw_imul dX8_init_18 ?_
  refine bw_eq (show _ = nI 9 by decide) ?_
  refine bw_istore_n dX8_init_19 (Nat.le_of_ble_eq_true rfl) ?_
  refine bw_aload_n dX8_init_20 rfl ?_
  refine bw_new (ci := 2) (fs := [.null, .null]) dX8_init_21 inX2 tyX2_ok rfl dfX2 kc8_15 ki2 kn2 (Nat.le_of_ble_eq_true rfl) (Nat.le_of_ble_eq_true rfl) ?_
  refine bw_N (n' := 134) (cu' := 1) (su' := 2) rfl rfl rfl ?_
  refine bw_dup dX8_init_24 rfl ?_
  refine bw_ic (nI 2) dX8_init_25 (by decide) ?_
  refine bw_iload_n dX8_init_26 rfl ?_
  refine bw_imul dX8_init_27 ?_
  refine bw_eq (show _ = nI 8 by decide) ?_
  refine bw_ic (nI 2) dX8_init_28 (by decide) ?_
  refine bw_isub dX8_init_29 ?_
  refine bw_eq (show _ = nI 6 by decide) ?_
  refine bw_call (o := 133) (As := [.int (nI 6)]) dX8_init_30 kI8_17 okI2 rfl rfl (Nat.le_of_ble_eq_true rfl) ⟨Nat.le_of_ble_eq_true rfl, Nat.le_of_ble_eq_true rfl⟩ ⟨Nat.le_of_ble_eq_true rfl, Nat.le_of_ble_eq_true rfl⟩ (b2_133 (updE_s _ _ _)) rfl (fun E1 h1 => ?_)
  refine bw_N (n' := 138) (cu' := 5) (su' := 18) rfl rfl rfl ?_
  refine bw_put (ci := 8) (k := 0) (o := 132) (fs := [.null, .int 0, .int 0, .int 0, .null, .null, .null, .int 0, .null, .int 0, .int 0, .int 0]) (v := .ref (ad g 133)) (ty := tyX8 0) dX8_init_33 inX8 tyX8_ok nmX8 rfl (by decide) ((h1.1 132 (by decide)).trans ((updE_n (by decide)).trans hE)) (by decide) rfl rfl rfl rfl rfl (Nat.le_of_ble_eq_true rfl) kf8_20 ?_
  refine bw_aload_n dX8_init_36 rfl ?_
  refine bw_ic (nI 2) dX8_init_37 (by decide) ?_
  refine bw_iload_n dX8_init_38 rfl ?_
  refine bw_imul dX8_init_39 ?_
  refine bw_eq (show _ = nI 8 by decide) ?_
  refine bw_iload_n dX8_init_40 rfl ?_
  refine bw_ic (nI 1) dX8_init_41 (by decide) ?_
  refine bw_isub dX8_init_42 ?_
  refine bw_eq (show _ = nI 3 by decide) ?_
  refine bw_imul dX8_init_43 ?_
  refine bw_eq (show _ = nI 24 by decide) ?_
  refine bw_newa_bool (N := 24) dX8_init_44 rfl (by decide) (Nat.le_of_ble_eq_true rfl) (Nat.le_of_ble_eq_true rfl) ?_
  refine bw_N (n' := 139) (cu' := 6) (su' := 42) rfl rfl rfl ?_
  refine bw_put (ci := 8) (k := 4) (o := 132) (fs := [.ref (ad g 133), .int 0, .int 0, .int 0, .null, .null, .null, .int 0, .null, .int 0, .int 0, .int 0]) (v := .ref (ad g 138)) (ty := tyX8 4) dX8_init_46 inX8 tyX8_ok nmX8 rfl (by decide) ((updE_n (by decide)).trans (updE_s _ _ _)) (by decide) rfl rfl rfl rfl rfl (Nat.le_of_ble_eq_true rfl) kf8_26 ?_
  refine bw_aload_n dX8_init_49 rfl ?_
  refine bw_iload_n dX8_init_50 rfl ?_
  refine bw_newa_int (N := 9) dX8_init_51 rfl (by decide) (Nat.le_of_ble_eq_true rfl) (Nat.le_of_ble_eq_true rfl) ?_
  refine bw_N (n' := 140) (cu' := 7) (su' := 51) rfl rfl rfl ?_
  refine bw_put (ci := 8) (k := 5) (o := 132) (fs := [.ref (ad g 133), .int 0, .int 0, .int 0, .ref (ad g 138), .null, .null, .int 0, .null, .int 0, .int 0, .int 0]) (v := .ref (ad g 139)) (ty := tyX8 5) dX8_init_53 inX8 tyX8_ok nmX8 rfl (by decide) ((updE_n (by decide)).trans (updE_s _ _ _)) (by decide) rfl rfl rfl rfl rfl (Nat.le_of_ble_eq_true rfl) kf8_30 ?_
  refine bw_aload_n dX8_init_56 rfl ?_
  refine bw_bi (nI 7) dX8_init_57 (by decide) ?_
  refine bw_iload_n dX8_init_59 rfl ?_
  refine bw_multi (N := 7) (M := 9) dX8_init_60 kc8_34 rfl rfl (by decide) (by decide) (by decide) (Nat.le_of_ble_eq_true rfl) (Nat.le_of_ble_eq_true rfl) ?_
  refine bw_N (n' := 148) (cu' := 15) (su' := 121) rfl rfl rfl ?_
  refine bw_put (ci := 8) (k := 6) (o := 132) (fs := [.ref (ad g 133), .int 0, .int 0, .int 0, .ref (ad g 138), .ref (ad g 139), .null, .int 0, .null, .int 0, .int 0, .int 0]) (v := .ref (ad g 140)) (ty := tyX8 6) dX8_init_64 inX8 tyX8_ok nmX8 rfl (by decide) ((rowsE_o (by decide)).trans (updE_s _ _ _)) (by decide) rfl rfl rfl rfl rfl (Nat.le_of_ble_eq_true rfl) kf8_36 ?_
  refine bw_aload_n dX8_init_67 rfl ?_
  refine bw_ic (nI 3) dX8_init_68 (by decide) ?_
  refine bw_iload_n dX8_init_69 rfl ?_
  refine bw_multi (N := 3) (M := 9) dX8_init_70 kc8_34 rfl rfl (by decide) (by decide) (by decide) (Nat.le_of_ble_eq_true rfl) (Nat.le_of_ble_eq_true rfl) ?_
  refine bw_N (n' := 152) (cu' := 19) (su' := 151) rfl rfl rfl ?_
  refine bw_put (ci := 8) (k := 8) (o := 132) (fs := [.ref (ad g 133), .int 0, .int 0, .int 0, .ref (ad g 138), .ref (ad g 139), .ref (ad g 140), .int 0, .null, .int 0, .int 0, .int 0]) (v := .ref (ad g 148)) (ty := tyX8 8) dX8_init_74 inX8 tyX8_ok nmX8 rfl (by decide) ((rowsE_o (by decide)).trans (updE_s _ _ _)) (by decide) rfl rfl rfl rfl rfl (Nat.le_of_ble_eq_true rfl) kf8_39 ?_
  refine bw_ret dX8_init_77 (Nat.le_of_ble_eq_true rfl) (Nat.le_of_ble_eq_true rfl) ⟨fun k hk => ?_, fun k h1_ h2_ => ?_⟩
  · exact ((updE_n (by omega)).trans ((rowsE_o (by omega)).trans ((updE_n (by omega)).trans ((rowsE_o (by omega)).trans ((updE_n (by omega)).trans ((updE_n (by omega)).trans ((updE_n (by omega)).trans ((updE_n (by omega)).trans ((updE_n (by omega)).trans ((h1.1 k (by omega)).trans ((updE_n (by omega)).trans rfl)))))))))))
  · rcases (by omega : k = 132 ∨ (133 ≤ k ∧ k < 138) ∨ k = 138 ∨ k = 139 ∨ (140 ≤ k ∧ k < 148) ∨ (148 ≤ k ∧ k < 152)) with rfl | hr | rfl | rfl | hr | hr
    · exact ((updE_s _ _ _).trans (cl_is k_132 rfl))
    · exact ((updE_n (by omega)).trans ((rowsE_o (by omega)).trans ((updE_n (by omega)).trans ((rowsE_o (by omega)).trans ((updE_n (by omega)).trans ((updE_n (by omega)).trans ((updE_n (by omega)).trans ((updE_n (by omega)).trans ((updE_n (by omega)).trans (h1.2 k (by omega) (by omega)))))))))))
    · exact ((updE_n (by decide)).trans ((rowsE_o (by decide)).trans ((updE_n (by decide)).trans ((rowsE_o (by decide)).trans ((updE_n (by decide)).trans ((updE_n (by decide)).trans ((updE_n (by decide)).trans ((updE_s _ _ _).trans (cl_is k_138 rfl)))))))))
    · exact ((updE_n (by decide)).trans ((rowsE_o (by decide)).trans ((updE_n (by decide)).trans ((rowsE_o (by decide)).trans ((updE_n (by decide)).trans ((updE_s _ _ _).trans (cl_is k_139 rfl)))))))
    · rcases (by omega : k = 140 ∨ k = 141 ∨ k = 142 ∨ k = 143 ∨ k = 144 ∨ k = 145 ∨ k = 146 ∨ k = 147) with rfl | rfl | rfl | rfl | rfl | rfl | rfl | rfl
      · exact ((updE_n (by decide)).trans ((rowsE_o (by decide)).trans ((updE_n (by decide)).trans (cl_is k_140 rfl))))
      · exact ((updE_n (by decide)).trans ((rowsE_o (by decide)).trans ((updE_n (by decide)).trans (cl_is k_141 rfl))))
      · exact ((updE_n (by decide)).trans ((rowsE_o (by decide)).trans ((updE_n (by decide)).trans (cl_is k_142 rfl))))
      · exact ((updE_n (by decide)).trans ((rowsE_o (by decide)).trans ((updE_n (by decide)).trans (cl_is k_143 rfl))))
      · exact ((updE_n (by decide)).trans ((rowsE_o (by decide)).trans ((updE_n (by decide)).trans (cl_is k_144 rfl))))
      · exact ((updE_n (by decide)).trans ((rowsE_o (by decide)).trans ((updE_n (by decide)).trans (cl_is k_145 rfl))))
      · exact ((updE_n (by decide)).trans ((rowsE_o (by decide)).trans ((updE_n (by decide)).trans (cl_is k_146 rfl))))
      · exact ((updE_n (by decide)).trans ((rowsE_o (by decide)).trans ((updE_n (by decide)).trans (cl_is k_147 rfl))))
    · rcases (by omega : k = 148 ∨ k = 149 ∨ k = 150 ∨ k = 151) with rfl | rfl | rfl | rfl
      · exact ((updE_n (by decide)).trans (cl_is k_148 rfl))
      · exact ((updE_n (by decide)).trans (cl_is k_149 rfl))
      · exact ((updE_n (by decide)).trans (cl_is k_150 rfl))
      · exact ((updE_n (by decide)).trans (cl_is k_151 rfl))
set_option maxHeartbeats 4000000 in
set_option maxRecDepth 100000 in
theorem b2_153 {g : GG} {E : Nat → va_E} (hE : E 153 = .inr (2, [.null, .null])) : Ctb g yX2_init cX2_init 2 1 40 4 8 [.ref (ad g 153), .int (nI 2)] 154 E 158 (FinB g E 153 158) := by
  refine bt_of (own := RX2) (lv := [some (.ref (ad g 153)), some (.int (nI 2))]) rfl rfl (by decide) (Nat.le_of_ble_eq_true rfl) (by intro u hu; simp only [List.mem_cons, List.not_mem_nil, or_false] at hu; rcases hu with rfl | rfl <;> rfl) (lv_ok [.ref (ad g 153), .int (nI 2)] 0) ?_
  refine bw_aload_n dX2_init_0 rfl ?_
  refine bw_obj dX2_init_1 kI2_3 (Nat.le_of_ble_eq_true rfl) (Nat.le_of_ble_eq_true rfl) ?_
  refine bw_aload_n dX2_init_4 rfl ?_
  refine bw_ic (nI 2) dX2_init_5 (by decide) ?_
  refine bw_ic (nI 0) dX2_init_6 (by decide) ?_
  refine bw_iload_n dX2_init_7 rfl ?_
  refine bw_max dX2_init_8 km2_9 ⟨Nat.le_of_ble_eq_true rfl, Nat.le_of_ble_eq_true rfl⟩ ⟨Nat.le_of_ble_eq_true rfl, Nat.le_of_ble_eq_true rfl⟩ ?_
  refine bw_eq (show _ = nI 2 by decide) ?_
  refine bw_multi (N := 2) (M := 2) dX2_init_11 kc2_15 rfl rfl (by decide) (by decide) (by decide) (Nat.le_of_ble_eq_true rfl) (Nat.le_of_ble_eq_true rfl) ?_
  refine bw_N (n' := 157) (cu' := 3) (su' := 6) rfl rfl rfl ?_
  refine bw_put (ci := 2) (k := 0) (o := 153) (fs := [.null, .null]) (v := .ref (ad g 154)) (ty := tyX2 0) dX2_init_15 inX2 tyX2_ok nmX2 rfl (by decide) ((rowsE_o (by decide)).trans hE) (by decide) rfl rfl rfl rfl rfl (Nat.le_of_ble_eq_true rfl) kf2_17 ?_
  refine bw_aload_n dX2_init_18 rfl ?_
  refine bw_ic (nI 2) dX2_init_19 (by decide) ?_
  refine bw_newa_int (N := 2) dX2_init_20 rfl (by decide) (Nat.le_of_ble_eq_true rfl) (Nat.le_of_ble_eq_true rfl) ?_
  refine bw_N (n' := 158) (cu' := 4) (su' := 8) rfl rfl rfl ?_
  refine bw_put (ci := 2) (k := 1) (o := 153) (fs := [.ref (ad g 154), .null]) (v := .ref (ad g 157)) (ty := tyX2 1) dX2_init_22 inX2 tyX2_ok nmX2 rfl (by decide) ((updE_n (by decide)).trans (updE_s _ _ _)) (by decide) rfl rfl rfl rfl rfl (Nat.le_of_ble_eq_true rfl) kf2_22 ?_
  refine bw_ret dX2_init_25 (Nat.le_of_ble_eq_true rfl) (Nat.le_of_ble_eq_true rfl) ⟨fun k hk => ?_, fun k h1_ h2_ => ?_⟩
  · exact ((updE_n (by omega)).trans ((updE_n (by omega)).trans ((updE_n (by omega)).trans ((rowsE_o (by omega)).trans rfl))))
  · rcases (by omega : k = 153 ∨ (154 ≤ k ∧ k < 157) ∨ k = 157) with rfl | hr | rfl
    · exact ((updE_s _ _ _).trans (cl_is k_153 rfl))
    · rcases (by omega : k = 154 ∨ k = 155 ∨ k = 156) with rfl | rfl | rfl
      · exact ((updE_n (by decide)).trans ((updE_n (by decide)).trans ((updE_n (by decide)).trans (cl_is k_154 rfl))))
      · exact ((updE_n (by decide)).trans ((updE_n (by decide)).trans ((updE_n (by decide)).trans (cl_is k_155 rfl))))
      · exact ((updE_n (by decide)).trans ((updE_n (by decide)).trans ((updE_n (by decide)).trans (cl_is k_156 rfl))))
    · exact ((updE_n (by decide)).trans ((updE_s _ _ _).trans (cl_is k_157 rfl)))
set_option maxHeartbeats 4000000 in
set_option maxRecDepth 100000 in
theorem b8_152 {g : GG} {E : Nat → va_E} (hE : E 152 = .inr (8, [.null, .int 0, .int 0, .int 0, .null, .null, .null, .int 0, .null, .int 0, .int 0, .int 0])) : Ctb g yX8_init cX8_init 4 2 63 19 35 [.ref (ad g 152), .int (nI 4)] 153 E 172 (FinB g E 152 172) := by
  refine bt_of (own := RX8) (lv := [some (.ref (ad g 152)), some (.int (nI 4)), none, none]) rfl rfl (by decide) (Nat.le_of_ble_eq_true rfl) (by intro u hu; simp only [List.mem_cons, List.not_mem_nil, or_false] at hu; rcases hu with rfl | rfl <;> rfl) (lv_ok [.ref (ad g 152), .int (nI 4)] 2) ?_
  refine bw_aload_n dX8_init_0 rfl ?_
  refine bw_obj dX8_init_1 kI8_3 (Nat.le_of_ble_eq_true rfl) (Nat.le_of_ble_eq_true rfl) ?_
  refine bw_ic (nI 2) dX8_init_4 (by decide) ?_
  refine bw_iload_n dX8_init_5 rfl ?_
  refine bw_ic (nI 2) dX8_init_6 (by decide) ?_
  refine bw_idiv dX8_init_7 (by decide) ?_
  refine bw_eq (show _ = nI 2 by decide) ?_
  refine bw_max dX8_init_8 km8_9 ⟨Nat.le_of_ble_eq_true rfl, Nat.le_of_ble_eq_true rfl⟩ ⟨Nat.le_of_ble_eq_true rfl, Nat.le_of_ble_eq_true rfl⟩ ?_
  refine bw_eq (show _ = nI 2 by decide) ?_
  refine bw_istore_n dX8_init_11 (Nat.le_of_ble_eq_true rfl) ?_
  refine bw_iload_n dX8_init_12 rfl ?_
  refine bw_ic (nI 1) dX8_init_13 (by decide) ?_
  refine bw_isub dX8_init_14 ?_
  refine bw_eq (show _ = nI 1 by decide) ?_
  refine bw_iload_n dX8_init_15 rfl ?_
  refine bw_ic (nI 1) dX8_init_16 (by decide) ?_
  refine bw_isub dX8_init_17 ?_
  refine bw_eq (show _ = nI 1 by decide) ?_
  refine bw_imul dX8_init_18 ?_
  refine bw_eq (show _ = nI 1 by decide) ?_
  refine bw_istore_n dX8_init_19 (Nat.le_of_ble_eq_true rfl) ?_
  refine bw_aload_n dX8_init_20 rfl ?_
  refine bw_new (ci := 2) (fs := [.null, .null]) dX8_init_21 inX2 tyX2_ok rfl dfX2 kc8_15 ki2 kn2 (Nat.le_of_ble_eq_true rfl) (Nat.le_of_ble_eq_true rfl) ?_
  refine bw_N (n' := 154) (cu' := 1) (su' := 2) rfl rfl rfl ?_
  refine bw_dup dX8_init_24 rfl ?_
  refine bw_ic (nI 2) dX8_init_25 (by decide) ?_
  refine bw_iload_n dX8_init_26 rfl ?_
  refine bw_imul dX8_init_27 ?_
  refine bw_eq (show _ = nI 4 by decide) ?_
  refine bw_ic (nI 2) dX8_init_28 (by decide) ?_
  refine bw_isub dX8_init_29 ?_
  refine bw_eq (show _ = nI 2 by decide) ?_
  refine bw_call (o := 153) (As := [.int (nI 2)]) dX8_init_30 kI8_17 okI2 rfl rfl (Nat.le_of_ble_eq_true rfl) ⟨Nat.le_of_ble_eq_true rfl, Nat.le_of_ble_eq_true rfl⟩ ⟨Nat.le_of_ble_eq_true rfl, Nat.le_of_ble_eq_true rfl⟩ (b2_153 (updE_s _ _ _)) rfl (fun E1 h1 => ?_)
  refine bw_N (n' := 158) (cu' := 5) (su' := 10) rfl rfl rfl ?_
  refine bw_put (ci := 8) (k := 0) (o := 152) (fs := [.null, .int 0, .int 0, .int 0, .null, .null, .null, .int 0, .null, .int 0, .int 0, .int 0]) (v := .ref (ad g 153)) (ty := tyX8 0) dX8_init_33 inX8 tyX8_ok nmX8 rfl (by decide) ((h1.1 152 (by decide)).trans ((updE_n (by decide)).trans hE)) (by decide) rfl rfl rfl rfl rfl (Nat.le_of_ble_eq_true rfl) kf8_20 ?_
  refine bw_aload_n dX8_init_36 rfl ?_
  refine bw_ic (nI 2) dX8_init_37 (by decide) ?_
  refine bw_iload_n dX8_init_38 rfl ?_
  refine bw_imul dX8_init_39 ?_
  refine bw_eq (show _ = nI 4 by decide) ?_
  refine bw_iload_n dX8_init_40 rfl ?_
  refine bw_ic (nI 1) dX8_init_41 (by decide) ?_
  refine bw_isub dX8_init_42 ?_
  refine bw_eq (show _ = nI 1 by decide) ?_
  refine bw_imul dX8_init_43 ?_
  refine bw_eq (show _ = nI 4 by decide) ?_
  refine bw_newa_bool (N := 4) dX8_init_44 rfl (by decide) (Nat.le_of_ble_eq_true rfl) (Nat.le_of_ble_eq_true rfl) ?_
  refine bw_N (n' := 159) (cu' := 6) (su' := 14) rfl rfl rfl ?_
  refine bw_put (ci := 8) (k := 4) (o := 152) (fs := [.ref (ad g 153), .int 0, .int 0, .int 0, .null, .null, .null, .int 0, .null, .int 0, .int 0, .int 0]) (v := .ref (ad g 158)) (ty := tyX8 4) dX8_init_46 inX8 tyX8_ok nmX8 rfl (by decide) ((updE_n (by decide)).trans (updE_s _ _ _)) (by decide) rfl rfl rfl rfl rfl (Nat.le_of_ble_eq_true rfl) kf8_26 ?_
  refine bw_aload_n dX8_init_49 rfl ?_
  refine bw_iload_n dX8_init_50 rfl ?_
  refine bw_newa_int (N := 1) dX8_init_51 rfl (by decide) (Nat.le_of_ble_eq_true rfl) (Nat.le_of_ble_eq_true rfl) ?_
  refine bw_N (n' := 160) (cu' := 7) (su' := 15) rfl rfl rfl ?_
  refine bw_put (ci := 8) (k := 5) (o := 152) (fs := [.ref (ad g 153), .int 0, .int 0, .int 0, .ref (ad g 158), .null, .null, .int 0, .null, .int 0, .int 0, .int 0]) (v := .ref (ad g 159)) (ty := tyX8 5) dX8_init_53 inX8 tyX8_ok nmX8 rfl (by decide) ((updE_n (by decide)).trans (updE_s _ _ _)) (by decide) rfl rfl rfl rfl rfl (Nat.le_of_ble_eq_true rfl) kf8_30 ?_
  refine bw_aload_n dX8_init_56 rfl ?_
  refine bw_bi (nI 7) dX8_init_57 (by decide) ?_
  refine bw_iload_n dX8_init_59 rfl ?_
  refine bw_multi (N := 7) (M := 1) dX8_init_60 kc8_34 rfl rfl (by decide) (by decide) (by decide) (Nat.le_of_ble_eq_true rfl) (Nat.le_of_ble_eq_true rfl) ?_
  refine bw_N (n' := 168) (cu' := 15) (su' := 29) rfl rfl rfl ?_
  refine bw_put (ci := 8) (k := 6) (o := 152) (fs := [.ref (ad g 153), .int 0, .int 0, .int 0, .ref (ad g 158), .ref (ad g 159), .null, .int 0, .null, .int 0, .int 0, .int 0]) (v := .ref (ad g 160)) (ty := tyX8 6) dX8_init_64 inX8 tyX8_ok nmX8 rfl (by decide) ((rowsE_o (by decide)).trans (updE_s _ _ _)) (by decide) rfl rfl rfl rfl rfl (Nat.le_of_ble_eq_true rfl) kf8_36 ?_
  refine bw_aload_n dX8_init_67 rfl ?_
  refine bw_ic (nI 3) dX8_init_68 (by decide) ?_
  refine bw_iload_n dX8_init_69 rfl ?_
  refine bw_multi (N := 3) (M := 1) dX8_init_70 kc8_34 rfl rfl (by decide) (by decide) (by decide) (Nat.le_of_ble_eq_true rfl) (Nat.le_of_ble_eq_true rfl) ?_
  refine bw_N (n' := 172) (cu' := 19) (su' := 35) rfl rfl rfl ?_
  refine bw_put (ci := 8) (k := 8) (o := 152) (fs := [.ref (ad g 153), .int 0, .int 0, .int 0, .ref (ad g 158), .ref (ad g 159), .ref (ad g 160), .int 0, .null, .int 0, .int 0, .int 0]) (v := .ref (ad g 168)) (ty := tyX8 8) dX8_init_74 inX8 tyX8_ok nmX8 rfl (by decide) ((rowsE_o (by decide)).trans (updE_s _ _ _)) (by decide) rfl rfl rfl rfl rfl (Nat.le_of_ble_eq_true rfl) kf8_39 ?_
  refine bw_ret dX8_init_77 (Nat.le_of_ble_eq_true rfl) (Nat.le_of_ble_eq_true rfl) ⟨fun k hk => ?_, fun k h1_ h2_ => ?_⟩
  · exact ((updE_n (by omega)).trans ((rowsE_o (by omega)).trans ((updE_n (by omega)).trans ((rowsE_o (by omega)).trans ((updE_n (by omega)).trans ((updE_n (by omega)).trans ((updE_n (by omega)).trans ((updE_n (by omega)).trans ((updE_n (by omega)).trans ((h1.1 k (by omega)).trans ((updE_n (by omega)).trans rfl)))))))))))
  · rcases (by omega : k = 152 ∨ (153 ≤ k ∧ k < 158) ∨ k = 158 ∨ k = 159 ∨ (160 ≤ k ∧ k < 168) ∨ (168 ≤ k ∧ k < 172)) with rfl | hr | rfl | rfl | hr | hr
    · exact ((updE_s _ _ _).trans (cl_is k_152 rfl))
    · exact ((updE_n (by omega)).trans ((rowsE_o (by omega)).trans ((updE_n (by omega)).trans ((rowsE_o (by omega)).trans ((updE_n (by omega)).trans ((updE_n (by omega)).trans ((updE_n (by omega)).trans ((updE_n (by omega)).trans ((updE_n (by omega)).trans (h1.2 k (by omega) (by omega)))))))))))
    · exact ((updE_n (by decide)).trans ((rowsE_o (by decide)).trans ((updE_n (by decide)).trans ((rowsE_o (by decide)).trans ((updE_n (by decide)).trans ((updE_n (by decide)).trans ((updE_n (by decide)).trans ((updE_s _ _ _).trans (cl_is k_158 rfl)))))))))
    · exact ((updE_n (by decide)).trans ((rowsE_o (by decide)).trans ((updE_n (by decide)).trans ((rowsE_o (by decide)).trans ((updE_n (by decide)).trans ((updE_s _ _ _).trans (cl_is k_159 rfl)))))))
    · rcases (by omega : k = 160 ∨ k = 161 ∨ k = 162 ∨ k = 163 ∨ k = 164 ∨ k = 165 ∨ k = 166 ∨ k = 167) with rfl | rfl | rfl | rfl | rfl | rfl | rfl | rfl
      · exact ((updE_n (by decide)).trans ((rowsE_o (by decide)).trans ((updE_n (by decide)).trans (cl_is k_160 rfl))))
      · exact ((updE_n (by decide)).trans ((rowsE_o (by decide)).trans ((updE_n (by decide)).trans (cl_is k_161 rfl))))
      · exact ((updE_n (by decide)).trans ((rowsE_o (by decide)).trans ((updE_n (by decide)).trans (cl_is k_162 rfl))))
      · exact ((updE_n (by decide)).trans ((rowsE_o (by decide)).trans ((updE_n (by decide)).trans (cl_is k_163 rfl))))
      · exact ((updE_n (by decide)).trans ((rowsE_o (by decide)).trans ((updE_n (by decide)).trans (cl_is k_164 rfl))))
      · exact ((updE_n (by decide)).trans ((rowsE_o (by decide)).trans ((updE_n (by decide)).trans (cl_is k_165 rfl))))
      · exact ((updE_n (by decide)).trans ((rowsE_o (by decide)).trans ((updE_n (by decide)).trans (cl_is k_166 rfl))))
      · exact ((updE_n (by decide)).trans ((rowsE_o (by decide)).trans ((updE_n (by decide)).trans (cl_is k_167 rfl))))
    · rcases (by omega : k = 168 ∨ k = 169 ∨ k = 170 ∨ k = 171) with rfl | rfl | rfl | rfl
      · exact ((updE_n (by decide)).trans (cl_is k_168 rfl))
      · exact ((updE_n (by decide)).trans (cl_is k_169 rfl))
      · exact ((updE_n (by decide)).trans (cl_is k_170 rfl))
      · exact ((updE_n (by decide)).trans (cl_is k_171 rfl))
set_option maxHeartbeats 4000000 in
set_option maxRecDepth 100000 in
theorem b4_172 {g : GG} {E : Nat → va_E} (hE : E 172 = .inr (4, [.null, .null, .null, .int 0, .int 0])) : Ctb g yX4_init cX4_init 1 1 40 3 60 [.ref (ad g 172)] 173 E 176 (FinB g E 172 176) := by
  refine bt_of (own := RX4) (lv := [some (.ref (ad g 172))]) rfl rfl (by decide) (Nat.le_of_ble_eq_true rfl) (by intro u hu; simp only [List.mem_cons, List.not_mem_nil, or_false] at hu; rcases hu with rfl <;> rfl) (lv_ok [.ref (ad g 172)] 0) ?_
  refine bw_aload_n dX4_init_0 rfl ?_
  refine bw_obj dX4_init_1 kI4_3 (Nat.le_of_ble_eq_true rfl) (Nat.le_of_ble_eq_true rfl) ?_
  refine bw_aload_n dX4_init_4 rfl ?_
  refine bw_bi (nI 20) dX4_init_5 (by decide) ?_
  refine bw_newa_int (N := 20) dX4_init_7 rfl (by decide) (Nat.le_of_ble_eq_true rfl) (Nat.le_of_ble_eq_true rfl) ?_
  refine bw_N (n' := 174) (cu' := 1) (su' := 20) rfl rfl rfl ?_
  refine bw_put (ci := 4) (k := 0) (o := 172) (fs := [.null, .null, .null, .int 0, .int 0]) (v := .ref (ad g 173)) (ty := tyX4 0) dX4_init_9 inX4 tyX4_ok nmX4 rfl (by decide) ((updE_n (by decide)).trans hE) (by decide) rfl rfl rfl rfl rfl (Nat.le_of_ble_eq_true rfl) kf4_9 ?_
  refine bw_aload_n dX4_init_12 rfl ?_
  refine bw_bi (nI 20) dX4_init_13 (by decide) ?_
  refine bw_newa_int (N := 20) dX4_init_15 rfl (by decide) (Nat.le_of_ble_eq_true rfl) (Nat.le_of_ble_eq_true rfl) ?_
  refine bw_N (n' := 175) (cu' := 2) (su' := 40) rfl rfl rfl ?_
  refine bw_put (ci := 4) (k := 1) (o := 172) (fs := [.ref (ad g 173), .null, .null, .int 0, .int 0]) (v := .ref (ad g 174)) (ty := tyX4 1) dX4_init_17 inX4 tyX4_ok nmX4 rfl (by decide) ((updE_n (by decide)).trans (updE_s _ _ _)) (by decide) rfl rfl rfl rfl rfl (Nat.le_of_ble_eq_true rfl) kf4_15 ?_
  refine bw_aload_n dX4_init_20 rfl ?_
  refine bw_bi (nI 20) dX4_init_21 (by decide) ?_
  refine bw_newa_int (N := 20) dX4_init_23 rfl (by decide) (Nat.le_of_ble_eq_true rfl) (Nat.le_of_ble_eq_true rfl) ?_
  refine bw_N (n' := 176) (cu' := 3) (su' := 60) rfl rfl rfl ?_
  refine bw_put (ci := 4) (k := 2) (o := 172) (fs := [.ref (ad g 173), .ref (ad g 174), .null, .int 0, .int 0]) (v := .ref (ad g 175)) (ty := tyX4 2) dX4_init_25 inX4 tyX4_ok nmX4 rfl (by decide) ((updE_n (by decide)).trans (updE_s _ _ _)) (by decide) rfl rfl rfl rfl rfl (Nat.le_of_ble_eq_true rfl) kf4_18 ?_
  refine bw_ret dX4_init_28 (Nat.le_of_ble_eq_true rfl) (Nat.le_of_ble_eq_true rfl) ⟨fun k hk => ?_, fun k h1_ h2_ => ?_⟩
  · exact ((updE_n (by omega)).trans ((updE_n (by omega)).trans ((updE_n (by omega)).trans ((updE_n (by omega)).trans ((updE_n (by omega)).trans ((updE_n (by omega)).trans rfl))))))
  · rcases (by omega : k = 172 ∨ k = 173 ∨ k = 174 ∨ k = 175) with rfl | rfl | rfl | rfl
    · exact ((updE_s _ _ _).trans (cl_is k_172 rfl))
    · exact ((updE_n (by decide)).trans ((updE_n (by decide)).trans ((updE_n (by decide)).trans ((updE_n (by decide)).trans ((updE_n (by decide)).trans ((updE_s _ _ _).trans (cl_is k_173 rfl)))))))
    · exact ((updE_n (by decide)).trans ((updE_n (by decide)).trans ((updE_n (by decide)).trans ((updE_s _ _ _).trans (cl_is k_174 rfl)))))
    · exact ((updE_n (by decide)).trans ((updE_s _ _ _).trans (cl_is k_175 rfl)))
