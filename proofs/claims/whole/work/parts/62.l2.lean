def P0 : Pg := (0, fun _ _ => 0, 0, fun _ _ => 0, 1, 2, 1)
theorem P0_V : PgV P0 := ⟨by decide, fun p h => absurd h (Nat.not_lt_zero p), by decide, by decide, by decide, by decide, fun _ _ => Nat.zero_le _, fun _ _ => Nat.zero_le _⟩
theorem inv0C : InvC S0 (P0, fun _ => none) := ⟨⟨⟨k_2, by decide, Nat.zero_le _, fun p w h => absurd h (Nat.not_lt_zero p)⟩, ⟨k_4, by decide, Nat.zero_le _, fun p w h => absurd h (Nat.not_lt_zero p)⟩, by decide, by decide, by decide⟩, P0_V, ⟨⟨by decide, by decide⟩, ⟨by decide, by decide⟩, ⟨by decide, by decide⟩⟩, ⟨fun i h => h, fun i j _ _ e => e⟩, fun k _ => rfl, Or.inl (by decide)⟩
theorem inv0M : InvM S0 (P0, fun _ => none) := ⟨⟨by decide, fun p w h => absurd h (Nat.not_lt_zero p), by decide, fun p w h => absurd h (Nat.not_lt_zero p), by decide, by decide, by decide⟩, P0_V, fun k _ => rfl, Or.inl (by decide)⟩
/-- the law makes its objects -/
def LB (g : GG) (b L : Nat) (xs : Nat → Int32) (pc : Nat) (lv : List (Option Value)) (st : List Value) (nn : Nat) (E : Nat → va_E) (cu su : Nat) : Prop :=
  ∀ (p : Program) (e : Env) (s : State) (m : MethodId) (args : Array Value) (below : List Frame) (meth : Method) (c : Code) (H : Heap) (locs : List Loc) (ls : Array Slot),
    Fx g p s m args meth c code 4 ret R_law9 → ((args = #[.ref b] ∧ va_X b L xs s s.heap ∧ b < s.heap.size ∧ g.2.1 = s.heap.size) ∧ xtr g s s.heap) → va_P (gD g) vwCl (wsB g nn E) H → (H.size = ad g nn ∧ s.heap.size + cu = ad g nn) → va_S (reg g) s.heap H locs → lvp ls 4 lv →
    W p g.1 e room_1 s m args below meth c H locs cu su (lw_Z below args s) (F0 m pc ls st)
section LBr
variable {g : GG} {b L : Nat} {xs : Nat → Int32} {pc pc' : Nat} {lv : List (Option Value)} {st : List Value} {nn : Nat} {E : Nat → va_E} {cu su : Nat} {CU SU tgt : Nat} {σ : SG}
theorem Fx.wdL {cc : ByteArray} {nL : Nat} {ret : Option FieldType} {own : String} {p : Program} {s : State} {m : MethodId} {args : Array Value} {meth : Method} {c : Code} {H : Heap} {locs : List Loc} (F : Fx g p s m args meth c cc nL ret own) (hx : xtr g s s.heap) (hP : va_P (gD g) vwCl (wsB g nn E) H) (hz : H.size = ad g nn) (hS : va_S (reg g) s.heap H locs) {U : State} (hU : U.heap = H) (hW : s.WarmedH U.vm) : _root_.Jvm.Pilot.CRuledTablesLaw_law_r2391_d775b6.wdB g nn E U := ⟨by rw [hU]; exact hP, by rw [hU]; exact hz, va_K.moved hW.alike F.2.2.2.2.2.2.2.1, by rw [hU]; exact (F.2.2.2.2.2.2.2.2.moved hW).kept hS.2.1, by rw [hU]; exact (hx.moved hW).kept hS.2.1⟩
theorem lb_done (h : ∀ k, k < 194 → E k = cl_ g σ k) (k : LW g b L xs cu su pc lv st σ) : LB g b L xs pc lv st 194 E cu su := by
  intro p e s m args below meth c H locs ls F hY hP hz hS hl
  rw [wsB_cong h] at hP
  exact k p e s m args below meth c H locs ls F hY.1 hP hS hl
theorem lb_new {C : String} {T : u_T} {N ci idx : Nat} {ty : Nat → FieldType} {fs : List Value} (hd : dn code pc (.new idx) 3 pc') (hin : ∀ w ∈ u_ws C T N, w ∈ wtb) (hty : ∀ k, k < N → parseFieldDescriptor (T k).2.2.1 = some (ty k)) (hc : vwCl[ci]? = some (C, T, N)) (hfs : ∀ j, j < N → defaultValue (ty j) = vp_V fs j) (h1 : Cond.classLink R_law9 idx C ∈ wtb) (h2 : Cond.instantiable C N ∈ wtb) (h3 : Cond.initialized C ∈ wtb) (hcells : cu + 1 ≤ 600000) (hslots : su + N ≤ 7302249) (k : LB g b L xs pc' lv (.ref (ad g nn) :: st) (nn + 1) (updE E nn (.inr (ci, fs))) (cu + 1) (su + N)) : LB g b L xs pc lv st nn E cu su := by
  obtain ⟨hd, rfl⟩ := hd
  intro p e s m args below meth c H locs ls F hY hP hz hS hl
  refine va_new F.1 F.2.1 F.2.2.2.2.2.1 hin ty hty F.2.2.2.2.1 (F.2.2.2.2.2.1 _ h1) (F.2.2.2.2.2.1 _ h2) (F.2.2.2.2.2.1 _ h3) F.2.2.2.2.2.2.2.1 hP (wsB_D g nn E) hS (fun q h => Nat.le_trans (Nat.le_of_eq hY.1.2.2.2) h) hc hfs hcells hslots hd fun q H1 h1 h2 h3 T hT X => ?_
  have hB := X.heapSize
  rw [hT, ← Nat.add_assoc, hz.2] at hB
  obtain ⟨rfl, hz1, hP1⟩ := bc_new h1 h2 hB
  exact k p e s m args below meth c H1 locs ls F hY hP1 ⟨hz1, bc_up hz.2⟩ h3 hl T hT X
theorem lb_dup {va : Value} (hd : dn code pc .dup 1 pc') (hv : va.category = 1) (k : LB g b L xs pc' lv (va :: va :: st) nn E cu su) : LB g b L xs pc lv (va :: st) nn E cu su := by
  obtain ⟨hd, rfl⟩ := hd
  intro p e s m args below meth c H locs ls F hY hP hz hS hl
  exact lv_dup F.1 F.2.1 hd hv (k p e s m args below meth c H locs ls F hY hP hz hS hl)
theorem lb_call {y : MethodName} {cy : ByteArray} {ny n idx o fr lo mcy msy n' : Nat} {As : List Value} {st0 : List Value} {post : (Nat → va_E) → Prop} (hd : dn code pc (.invokespecial idx) 3 pc') (hl9 : Cond.methodLink R_law9 idx y ∈ wtb) (ok : okI y cy ny n) (hst : st0 = As.reverse ++ .ref (ad g o) :: st) (hn : As.length = n) (hW : (st.map fun v => v.category).sum ≤ 8) (hR : fr + 1 ≤ 11 ∧ 8 + (ny + 11) + lo ≤ 446) (hcc : cu + mcy ≤ 600000 ∧ su + msy ≤ 7302249) (hM : Ctb g y cy ny fr lo mcy msy (.ref (ad g o) :: As) nn E n' post) (hn' : n' = nn + mcy) (kk : ∀ E', post E' → LB g b L xs pc' lv st n' E' (cu + mcy) (su + msy)) : LB g b L xs pc lv st0 nn E cu su := by
  obtain ⟨hd, rfl⟩ := hd
  subst hst
  intro p e s m args below meth c H locs ls F hY hP hz hS hlv
  have hts := F.2.2.2.2.2.1
  refine va_callv (va_runI (As := As) (rest := st) (b := ad g o) ⟨F.1, F.2.1, F.2.2.2.1, F.2.2.2.2.1, hts⟩ hM (cwI n hts ok.gi rfl rfl rfl (hts _ ok.1) (hts _ hl9) (hts _ ok.2.1) ok.2.2.2.1 ok.2.2.2.2 hR) ⟨wdB_blind, fun U hU hW9 => ⟨rfl, F.wdL hY.2 hP hz.1 hS hU hW9⟩⟩ rfl hn hlv.1 rfl (lv_room hW) hd hcc) hS (fun q _ h => h) (fun q h => h) (fun u t H1 locs1 ht hvm hw hB hz1 hk1 hS1 => ?_)
  exact kk u hw p e s m args below meth c H1 locs1 ls F hY (by rw [← ht]; exact hB.1) ⟨by rw [← ht]; exact hB.2.1, by rw [hn']; exact bc_up hz.2⟩ hS1 hlv
theorem lb_N {n' cu' su' : Nat} (h1 : nn = n') (h2 : cu = cu') (h3 : su = su') (k : LB g b L xs pc lv st n' E cu' su') : LB g b L xs pc lv st nn E cu su := by
  subst h1
  subst h2
  subst h3
  exact k
theorem lb_astore_n {i : Fin 4} {x : Nat} (hd : dn code pc (.astore_n i) 1 pc') (hn : (i : Nat) < 4) (k : LB g b L xs pc' (lv.set (i : Nat) (some (.ref x))) st nn E cu su) : LB g b L xs pc lv (.ref x :: st) nn E cu su := by
  obtain ⟨hd, rfl⟩ := hd
  intro p e s m args below meth c H locs ls F hY hP hz hS hl
  exact lv_astore_n F.1 F.2.1 hd rfl hl.has hn rfl (fun ls' h' => k p e s m args below meth c H locs ls' F hY hP hz hS (hl.set rfl h'))
theorem lw_istore_n {i : Fin 4} {x : Int32} (hd : dn code pc (.istore_n i) 1 pc') (hn : (i : Nat) < 4) (k : LW g b L xs CU SU pc' (lv.set (i : Nat) (some (.int x))) st σ) : LW g b L xs CU SU pc lv (.int x :: st) σ := by
  obtain ⟨hd, rfl⟩ := hd
  intro p e s m args below meth c H locs ls F hY hP hS hl
  exact lv_istore_n F.1 F.2.1 hd rfl hl.has hn rfl (fun ls' h' => k p e s m args below meth c H locs ls' F hY hP hS (hl.set rfl h'))
set_option maxHeartbeats 4000000 in
set_option maxRecDepth 100000 in
theorem lb_start (hL : L ≤ 2560) : LB g b L xs 0 [some (.ref b), none, none, none] [] 0 E 0 0 := by
  refine lb_new (ci := 9) (fs := [.null, .null, .null, .null, .int 0]) dL_law_0 inX9 tyX9_ok rfl dfX9 kcL_7 ki9 kn9 (Nat.le_of_ble_eq_true rfl) (Nat.le_of_ble_eq_true rfl) ?_
  refine lb_N (n' := 1) (cu' := 1) (su' := 5) rfl rfl rfl ?_
  refine lb_dup dL_law_3 rfl ?_
  refine lb_call (o := 0) (As := []) dL_law_4 kIL_9 okI9 rfl rfl (Nat.le_of_ble_eq_true rfl) ⟨Nat.le_of_ble_eq_true rfl, Nat.le_of_ble_eq_true rfl⟩ ⟨Nat.le_of_ble_eq_true rfl, Nat.le_of_ble_eq_true rfl⟩ (b9_0 (updE_s _ _ _)) rfl (fun E1 h1 => ?_)
  refine lb_astore_n dL_law_7 (Nat.le_of_ble_eq_true rfl) ?_
  refine lb_new (ci := 10) (fs := [.null, .int 0, .null, .int 0, .null, .int 0, .null, .null, .int 0, .null, .int 0, .null, .null, .null, .null, .null, .null, .null, .null, .int 0, .int 0, .int 0, .int 0, .null, .null, .null, .int 0, .int 0]) dL_law_8 inX10 tyX10_ok rfl dfX10 kcL_10 ki10 kn10 (Nat.le_of_ble_eq_true rfl) (Nat.le_of_ble_eq_true rfl) ?_
  refine lb_N (n' := 177) (cu' := 177) (su' := 5168) rfl rfl rfl ?_
  refine lb_dup dL_law_11 rfl ?_
  refine lb_call (o := 176) (As := []) dL_law_12 kIL_12 okI10 rfl rfl (Nat.le_of_ble_eq_true rfl) ⟨Nat.le_of_ble_eq_true rfl, Nat.le_of_ble_eq_true rfl⟩ ⟨Nat.le_of_ble_eq_true rfl, Nat.le_of_ble_eq_true rfl⟩ (b10_176 (updE_s _ _ _)) rfl (fun E2 h2 => ?_)
  refine lb_astore_n dL_law_15 (Nat.le_of_ble_eq_true rfl) ?_
  refine lb_done (σ := S0) (fun k hk => ?_) ?_
  · rcases Nat.lt_or_ge k 176 with z | z
    · exact (h2.1 k z).trans ((updE_n (by omega)).trans (h1.2 k (Nat.zero_le _) z))
    · exact h2.2 k z hk
  · refine lw_ic (nI 0) dL_law_16 (by decide) ?_
    refine lw_istore_n dL_law_17 (Nat.le_of_ble_eq_true rfl) ?_
    exact lw_loop hL ⟨Nat.le_of_ble_eq_true rfl, Nat.le_of_ble_eq_true rfl⟩ 2565 _ _ ⟨0, (P0, fun _ => none), rfl, inv0C, inv0M, rfl⟩
end LBr
theorem len3 {args : Array Value} {s : State} {tm : Term} {a : Nat} {cell : Cell} (hl : (Term.length tm).eval args s none [] s = some (.int (Int32.ofNat 3))) (ht : tm.eval args s none [] s = some (.ref a)) (hc : s.heap[a]? = some cell) : cell.slots.size = 3 := by
  rw [Term.eval.eq_10, ht] at hl
  cases hA : s.arrayAt? a with
  | none => simp [hA] at hl
  | some c2 =>
    have h2 := (State.arrayAt?_spec hA).1
    cases hc.symm.trans h2
    simp only [hA, Option.bind_eq_bind, Option.bind_some] at hl
    by_cases hz : cell.slots.size < 2 ^ 31
    · rw [if_pos hz] at hl
      have e : cell.slots.size.toInt32 = Int32.ofNat 3 := Value.int.inj (Option.some.inj hl)
      have := congrArg Int32.toInt (show nI cell.slots.size = nI 3 from e)
      rw [nI_toInt hz, nI_toInt (by decide)] at this
      omega
    · rw [if_neg hz] at hl
      cases hl
def R_law : String := "RuledTablesLaw"
def lw_P (b : Addr) (xs : List Int32) (args : Array Value) (s : State) : Prop := args = #[.ref b] ∧ s.IntsAt b xs ∧ xs.length ≤ 2560 ∧ (Jvm.Cond.and given_1 narrow_1).before args s = true
/-- what holds at the law's entry: the machine, the code, the tables' words (any of lw_tbl by 'hts w (by decide +kernel)'), the script of L ints xs at the cell b, what the Statement gives of the start (any of its parts by flat_of_before) -/
def lw_At (p : Program) (s : State) (m : MethodId) (meth : Method) (c : Code) (b L : Nat) (xs : Nat → Int32) : Prop :=
  p.tables.exec = Jvm.exec ∧ c.code = code ∧ meth.sig.returnType = ret ∧ c.maxLocals = 4 ∧ s.vm.findClass R_law = some m.cls ∧ (∀ w ∈ lw_tbl, w.before #[Value.ref b] s = true) ∧ va_X b L xs s s.heap ∧ b < s.heap.size ∧ meth.locks = false ∧ (Jvm.Cond.and given_1 narrow_1).before #[Value.ref b] s = true
set_option maxHeartbeats 4000000 in
set_option maxRecDepth 100000 in
theorem whole_start {p : Program} {e : Env} {s : State} {m : MethodId} {below : List Frame} {meth : Method} {c : Code} (l : Launch) (hflags : l.flags = flags0) {b L : Nat} {xs : Nat → Int32} (hL : L ≤ 2560) (C0 : lw_At p s m meth c b L xs) : W p l e room_1 s m #[Value.ref b] below meth c s.heap [] 0 0 (lw_Z below #[Value.ref b] s) (entryFrame m ([Value.ref b] : List Value).toArray 4) := by
  obtain ⟨hx, hb, hr, hml, hown, hts, hX, hbl, hlk, hgv⟩ := C0
  have hw : ∀ w ∈ wtb, w.before #[Value.ref b] s = true := fun w h => hts w (wtb_good h).1
  have hfl := flat_of_before _ hgv
  obtain ⟨c0, i0, K0⟩ := u_known hw inX0 (hw _ ki0)
  obtain ⟨c1, i1, K1⟩ := u_known hw inX1 (hw _ ki1)
  obtain ⟨c2, i2, K2⟩ := u_known hw inX2 (hw _ ki2)
  obtain ⟨c3, i3, K3⟩ := u_known hw inX3 (hw _ ki3)
  obtain ⟨c4, i4, K4⟩ := u_known hw inX4 (hw _ ki4)
  obtain ⟨c5, i5, K5⟩ := u_known hw inX5 (hw _ ki5)
  obtain ⟨c6, i6, K6⟩ := u_known hw inX6 (hw _ ki6)
  obtain ⟨c7, i7, K7⟩ := u_known hw inX7 (hw _ ki7)
  obtain ⟨c8, i8, K8⟩ := u_known hw inX8 (hw _ ki8)
  obtain ⟨c9, i9, K9⟩ := u_known hw inX9 (hw _ ki9)
  obtain ⟨c10, i10, K10⟩ := u_known hw inX10 (hw _ ki10)
  obtain ⟨a0, kA0, comp0, A01, A02, A03⟩ := Cond.arrayClass_spec (hw _ kArrI)
  obtain ⟨a1, kA1, comp1, A11, A12, A13⟩ := Cond.arrayClass_spec (hw _ kArrZ)
  have o3 : (Cond.arrayOver (.object RX3)).before #[Value.ref b] s = true := hts _ (List.mem_of_getElem? (i := 149) (by decide +kernel))
  have o6 : (Cond.arrayOver (.object RX6)).before #[Value.ref b] s = true := hts _ (List.mem_of_getElem? (i := 176) (by decide +kernel))
  have o8 : (Cond.arrayOver (.object RX8)).before #[Value.ref b] s = true := hts _ (List.mem_of_getElem? (i := 234) (by decide +kernel))
  have oI : (Cond.arrayOver (.array .int)).before #[Value.ref b] s = true := hts _ (List.mem_of_getElem? (i := 249) (by decide +kernel))
  obtain ⟨comp2, a2, kA2, A21, -, A22, A23, A24⟩ := Cond.arrayOver_spec o3
  obtain ⟨comp3, a3, kA3, A31, -, A32, A33, A34⟩ := Cond.arrayOver_spec o6
  obtain ⟨comp4, a4, kA4, A41, -, A42, A43, A44⟩ := Cond.arrayOver_spec o8
  obtain ⟨comp5, a5, kA5, A51, -, A52, A53, A54⟩ := arrayOverA_spec oI
  have helM : ∀ j : Nat, j < 3 → (Term.elem (Term.static "RuledTables" "MOST_SETTINGS" "[I") (.int (Int32.ofNat j))).eval #[Value.ref b] s none [] s = some (.int (fM j)) := fun j hj => by
    rcases (by omega : j = 0 ∨ j = 1 ∨ j = 2) with rfl | rfl | rfl
    · exact va_eqt (hfl _ (by decide +kernel))
    · exact va_eqt (hfl _ (by decide +kernel))
    · exact va_eqt (hfl _ (by decide +kernel))
  have hlenM : (Term.length (Term.static "RuledTables" "MOST_SETTINGS" "[I")).eval #[Value.ref b] s none [] s = some (.int (Int32.ofNat 3)) := va_eqt (hfl _ (by decide +kernel))
  obtain ⟨tM, eM, TM⟩ := va_Tof (tm := (Term.static "RuledTables" "MOST_SETTINGS" "[I")) (ty := .int) (N := 3) (f := fun j => .int (fM j)) (A := fun q => s.heap.size ≤ q) (by decide) (hfl _ (by decide +kernel)) hlenM helM (fun a ha => by omega)
  have helF : ∀ j : Nat, j < 3 → (Term.elem (Term.static "RuledTables" "FIRST_SETTINGS" "[I") (.int (Int32.ofNat j))).eval #[Value.ref b] s none [] s = some (.int (fF j)) := fun j hj => by
    rcases (by omega : j = 0 ∨ j = 1 ∨ j = 2) with rfl | rfl | rfl
    · exact va_eqt (hfl _ (by decide +kernel))
    · exact va_eqt (hfl _ (by decide +kernel))
    · exact va_eqt (hfl _ (by decide +kernel))
  have hlenF : (Term.length (Term.static "RuledTables" "FIRST_SETTINGS" "[I")).eval #[Value.ref b] s none [] s = some (.int (Int32.ofNat 3)) := va_eqt (hfl _ (by decide +kernel))
  obtain ⟨tF, eF, TF⟩ := va_Tof (tm := (Term.static "RuledTables" "FIRST_SETTINGS" "[I")) (ty := .int) (N := 3) (f := fun j => .int (fF j)) (A := fun q => s.heap.size ≤ q) (by decide) (hfl _ (by decide +kernel)) hlenF helF (fun a ha => by omega)
  have ZM : va_Z "RuledTables" "MOST_SETTINGS" "[I" (.ref tM) (fun q => s.heap.size ≤ q) s s.heap := va_Zof (hts _ (List.mem_of_getElem? (i := 370) (by decide +kernel))) (hw _ kn9) eM (fun a ha => by omega)
  have ZF : va_Z "RuledTables" "FIRST_SETTINGS" "[I" (.ref tF) (fun q => s.heap.size ≤ q) s s.heap := va_Zof (hts _ (List.mem_of_getElem? (i := 124) (by decide +kernel))) (hw _ kn9) eF (fun a ha => by omega)
  have N1 : va_Nw (.fieldLinkNest "RuledTables$Page" 23 "RuledTables" "FIRST_SETTINGS" "[I" "RuledTables") s := va_Nw.of rfl (hts _ (List.mem_of_getElem? (i := 123) (by decide +kernel)))
  have hcx : (Cond.exactly (Term.static "RuledTables" "FIRST_SETTINGS" "[I") "[I").before #[Value.ref b] s = true := hfl _ (by decide +kernel)
  obtain ⟨aF, cF, cellF, kF, q1, q2, q3, q4, q5, q6, -⟩ := Cond.exactly_spec hcx
  obtain rfl : aF = tF := by
    cases q1.symm.trans eF
    rfl
  have hcF : cF = a0 := Option.some.inj (q2.symm.trans A01)
  have hsz := len3 hlenF eF q3
  obtain ⟨cell2, w1, w2, w3, -, -, w4, w5⟩ := id TF
  obtain rfl : cell2 = cellF := Option.some.inj (w1.symm.trans q3)
  let g : GG := (l, s.heap.size, fun k => match k with | 0 => c0 | 1 => c1 | 2 => c2 | 3 => c3 | 4 => c4 | 5 => c5 | 6 => c6 | 7 => c7 | 8 => c8 | 9 => c9 | _ => c10, fun k => match k with | 0 => i0 | 1 => i1 | 2 => i2 | 3 => i3 | 4 => i4 | 5 => i5 | 6 => i6 | 7 => i7 | 8 => i8 | 9 => i9 | _ => i10, fun k => match k with | 0 => a0 | 1 => a1 | 2 => a2 | 3 => a3 | 4 => a4 | _ => a5, tM, aF)
  have hK : va_K (gD g) vwCl (tys_ g) s := by
    refine ⟨fun k q hq => ?_, fun k q hq => ?_⟩
    · match k, hq with
      | 0, hq => cases hq; exact K0
      | 1, hq => cases hq; exact K1
      | 2, hq => cases hq; exact K2
      | 3, hq => cases hq; exact K3
      | 4, hq => cases hq; exact K4
      | 5, hq => cases hq; exact K5
      | 6, hq => cases hq; exact K6
      | 7, hq => cases hq; exact K7
      | 8, hq => cases hq; exact K8
      | 9, hq => cases hq; exact K9
      | 10, hq => cases hq; exact K10
      | k + 11, hq => exact absurd hq (by simp [vwCl])
    · match k, hq with
      | 0, hq => cases hq; exact ⟨fun N z => ⟨(fun k h => by cases h), kA0, A02, comp0, A03⟩, A01⟩
      | 1, hq => cases hq; exact ⟨fun N z => ⟨(fun k h => by cases h), kA1, A12, comp1, A13⟩, A11⟩
      | 2, hq => cases hq; exact ⟨fun N z => ⟨(fun k h => by cases h), kA2, A22, comp2, A23⟩, kA2, comp2, A22, A23, A21, A24⟩
      | 3, hq => cases hq; exact ⟨fun N z => ⟨(fun k h => by cases h), kA3, A32, comp3, A33⟩, kA3, comp3, A32, A33, A31, A34⟩
      | 4, hq => cases hq; exact ⟨fun N z => ⟨(fun k h => by cases h), kA4, A42, comp4, A43⟩, kA4, comp4, A42, A43, A41, A44⟩
      | 5, hq => cases hq; exact ⟨fun N z => ⟨(fun k h => by cases h), kA5, A52, comp5, A53⟩, A54⟩
      | k + 6, hq => exact absurd hq (by simp [tys_])
  have hst : stt g s s.heap := ⟨ZM, TM, ZF, TF, N1⟩
  have hxt : xtr g s s.heap := ⟨va_Nw.of rfl (hts _ (List.mem_of_getElem? (i := 130) (by decide +kernel))), va_AO.of o3, va_AO.of o6, va_AO.of o8, oI, va_Nw.of rfl (hts _ (List.mem_of_getElem? (i := 178) (by decide +kernel))), cell2, w1, w2.1, w3, q6.trans hcF, by
    apply Array.ext_getElem?
    intro j
    by_cases hj : j < 3
    · rw [w4 j hj]
      rcases (by omega : j = 0 ∨ j = 1 ∨ j = 2) with rfl | rfl | rfl <;> rfl
    · rw [Array.getElem?_eq_none (by omega), Array.getElem?_eq_none (by show 3 ≤ j; omega)], w5⟩
  have hl := lv_entry [Value.ref b] (n := 4) (Nat.le_of_ble_eq_true rfl)
  rw [lg_entry_eq]
  generalize (lg_sl [Value.ref b] ++ List.replicate (4 - (lg_sl [Value.ref b]).length) Slot.unset).toArray = ls at hl ⊢
  refine lb_start (g := g) (b := b) (L := L) (xs := xs) (E := fun _ => .inr (0, [])) hL p e s m #[Value.ref b] below meth c s.heap [] ls ⟨hx, hb, hr, hml, hown, hw, hlk, hK, hst⟩ ⟨⟨rfl, hX, hbl, rfl⟩, hxt⟩ (fun i q hq => ?_) ⟨rfl, rfl⟩ va_S.rf ⟨hl.1, hl.2.1, fun i v hv => ?_⟩
  · exact absurd (wsB_lt hq) (Nat.not_lt_zero i)
  · have hcat : ∀ u ∈ [Value.ref b], u.category = 1 := fun u hu => by
      simp only [List.mem_cons, List.not_mem_nil, or_false] at hu
      rw [hu]
      rfl
    have h1 := lv_ok [Value.ref b] 3 i v hv
    have h2 := hl.2.2 _ (lv_args_mem [Value.ref b] 0 i v hcat h1)
    rw [Nat.zero_add] at h2
    exact ⟨h2, hcat v (List.mem_of_getElem? h1)⟩
set_option maxHeartbeats 4000000 in
theorem lw_walk (l : Launch) (hflags : l.flags = flags0) (b : Addr) (xs : List Int32) : MetFree l x (headSpec (Jvm.Cond.code x code maxLocals ret :: tables_1) room_1) (lw_P b xs) (fun _ _ _ _ _ => True) lw_Q := by
  refine MetFree.of_bodyS (code := code) (maxLocals := maxLocals) (ret := ret) (by decide) ?_ ?_
  · intro args s m h hn
    obtain ⟨meth, c, h1, h2, h3, h4, h5, h6, -, -⟩ := Cond.code_spec hn (atoms_spec (ws := Jvm.Cond.code x code maxLocals ret :: tables_1) h _ List.mem_cons_self)
    exact ⟨meth, c, h1, h2, h3, h4, h5, h6⟩
  · intro p e s m args below meth c s₁ B hml0 hP _
    obtain ⟨rfl, hx, hbd, hgv⟩ := hP
    obtain ⟨scr, harrAt, hlist, hof, hsmall⟩ := hx
    obtain ⟨hcb, hkn, -, -⟩ := State.arrayAt?_spec harrAt
    have hown : s.vm.findClass R_law = some m.cls := findClass_of_methodNamed B.named
    have hts0 : ∀ c ∈ (Jvm.Cond.code x code maxLocals ret :: tables_1), c.before #[Value.ref b] s = true := atoms_spec (ws := Jvm.Cond.code x code maxLocals ret :: tables_1) B.pre
    have hts : ∀ w ∈ lw_tbl, w.before #[Value.ref b] s = true := k2_hts_sels lw_privs (fun w hw => hts0 w (List.mem_cons_of_mem _ hw)) lw_privs_ok
    have hml : c.maxLocals = 4 := B.maxLocals_eq (hts0 _ List.mem_cons_self)
    have X₀ : Stand p l e room_1 s m #[Value.ref b] below meth c s₁ [] 0 0 := Stand.of_body B
    have hh0 : s₁.heap = s.heap := by rw [B.state]; rfl
    have hsz : scr.slots.size = xs.length := by rw [← Array.length_toList, hlist, List.length_map]
    have hval : ∀ j : Nat, j < xs.length → scr.slots[j]? = some (.int (xs.getD j 0)) := fun j hj => by
      rw [← Array.getElem?_toList, hlist]
      simp [hj]
    have hbl : b < s.heap.size := (Array.getElem?_eq_some_iff.mp hcb).1
    have hX : va_X b xs.length (fun j => xs.getD j 0) s s.heap := ⟨scr, hcb, hof, hkn, hsz, hval⟩
    have K : W p l e room_1 s m #[Value.ref b] below meth c s₁.heap [] 0 0 (lw_Z below #[Value.ref b] s) (entryFrame m ([Value.ref b] : List Value).toArray 4) := by
      rw [hh0]
      exact whole_start l hflags hbd ⟨B.exec, B.bytes, B.returns, hml, hown, hts, hX, hbl, B.notSynchronized, hgv⟩
    obtain ⟨t, a1, o, b1, b2, b3⟩ := K s₁ rfl X₀
    exact ⟨t, o, a1, b1, b2, b3⟩
theorem lw_pre_spec {args : Array Value} {s : State} (h : (Jvm.Cond.and given_1 narrow_1).before args s = true) (hr : rest_1_c.before args s = true) : ∃ (b : Addr) (xs : List Int32), lw_P b xs args s := by
  have hs := flat_of_before _ h
  have hq := flat_of_before _ hr
  have hc : (Cond.count 1).before args s = true := hs _ (by decide +kernel)
  have harr : (Cond.arrayOf (.arg 0) .int).before args s = true := hs _ (by decide +kernel)
  have hle : (Cond.le (.length (.arg 0)) (.int 2560)).before args s = true := hs _ (by decide +kernel)
  have hlen : (Cond.isInt (.length (.arg 0))).before args s = true := hq _ (by decide +kernel)
  have hall : (Cond.all (.arg 0) (.isInt (.elem (.arg 0) (.index 0)))).before args s = true := hq _ (by decide +kernel)
  obtain ⟨b, xs, hb, hx⟩ := State.ints_of_pre rfl harr hlen hall
  have hsm : xs.length < 2 ^ 31 := hx.choose_spec.2.2.2
  have hev : (Term.length (.arg 0)).eval args s none [] s = some (.int xs.length.toInt32) := hx.length_eval hb
  have hv := Cond.le_ints hev (show (Term.int 2560).eval args s none [] s = some (.int 2560) from rfl)
  have hd : xs.length.toInt32 ≤ 2560 := by
    simpa [Cond.before, Cond.holds, hv] using hle
  have hN : xs.length ≤ 2560 := (Int32.ofNat_le_ofNat hsm (by decide)).mp (show Int32.ofNat xs.length ≤ Int32.ofNat 2560 from hd)
  exact ⟨b, xs, Cond.one_arg hc (show args[0]? = some (.ref b) from hb), hx, hN, h⟩
theorem lw_comes (l : Launch) (hflags : l.flags = flags0) : Comes l x (Jvm.Cond.code x code maxLocals ret :: tables_1) room_1 (fun tb e args s => Calls_1 tb e args s ∧ rest_1 tb e args s ∧ Pre_1 tb e args s)
    (fun _ _ args s o t => lw_Q args s o t) := by
  intro p e ha hc hk s m args below hf hfit hheap happ hpre
  obtain ⟨b, xs, hP⟩ := lw_pre_spec hpre.2.2 hpre.2.1
  obtain ⟨k, o, h1, h2, h3, hQ⟩ := lw_walk l hflags b xs p e ha hc hk s m args below hf ((Spec.applies_iff_loose hf).mp happ).1 hP trivial
  exact ⟨k, o, h1, h2, h3, hQ⟩
theorem lw_frame {s t : State} {o : Outcome} {args : Array Value} (h : Framed s o t [] 600000 7302249) :
    Framed s o t (fieldLocs frame_1_writes args s ++ arrayLocs frame_1_arrays args s ++ staticLocs frame_1_statics s) 600000 7302249 := h
theorem lw_limb (L : Cond) (hL : ∀ (args : Array Value) (s t : State), L.after args s (.returned (some (.int 1))) t = true) :
    ArmFor flags0 classFile x code maxLocals ret World_1 tables_1 room_1 Calls_1 rest_1 Pre_1
      (fun tb e a s o t => postC L tb e a s o t ∧ Framed s o t (fieldLocs frame_1_writes a s ++ arrayLocs frame_1_arrays a s ++ staticLocs frame_1_statics s) 600000 7302249) := by
  intro l hflags _ _ p e ha hc hk s m args below hf hfit hheap happ hpre
  obtain ⟨k, o, h1, h2, h3, rfl, hF⟩ := lw_comes l hflags p e ha hc hk s m args below hf hfit hheap happ hpre
  exact ⟨k, _, h1, h2, h3, hL args s _, lw_frame hF⟩
theorem i_vc : Claimed_1_1 ∧ Claimed_1_2 := ⟨lw_limb limb_1_1 (fun args s t => by simp [limb_1_1, Cond.after, Cond.holds, Cond.value]), lw_limb limb_1_2 (fun args s t => Cond.after_iff.mpr (by
  first | (rw [show limb_1_2 = Cond.eq .result (.int 1) from rfl, Cond.eq_ints (x := 1) (y := 1) rfl rfl]; simp; done) | (simp [limb_1_2, Cond.value, Term.eval]; done)))⟩
