/-! An array of arrays is made. Told by what stands afterwards: no state is written out. -/
theorem gd_ext {cA : ClassId} {N : Nat} {v w : Nat → Value} (h : ∀ j, j < N → v j = w j) : arrV cA N v = arrV cA N w := by
  have e : (fun j : Fin N => v j.val) = fun j : Fin N => w j.val := funext fun j => h j.val j.isLt
  simp only [arrV, e]
/-- an instruction of which is known what its end keeps: it comes to such an end, and goes on from there -/
theorem gd_go {p : Program} {e : Env} {below : List Frame} {T : State} {f g : JFrame} {c : Code} {i : Instr} {len : Nat} {P : State → Prop} (h : At T f.method c below) (hd : decode c.code f.pc = .ok (i, len)) (hw : wpRun (p.tables.exec i) (fun _ V _ => ∃ U, V = U.setTop g ∧ P U) (fun _ _ _ => False) e (T.setTop f)) : ∃ U, P U ∧ ∀ t, Steps p.tables e below (U.setTop { g with pc := g.pc + len }) t → Steps p.tables e below (T.setTop f) t := by
  have hr := (wpRun_iff_run _ _ _ _ _).mp hw
  cases hx : (p.tables.exec i).run e (T.setTop f) with
  | ok a V acts =>
    rw [hx] at hr
    obtain ⟨U, hV, hP⟩ := hr
    subst hV
    refine ⟨U, hP, fun t ht => Steps.instr h ?_⟩
    rw [hd]
    refine (wpRun_iff_run _ _ _ _ _).mpr ?_
    rw [hx]
    intro acts2
    rw [afterInstr_ok]
    exact ht
  | ctl x V acts =>
    rw [hx] at hr
    cases x <;> exact False.elim hr
/-- of the cells H: those of O, behind them the outer array with its first i places filled, behind it i rows -/
def Gd (O : Heap) (cA cB : ClassId) (N M i : Nat) (H : Heap) : Prop := H.size = O.size + (i + 1) ∧ (∃ v : Nat → Value, H[O.size]? = some (arrV cA N v) ∧ ∀ j, j < i → v j = .ref (O.size + (j + 1))) ∧ (∀ j, j < i → H[O.size + (j + 1)]? = some (arrV cB M fun _ => .int 0)) ∧ ∀ q : Nat, q < O.size → H[q]? = O[q]?
theorem Gd.none (O : Heap) (cA cB : ClassId) (N M : Nat) : Gd O cA cB N M 0 (O.push (arrV cA N fun _ => .null)) :=
  ⟨Array.size_push .., ⟨_, Array.getElem?_push_size, fun j h => absurd h (Nat.not_lt_zero j)⟩, fun j h => absurd h (Nat.not_lt_zero j), fun q h => by rw [Array.getElem?_push, if_neg (Nat.ne_of_lt h)]⟩
/-- a row more: the new cell, and the place that names it -/
theorem Gd.more {O H : Heap} {cA cB : ClassId} {N M i : Nat} {v : Nat → Value} (h : Gd O cA cB N M i H) (hv : H[O.size]? = some (arrV cA N v)) (hj : ∀ j, j < i → v j = .ref (O.size + (j + 1))) : Gd O cA cB N M (i + 1) ((H.push (arrV cB M fun _ => .int 0)).setIfInBounds O.size (arrV cA N (updV v i (.ref H.size)))) := by
  obtain ⟨hz, -, hr, ho⟩ := h
  have far : ∀ q : Nat, q ≠ O.size → q < H.size → ((H.push (arrV cB M fun _ => .int 0)).setIfInBounds O.size (arrV cA N (updV v i (.ref H.size))))[q]? = H[q]? := fun q h1 h2 => by
    rw [Array.getElem?_setIfInBounds, if_neg (Ne.symm h1), Array.getElem?_push, if_neg (Nat.ne_of_lt h2)]
  refine ⟨by rw [Array.size_setIfInBounds, Array.size_push, hz]; omega, ⟨updV v i (.ref H.size), ?_, fun j h => ?_⟩, fun j h => ?_, fun q h => ?_⟩
  · rw [Array.getElem?_setIfInBounds, if_pos rfl, if_pos (by rw [Array.size_push]; omega)]
  · unfold updV
    by_cases e : j = i
    · rw [if_pos e, hz, e]
    · rw [if_neg e]
      exact hj j (by omega)
  · by_cases e : j = i
    · rw [Array.getElem?_setIfInBounds, if_neg (by omega), Array.getElem?_push, if_pos (by omega)]
    · rw [far _ (by omega) (by omega)]
      exact hr j (by omega)
  · rw [far q (by omega) (by omega)]
    exact ho q h
section Grid
variable {p : Program} {l : Launch} {e : Env} {R : Room} {s : State} {m : MethodId} {args : Array Value} {below : List Frame} {meth : Method} {c : Code} {U : State} {locs : List Loc} {cu su : Nat} {E : CtlPost} {d : Bool} {acts : List Action} {cA cB cI : ClassId} {kA kB : Class} {N M : Nat} {x y : Int32} {g : JFrame}
/-- a length below the machine's own bounds -/
def gdL (e : Env) (n : Nat) : Prop := ¬ n > e.platform.arrayLengthLimit ∧ ¬ n * 4 > e.platform.maxHeapBytes
theorem gdL.of (X : Stand p l e R s m args below meth c U locs cu su) {n : Nat} (h : n < 2 ^ 20) : gdL e n :=
  ⟨by rw [Launch.admits_arrayLengthLimit X.admits]; omega, by rw [Launch.admits_maxHeapBytes X.admits]; omega⟩
/-- one turn of the loop: a row is made, and its place filled -/
theorem gd_turn {O : Heap} {i : Nat} (X : Stand p l e R s m args below meth c U locs cu su) (hA : U.vm.classes[cA]? = some kA) (tA : kA.kind = .array cB (.array .int)) (hB : U.vm.classes[cB]? = some kB) (tB : kB.kind = .array cI .int) (hy : ¬ y < 0) (hM : y.toNatClampNeg = M) (lM : gdL e M) (hc : cu + 1 ≤ R.cells) (hs : su + M ≤ R.slots) (hi : i < N) (hG : Gd O cA cB N M i U.heap) {β : Type} {K : Sem β} {Q : β → Pre} (k : ∀ U' d' acts', Stand p l e R s m args below meth c U' (locs ++ [⟨O.size, i⟩]) (cu + 1) (su + M) → U'.vm = U.vm → Gd O cA cB N M (i + 1) U'.heap → wp K Q E e d' acts' (U'.setTop g)) : wp (Jvm.Op.multianewarray.make cB [y] >>= fun r => Jvm.writeLoc O.size i (.ref r) >>= fun _ => K) Q E e d acts (U.setTop g) := by
  obtain ⟨r1, r2⟩ := X.roomAbove hc hs
  obtain ⟨v, hv, hj⟩ := hG.2.1
  have hO : O.size < U.heap.size := by rw [hG.1]; omega
  have hw : (U.pushCell (arrV cB M fun _ => .int 0)).heap[O.size]? = some (arrV cA N v) := (State.heap_pushCell_of_lt _ _ hO).trans hv
  have X2 := (X.pushed (arrV cB M fun _ => .int 0)).stored hw i (.ref U.heap.size)
  rw [arrV_size, arrV_store] at X2
  rw [wp_bind', Jvm.Op.multianewarray.make]
  simp only [wp_bind', Jvm.W.ite, hy, if_false, wp_pure', Jvm.W.theClass, State.vm_setTop, hB, Option.some.injEq, exists_eq_left', tB, hM]
  refine Jvm.W.newArray_of (s := U.setTop g) hB tB lM.1 lM.2 r1 r2 rfl fun acts2 => ?_
  rw [wp_bind']
  refine (Jvm.W.writeLoc ..).mpr ⟨arrV cA N v, ?_, (by intro h; cases h), ?_, ?_, ?_⟩
  · rw [show ({ cls := cB, slots := Array.replicate M (defaultValue .int) } : Cell) = arrV cB M fun _ => .int 0 from arrV_new cB M (.int 0)]
    exact hw
  · rw [arrV_size]
    exact hi
  · show U.fitsSlot cA .none i (.ref U.heap.size) = true
    simp [State.fitsSlot, State.slotType?, hA, tA]
    rfl
  · rw [show ({ cls := cB, slots := Array.replicate M (defaultValue .int) } : Cell) = arrV cB M fun _ => .int 0 from arrV_new cB M (.int 0), arrV_store]
    exact k _ _ _ X2 rfl (hG.more hv hj)
/-- the loop, from its i-th turn on: n turns are left -/
theorem gd_loop {O : Heap} {F : Nat → PUnit → Sem (ForInStep PUnit)} (hF : ∀ j u, F j u = (do let r ← Jvm.Op.multianewarray.make cB [y]; Jvm.writeLoc O.size j (.ref r); Pure.pure (ForInStep.yield PUnit.unit))) (tA : kA.kind = .array cB (.array .int)) (tB : kB.kind = .array cI .int) (hy : ¬ y < 0) (hM : y.toNatClampNeg = M) (lM : gdL e M) {Q : PUnit → Pre} : ∀ (n i : Nat) {U : State} {locs : List Loc} {cu su : Nat} {d : Bool} {acts : List Action}, i + n = N → Stand p l e R s m args below meth c U locs cu su → U.vm.classes[cA]? = some kA → U.vm.classes[cB]? = some kB → cu + n ≤ R.cells → su + n * M ≤ R.slots → Gd O cA cB N M i U.heap → (∀ U' L d' acts', Stand p l e R s m args below meth c U' (locs ++ L) (cu + n) (su + n * M) → (∀ q ∈ L, q.base = O.size) → Gd O cA cB N M N U'.heap → Q PUnit.unit d' acts' (U'.setTop g)) → wp (forIn (List.range' i n) PUnit.unit F) Q E e d acts (U.setTop g)
  | 0, i, U, locs, cu, su, d, acts, hn, X, _, _, _, _, hG, k => by
    obtain rfl : i = N := hn
    rw [List.range'_zero, List.forIn_nil, wp_pure']
    refine k U [] d acts ?_ (fun q h => by cases h) hG
    rw [List.append_nil, Nat.zero_mul]
    exact X
  | n + 1, i, U, locs, cu, su, d, acts, hn, X, hA, hB, hc, hs, hG, k => by
    rw [Nat.succ_mul] at hs
    rw [List.range'_succ, List.forIn_cons, hF, wp_bind']
    refine gd_turn X hA tA hB tB hy hM lM (by omega) (by omega) (by omega) hG fun U2 d2 acts2 X2 hv hG2 => ?_
    rw [wp_pure']
    refine gd_loop hF tA tB hy hM lM n (i + 1) (by omega) X2 (by rw [hv]; exact hA) (by rw [hv]; exact hB) (by omega) (by omega) hG2 fun U3 L d3 acts3 X3 hL hG3 => ?_
    refine k U3 (⟨O.size, i⟩ :: L) d3 acts3 ?_ (fun q h => ?_) hG3
    · rw [List.append_assoc, List.singleton_append, show cu + 1 + n = cu + (n + 1) by omega, show su + M + n * M = su + (n + 1) * M by rw [Nat.succ_mul]; omega] at X3
      exact X3
    · rcases List.mem_cons.mp h with h | h
      · rw [h]
      · exact hL q h
/-- all of it, with a frame g on top -/
theorem gd_make (X : Stand p l e R s m args below meth c U locs cu su) (hA : U.vm.classes[cA]? = some kA) (tA : kA.kind = .array cB (.array .int)) (hB : U.vm.classes[cB]? = some kB) (tB : kB.kind = .array cI .int) (hx : ¬ x < 0) (h0 : (x == 0) = false) (hy : ¬ y < 0) (hN : x.toNatClampNeg = N) (hM : y.toNatClampNeg = M) (lN : gdL e N) (lM : gdL e M) (hc : cu + 1 + N ≤ R.cells) (hs : su + N + N * M ≤ R.slots) {Q : Addr → Pre} (k : ∀ U' L d' acts', Stand p l e R s m args below meth c U' (locs ++ L) (cu + 1 + N) (su + N + N * M) → (∀ q ∈ L, q.base = U.heap.size) → Gd U.heap cA cB N M N U'.heap → Q U.heap.size d' acts' (U'.setTop g)) : wp (Jvm.Op.multianewarray.make cA [x, y]) Q E e d acts (U.setTop g) := by
  obtain ⟨r1, r2⟩ := X.roomAbove (a := 1) (b := N) (by omega) (by omega)
  have X1 := X.pushed (arrV cA N fun _ => .null)
  rw [arrV_size] at X1
  rw [Jvm.Op.multianewarray.make]
  simp only [wp_bind', Jvm.W.ite, hx, if_false, wp_pure', Jvm.W.theClass, State.vm_setTop, hA, Option.some.injEq, exists_eq_left', tA, hN]
  refine Jvm.W.newArray_of (s := U.setTop g) hA tA lN.1 lN.2 r1 r2 rfl fun acts2 => ?_
  simp only [h0, Bool.false_eq_true, if_false, wp_bind', wp_pure', Std.Legacy.Range.forIn_eq_forIn_range', Std.Legacy.Range.size, Nat.sub_zero, Nat.add_sub_cancel, Nat.div_one]
  rw [show ({ cls := cA, slots := Array.replicate N .null } : Cell) = arrV cA N fun _ => .null from arrV_new cA N .null]
  refine gd_loop (U := U.pushCell (arrV cA N fun _ => .null)) (O := U.heap) (fun _ _ => rfl) tA tB hy hM lM N 0 (Nat.zero_add N) X1 hA hB hc hs (Gd.none U.heap cA cB N M) fun U3 L d3 acts3 X3 hL hG3 => ?_
  exact k U3 L d3 acts3 X3 hL hG3
/-- the instruction -/
theorem gd_row {T : State} {f : JFrame} {own : String} {idx : Nat} {st : List Value} (X : Stand p l e R s m args below meth c T locs cu su) (hexec : p.tables.exec = Jvm.exec) (hown : s.vm.findClass own = some m.cls) (hlink : (Cond.classLink own idx "[[I").before args s = true) (hover : (Cond.arrayOver (.array .int)).before args s = true) (hrow : (Cond.arrayClass .int).before args s = true) (hf : f.method = m) (hd : decode c.code f.pc = .ok (.multianewarray idx 2, 4)) (hst : f.stack = .int y :: .int x :: st) (hx : ¬ x < 0) (h0 : (x == 0) = false) (hy : ¬ y < 0) (hN : x.toNatClampNeg = N) (hM : y.toNatClampNeg = M) (bN : N < 2 ^ 20) (bM : M < 2 ^ 20) (hc : cu + 1 + N ≤ R.cells) (hs : su + N + N * M ≤ R.slots) (iA : s.vm.findClass ("[" ++ (FieldType.array .int).toString) = some cA) (iB : s.vm.findClass ("[" ++ (FieldType.int).toString) = some cB) :
    ∃ U, (∃ L, Stand p l e R s m args below meth c U (locs ++ L) (cu + 1 + N) (su + N + N * M) ∧ (∀ q ∈ L, q.base = T.heap.size) ∧ Gd T.heap cA cB N M N U.heap) ∧ ∀ t, Steps p.tables e below (U.setTop { f with pc := f.pc + 4, stack := .ref T.heap.size :: st }) t → Steps p.tables e below (T.setTop f) t := by
  subst hf
  obtain ⟨b1, a1, kA, hb1, -, hkA, tA, ha1⟩ := arrayOverA_spec hover
  obtain ⟨b2, kB, cI, hb2, hkB, tB⟩ := Cond.arrayClass_spec hrow
  obtain rfl : a1 = cA := Option.some.inj (ha1.symm.trans iA)
  obtain rfl : b2 = cB := Option.some.inj (hb2.symm.trans iB)
  obtain rfl : b1 = b2 := Option.some.inj (hb1.symm.trans hb2)
  obtain ⟨a2, ha2, hln⟩ := Cond.classLink_spec hown hlink e.platform (by rw [X.admits.platform])
  obtain rfl : a1 = a2 := Option.some.inj (ha1.symm.trans ha2)
  obtain ⟨hg, hw, -⟩ := State.classEntry (e := e) X.warmed hln
  generalize T.vm.noted f.method.cls idx (.cls a1) = vm1 at hg hw
  obtain ⟨kA1, hA1, eA⟩ := hw.alike.2.2 _ _ hkA
  obtain ⟨kB1, hB1, eB⟩ := hw.alike.2.2 _ _ hkB
  have X1 := X.noted hw
  refine gd_go (g := { f with stack := .ref T.heap.size :: st }) X.here hd ?_
  rw [hexec]
  show wp (Jvm.Op.multianewarray.sem idx 2) _ _ e false [] (T.setTop f)
  simp only [Jvm.Op.multianewarray.sem, wp_bind', Jvm.W.resolveClassAt_links (State.method?_setTop f X.here.top) hg, State.setVm_setTop]
  refine (Jvm.Op.popN_top (s := T.setVm vm1) (args := [.int x, .int y]) (rest := st) X1.here.top hst).mpr ?_
  simp only [List.mapM_cons, List.mapM_nil, wp_bind', wp_pure']
  refine gd_make (U := T.setVm vm1) X1 hA1 (by rw [eA]; exact tA) hB1 (by rw [eB]; exact tB) hx h0 hy hN hM (gdL.of X bN) (gdL.of X bM) hc hs fun U L d2 acts2 XU hL hG => ?_
  simp only [wp_bind', Jvm.W.mark, Jvm.W.pushRef, State.topJava?_setTop' _ XU.here.top, Option.some.injEq, exists_eq_left', State.setTop_setTop]
  exact ⟨U, rfl, L, XU, hL, hG⟩
end Grid
def R_law9 : String := "RuledTablesLaw"
theorem kObj_i : Cond.instanceMethod objectInit ∈ wtb := wt (List.mem_of_getElem? (i := 92) (by decide +kernel)) rfl
theorem kObj_c : Cond.code objectInit { data := #[177] } 1 none ∈ wtb := wt (List.mem_of_getElem? (i := 93) (by decide +kernel)) rfl
theorem kArrI : Cond.arrayClass .int ∈ wtb := wt (List.mem_of_getElem? (i := 122) (by decide +kernel)) rfl
theorem kArrZ : Cond.arrayClass .boolean ∈ wtb := wt (List.mem_of_getElem? (i := 168) (by decide +kernel)) rfl
theorem kCl1 : Cond.methodLink RX3 27 ⟨"[I", "clone", "()Ljava/lang/Object;"⟩ ∈ wtb := wt (List.mem_of_getElem? (i := 125) (by decide +kernel)) rfl
theorem kCl2 : Cond.sameMethod "[I" "java/lang/Object" "clone" "()Ljava/lang/Object;" ∈ wtb := wt (List.mem_of_getElem? (i := 126) (by decide +kernel)) rfl
theorem kCl3 : Cond.native ⟨"java/lang/Object", "clone", "()Ljava/lang/Object;"⟩ ∈ wtb := wt (List.mem_of_getElem? (i := 127) (by decide +kernel)) rfl
theorem kCl4 : Cond.instanceMethod ⟨"java/lang/Object", "clone", "()Ljava/lang/Object;"⟩ ∈ wtb := wt (List.mem_of_getElem? (i := 128) (by decide +kernel)) rfl
theorem kCl5 : Cond.selects "[I" ⟨"[I", "clone", "()Ljava/lang/Object;"⟩ ⟨"java/lang/Object", "clone", "()Ljava/lang/Object;"⟩ ∈ wtb := wt (List.mem_of_getElem? (i := 129) (by decide +kernel)) rfl
theorem kn9 : Cond.initialized RX9 ∈ wtb := wt (List.mem_of_getElem? (i := 74) (by decide +kernel)) rfl
theorem kn3 : Cond.initialized RX3 ∈ wtb := wt (List.mem_of_getElem? (i := 75) (by decide +kernel)) rfl
theorem kn5 : Cond.initialized RX5 ∈ wtb := wt (List.mem_of_getElem? (i := 76) (by decide +kernel)) rfl
theorem kn0 : Cond.initialized RX0 ∈ wtb := wt (List.mem_of_getElem? (i := 78) (by decide +kernel)) rfl
theorem kn1 : Cond.initialized RX1 ∈ wtb := wt (List.mem_of_getElem? (i := 79) (by decide +kernel)) rfl
theorem kn7 : Cond.initialized RX7 ∈ wtb := wt (List.mem_of_getElem? (i := 80) (by decide +kernel)) rfl
theorem kn6 : Cond.initialized RX6 ∈ wtb := wt (List.mem_of_getElem? (i := 81) (by decide +kernel)) rfl
theorem kn8 : Cond.initialized RX8 ∈ wtb := wt (List.mem_of_getElem? (i := 82) (by decide +kernel)) rfl
theorem kn2 : Cond.initialized RX2 ∈ wtb := wt (List.mem_of_getElem? (i := 83) (by decide +kernel)) rfl
theorem kn4 : Cond.initialized RX4 ∈ wtb := wt (List.mem_of_getElem? (i := 84) (by decide +kernel)) rfl
theorem kn10 : Cond.initialized RX10 ∈ wtb := wt (List.mem_of_getElem? (i := 85) (by decide +kernel)) rfl
theorem kcL_7 : Cond.classLink R_law9 7 RX9 ∈ wtb := wt (List.mem_of_getElem? (i := 86) (by decide +kernel)) rfl
theorem ki9 : Cond.instantiable RX9 5 ∈ wtb := wt (List.mem_of_getElem? (i := 87) (by decide +kernel)) rfl
theorem kc9_9 : Cond.classLink RX9 9 RX3 ∈ wtb := wt (List.mem_of_getElem? (i := 94) (by decide +kernel)) rfl
theorem ki3 : Cond.instantiable RX3 3 ∈ wtb := wt (List.mem_of_getElem? (i := 95) (by decide +kernel)) rfl
theorem kc3_9 : Cond.classLink RX3 9 RX5 ∈ wtb := wt (List.mem_of_getElem? (i := 100) (by decide +kernel)) rfl
theorem ki5 : Cond.instantiable RX5 3 ∈ wtb := wt (List.mem_of_getElem? (i := 101) (by decide +kernel)) rfl
theorem kc3_28 : Cond.classLink RX3 28 "[I" ∈ wtb := wt (List.mem_of_getElem? (i := 131) (by decide +kernel)) rfl
theorem kc9_24 : Cond.classLink RX9 24 RX0 ∈ wtb := wt (List.mem_of_getElem? (i := 150) (by decide +kernel)) rfl
theorem ki0 : Cond.instantiable RX0 5 ∈ wtb := wt (List.mem_of_getElem? (i := 151) (by decide +kernel)) rfl
theorem kc0_9 : Cond.classLink RX0 9 RX1 ∈ wtb := wt (List.mem_of_getElem? (i := 156) (by decide +kernel)) rfl
theorem ki1 : Cond.instantiable RX1 1 ∈ wtb := wt (List.mem_of_getElem? (i := 157) (by decide +kernel)) rfl
theorem kc0_26 : Cond.classLink RX0 26 RX7 ∈ wtb := wt (List.mem_of_getElem? (i := 169) (by decide +kernel)) rfl
theorem ki7 : Cond.instantiable RX7 3 ∈ wtb := wt (List.mem_of_getElem? (i := 170) (by decide +kernel)) rfl
theorem kc7_9 : Cond.classLink RX7 9 RX6 ∈ wtb := wt (List.mem_of_getElem? (i := 175) (by decide +kernel)) rfl
theorem ki6 : Cond.instantiable RX6 9 ∈ wtb := wt (List.mem_of_getElem? (i := 177) (by decide +kernel)) rfl
theorem kc0_33 : Cond.classLink RX0 33 RX8 ∈ wtb := wt (List.mem_of_getElem? (i := 233) (by decide +kernel)) rfl
theorem ki8 : Cond.instantiable RX8 12 ∈ wtb := wt (List.mem_of_getElem? (i := 235) (by decide +kernel)) rfl
theorem kc8_15 : Cond.classLink RX8 15 RX2 ∈ wtb := wt (List.mem_of_getElem? (i := 241) (by decide +kernel)) rfl
theorem ki2 : Cond.instantiable RX2 2 ∈ wtb := wt (List.mem_of_getElem? (i := 242) (by decide +kernel)) rfl
theorem kc2_15 : Cond.classLink RX2 15 "[[I" ∈ wtb := wt (List.mem_of_getElem? (i := 248) (by decide +kernel)) rfl
theorem kc8_34 : Cond.classLink RX8 34 "[[I" ∈ wtb := wt (List.mem_of_getElem? (i := 258) (by decide +kernel)) rfl
theorem kc0_40 : Cond.classLink RX0 40 RX4 ∈ wtb := wt (List.mem_of_getElem? (i := 304) (by decide +kernel)) rfl
theorem ki4 : Cond.instantiable RX4 5 ∈ wtb := wt (List.mem_of_getElem? (i := 305) (by decide +kernel)) rfl
theorem kcL_10 : Cond.classLink R_law9 10 RX10 ∈ wtb := wt (List.mem_of_getElem? (i := 758) (by decide +kernel)) rfl
theorem ki10 : Cond.instantiable RX10 28 ∈ wtb := wt (List.mem_of_getElem? (i := 759) (by decide +kernel)) rfl
theorem kIL_9 : Cond.methodLink R_law9 9 yX9_init ∈ wtb := wt (List.mem_of_getElem? (i := 88) (by decide +kernel)) rfl
theorem kI9_3 : Cond.methodLink RX9 3 objectInit ∈ wtb := wt (List.mem_of_getElem? (i := 91) (by decide +kernel)) rfl
theorem kI9_11 : Cond.methodLink RX9 11 yX3_init ∈ wtb := wt (List.mem_of_getElem? (i := 96) (by decide +kernel)) rfl
theorem kI3_3 : Cond.methodLink RX3 3 objectInit ∈ wtb := wt (List.mem_of_getElem? (i := 99) (by decide +kernel)) rfl
theorem kI3_11 : Cond.methodLink RX3 11 yX5_init ∈ wtb := wt (List.mem_of_getElem? (i := 102) (by decide +kernel)) rfl
theorem kI5_3 : Cond.methodLink RX5 3 objectInit ∈ wtb := wt (List.mem_of_getElem? (i := 105) (by decide +kernel)) rfl
theorem kI9_26 : Cond.methodLink RX9 26 yX0_init ∈ wtb := wt (List.mem_of_getElem? (i := 152) (by decide +kernel)) rfl
theorem kI0_3 : Cond.methodLink RX0 3 objectInit ∈ wtb := wt (List.mem_of_getElem? (i := 155) (by decide +kernel)) rfl
theorem kI0_17 : Cond.methodLink RX0 17 yX1_init ∈ wtb := wt (List.mem_of_getElem? (i := 159) (by decide +kernel)) rfl
theorem kI1_1 : Cond.methodLink RX1 1 objectInit ∈ wtb := wt (List.mem_of_getElem? (i := 162) (by decide +kernel)) rfl
theorem kI0_28 : Cond.methodLink RX0 28 yX7_init ∈ wtb := wt (List.mem_of_getElem? (i := 171) (by decide +kernel)) rfl
theorem kI7_3 : Cond.methodLink RX7 3 objectInit ∈ wtb := wt (List.mem_of_getElem? (i := 174) (by decide +kernel)) rfl
theorem kI6_3 : Cond.methodLink RX6 3 objectInit ∈ wtb := wt (List.mem_of_getElem? (i := 181) (by decide +kernel)) rfl
theorem kI0_39 : Cond.methodLink RX0 39 yX8_init ∈ wtb := wt (List.mem_of_getElem? (i := 236) (by decide +kernel)) rfl
theorem kI8_3 : Cond.methodLink RX8 3 objectInit ∈ wtb := wt (List.mem_of_getElem? (i := 239) (by decide +kernel)) rfl
theorem kI8_17 : Cond.methodLink RX8 17 yX2_init ∈ wtb := wt (List.mem_of_getElem? (i := 243) (by decide +kernel)) rfl
theorem kI2_3 : Cond.methodLink RX2 3 objectInit ∈ wtb := wt (List.mem_of_getElem? (i := 246) (by decide +kernel)) rfl
theorem kI0_42 : Cond.methodLink RX0 42 yX4_init ∈ wtb := wt (List.mem_of_getElem? (i := 306) (by decide +kernel)) rfl
theorem kI4_3 : Cond.methodLink RX4 3 objectInit ∈ wtb := wt (List.mem_of_getElem? (i := 309) (by decide +kernel)) rfl
theorem kIL_12 : Cond.methodLink R_law9 12 yX10_init ∈ wtb := wt (List.mem_of_getElem? (i := 760) (by decide +kernel)) rfl
theorem kI10_1 : Cond.methodLink RX10 1 objectInit ∈ wtb := wt (List.mem_of_getElem? (i := 763) (by decide +kernel)) rfl
/-! worlds under construction: the first nn cells of the layout, with contents E -/
def updE (E : Nat → va_E) (k : Nat) (x : va_E) : Nat → va_E := fun j => if j = k then x else E j
theorem updE_s (E : Nat → va_E) (k : Nat) (x : va_E) : updE E k x k = x := if_pos rfl
theorem updE_n {E : Nat → va_E} {k j : Nat} {x : va_E} (h : j ≠ k) : updE E k x j = E j := if_neg h
def wsB (g : GG) (n : Nat) (E : Nat → va_E) : va_W := (List.range n).map fun o => (ad g o, E o)
theorem wsB_at (g : GG) (E : Nat → va_E) {n o : Nat} (h : o < n) : (wsB g n E)[o]? = some (ad g o, E o) := by
  unfold wsB
  rw [List.getElem?_map, List.getElem?_range h]
  rfl
theorem wsB_lt {g : GG} {E : Nat → va_E} {n i : Nat} {p : Nat × va_E} (h : (wsB g n E)[i]? = some p) : i < n := by
  have := (List.getElem?_eq_some_iff.mp h).1
  simpa [wsB] using this
theorem wsB_D (g : GG) (n : Nat) (E : Nat → va_E) : va_D (reg g) (wsB g n E) := by
  refine ⟨fun i j p q hp hq e => ?_, fun k q hq => ?_⟩
  · rw [wsB_at g E (wsB_lt hp)] at hp
    rw [wsB_at g E (wsB_lt hq)] at hq
    cases hp
    cases hq
    exact Nat.add_left_cancel e
  · rw [wsB_at g E (wsB_lt hq)] at hq
    cases hq
    exact Nat.le_add_right _ _
theorem wsB_cong {g : GG} {n : Nat} {E E' : Nat → va_E} (h : ∀ o, o < n → E o = E' o) : wsB g n E = wsB g n E' := by
  unfold wsB
  refine List.map_congr_left fun o ho => ?_
  rw [h o (List.mem_range.mp ho)]
theorem wsB_app (g : GG) (n : Nat) (E : Nat → va_E) (x : va_E) : wsB g n E ++ [(ad g n, x)] = wsB g (n + 1) (updE E n x) := by
  show _ = (List.range (n + 1)).map _
  rw [List.range_succ, List.map_append]
  show _ = _ ++ [(ad g n, updE E n x n)]
  rw [updE_s]
  refine congrArg (· ++ _) ?_
  exact wsB_cong fun o ho => (updE_n (by omega)).symm
theorem wsB_set {g : GG} {n o : Nat} {E : Nat → va_E} {x : va_E} : (wsB g n E).set o (ad g o, x) = wsB g n (updE E o x) := by
  apply List.ext_getElem?
  intro i
  rw [List.getElem?_set]
  by_cases h : o = i
  · subst h
    rw [if_pos rfl]
    by_cases q : o < n
    · rw [if_pos (by simpa [wsB] using q), wsB_at g _ q, updE_s]
    · rw [if_neg (by simpa [wsB] using q)]
      exact (List.getElem?_eq_none (by simpa [wsB] using q)).symm
  · rw [if_neg h]
    by_cases q : i < n
    · rw [wsB_at g _ q, wsB_at g _ q, updE_n (fun z => h z.symm)]
    · rw [List.getElem?_eq_none (by simpa [wsB] using q), List.getElem?_eq_none (by simpa [wsB] using q)]
def aoI (U : State) : Prop := (Cond.arrayOver (.array .int)).before #[] U = true
theorem aoI.moved {u U : State} (hvm : u.vm.Alike U.vm) (h : aoI u) : aoI U := over_moved hvm h
theorem aoI.use {A : Array Value} {U : State} (h : aoI U) : (Cond.arrayOver (.array .int)).before A U = true := h
/-- the first settings, as they are copied -/
def fstC (g : GG) (H : Heap) : Prop := ∃ cell : Cell, H[g.2.2.2.2.2.2]? = some cell ∧ (∀ k, cell.vm ≠ .statics k) ∧ cell.vm ≠ .unknown ∧ cell.cls = g.2.2.2.2.1 0 ∧ cell.slots = #[.int 1, .int 2, .int 1] ∧ ¬ reg g g.2.2.2.2.2.2
def xtr (g : GG) (U : State) (H : Heap) : Prop := va_Nw (.castable "[I" "java/lang/Cloneable") U ∧ va_AO RX3 U ∧ va_AO RX6 U ∧ va_AO RX8 U ∧ aoI U ∧ va_Nw (.methodLinkNest RX7 17 yX6_init "RuledTables") U ∧ fstC g H
theorem xtr.moved {g : GG} {u U : State} {H : Heap} (hW : u.WarmedH U.vm) (h : xtr g u H) : xtr g U H := ⟨h.1.warmC hW, h.2.1.moved hW.alike, h.2.2.1.moved hW.alike, h.2.2.2.1.moved hW.alike, h.2.2.2.2.1.moved hW.alike, h.2.2.2.2.2.1.warmM hW, h.2.2.2.2.2.2⟩
theorem xtr.same {g : GG} {u U : State} {H : Heap} (hvm : u.vm = U.vm) (h : xtr g u H) : xtr g U H := ⟨h.1.same rfl hvm, h.2.1.moved (hvm ▸ Vm.Alike.refl u.vm), h.2.2.1.moved (hvm ▸ Vm.Alike.refl u.vm), h.2.2.2.1.moved (hvm ▸ Vm.Alike.refl u.vm), h.2.2.2.2.1.moved (hvm ▸ Vm.Alike.refl u.vm), h.2.2.2.2.2.1.same rfl hvm, h.2.2.2.2.2.2⟩
theorem fstC.kept {g : GG} {H H1 : Heap} (h : fstC g H) (hq : ∀ a : Nat, a < H.size → ¬ reg g a → H1[a]? = H[a]?) : fstC g H1 := by
  obtain ⟨cell, a, b, c, d, e, f⟩ := h
  exact ⟨cell, (hq _ (Array.getElem?_eq_some_iff.mp a).1 f).trans a, b, c, d, e, f⟩
theorem xtr.kept {g : GG} {U : State} {H H1 : Heap} (h : xtr g U H) (hq : ∀ a : Nat, a < H.size → ¬ reg g a → H1[a]? = H[a]?) : xtr g U H1 := ⟨h.1, h.2.1, h.2.2.1, h.2.2.2.1, h.2.2.2.2.1, h.2.2.2.2.2.1, h.2.2.2.2.2.2.kept hq⟩
def wdB (g : GG) (n : Nat) (E : Nat → va_E) (U : State) : Prop := va_P (gD g) vwCl (wsB g n E) U.heap ∧ U.heap.size = ad g n ∧ va_K (gD g) vwCl (tys_ g) U ∧ stt g U U.heap ∧ xtr g U U.heap
theorem wdB_blind {g : GG} {n : Nat} {E : Nat → va_E} {av : List Value} : FrameBlind (va_Pc av (wdB g n E)) := fun a U g9 mk q => by
  obtain ⟨q0, qP, qz, qK, qS, qx⟩ := q
  exact ⟨q0, qP, qz, va_K.moved (u := U) (U := U.calling g9 mk a) (Vm.Alike.refl U.vm) qK, stt.same (u := U) (U := U.calling g9 mk a) rfl qS, xtr.same (u := U) (U := U.calling g9 mk a) rfl qx⟩
abbrev rmb (fr lo mc ms : Nat) : Room := { frames := fr, cells := mc, slots := ms, locals := lo }
/-- a constructor's contract -/
abbrev Ctb (g : GG) (y : MethodName) (cc : ByteArray) (nL : Nat) (fr lo mc ms : Nat) (av : List Value) (n : Nat) (E : Nat → va_E) (n' : Nat) (post : (Nat → va_E) → Prop) : Prop := Met g.1 y (cw_ y cc nL none) (rmb fr lo mc ms) (va_Pc av (wdB g n E)) (va_Qv post (wdB g n') (reg g)) mc ms (reg g)
def BW (g : GG) (cc : ByteArray) (nL : Nat) (R : Room) (own : String) (Qc : Array Value → State → Outcome → State → Prop) (mc ms pc : Nat) (lv : List (Option Value)) (st : List Value) (nn : Nat) (E : Nat → va_E) (cu su : Nat) : Prop :=
  ∀ (p : Program) (e : Env) (s : State) (m : MethodId) (args : Array Value) (below : List Frame) (meth : Method) (c : Code) (H : Heap) (locs : List Loc) (ls : Array Slot),
    Fx g p s m args meth c cc nL none own → (meth.name = "<init>" ∧ g.2.1 ≤ s.heap.size ∧ xtr g s s.heap) → va_P (gD g) vwCl (wsB g nn E) H → (H.size = ad g nn ∧ s.heap.size + cu = ad g nn) → va_S (reg g) s.heap H locs → lvp ls nL lv →
    W p g.1 e R s m args below meth c H locs cu su (MQ below Qc args s mc ms (reg g)) (F0 m pc ls st)
section BWr
variable {g : GG} {cc : ByteArray} {nL : Nat} {R : Room} {own : String} {Qc : Array Value → State → Outcome → State → Prop} {mc ms pc pc' tgt : Nat} {lv : List (Option Value)} {st : List Value} {nn : Nat} {E : Nat → va_E} {cu su : Nat}
theorem Fx.wdB {p : Program} {s : State} {m : MethodId} {args : Array Value} {meth : Method} {c : Code} {H : Heap} {locs : List Loc} (F : Fx g p s m args meth c cc nL none own) (hx : xtr g s s.heap) (hP : va_P (gD g) vwCl (wsB g nn E) H) (hz : H.size = ad g nn) (hS : va_S (reg g) s.heap H locs) {U : State} (hU : U.heap = H) (hW : s.WarmedH U.vm) : _root_.Jvm.Pilot.CRuledTablesLaw_law_r2391_d775b6.wdB g nn E U := ⟨by rw [hU]; exact hP, by rw [hU]; exact hz, va_K.moved hW.alike F.2.2.2.2.2.2.2.1, by rw [hU]; exact (F.2.2.2.2.2.2.2.2.moved hW).kept hS.2.1, by rw [hU]; exact (hx.moved hW).kept hS.2.1⟩
theorem bw_iconst {n : Int} (hd : dn cc pc (.iconst n) 1 pc') (k : BW g cc nL R own Qc mc ms pc' lv (.int (Int32.ofInt n) :: st) nn E cu su) : BW g cc nL R own Qc mc ms pc lv st nn E cu su := by
  obtain ⟨hd, rfl⟩ := hd
  intro p e s m args below meth c H locs ls F hY hP hz hS hl
  exact lv_iconst F.1 F.2.1 hd rfl (k p e s m args below meth c H locs ls F hY hP hz hS hl)
theorem bw_bipush {n : Int} (hd : dn cc pc (.bipush n) 2 pc') (k : BW g cc nL R own Qc mc ms pc' lv (.int ((Int8.ofInt n).toInt32) :: st) nn E cu su) : BW g cc nL R own Qc mc ms pc lv st nn E cu su := by
  obtain ⟨hd, rfl⟩ := hd
  intro p e s m args below meth c H locs ls F hY hP hz hS hl
  exact lv_bipush F.1 F.2.1 hd rfl (k p e s m args below meth c H locs ls F hY hP hz hS hl)
theorem bw_sipush {n : Int} (hd : dn cc pc (.sipush n) 3 pc') (k : BW g cc nL R own Qc mc ms pc' lv (.int ((Int16.ofInt n).toInt32) :: st) nn E cu su) : BW g cc nL R own Qc mc ms pc lv st nn E cu su := by
  obtain ⟨hd, rfl⟩ := hd
  intro p e s m args below meth c H locs ls F hY hP hz hS hl
  exact lv_sipush F.1 F.2.1 hd rfl (k p e s m args below meth c H locs ls F hY hP hz hS hl)
theorem bw_iadd {x y : Int32} (hd : dn cc pc .iadd 1 pc') (k : BW g cc nL R own Qc mc ms pc' lv (.int (x + y) :: st) nn E cu su) : BW g cc nL R own Qc mc ms pc lv (.int y :: .int x :: st) nn E cu su := by
  obtain ⟨hd, rfl⟩ := hd
  intro p e s m args below meth c H locs ls F hY hP hz hS hl
  exact lv_iadd F.1 F.2.1 hd  (k p e s m args below meth c H locs ls F hY hP hz hS hl)
theorem bw_isub {x y : Int32} (hd : dn cc pc .isub 1 pc') (k : BW g cc nL R own Qc mc ms pc' lv (.int (x - y) :: st) nn E cu su) : BW g cc nL R own Qc mc ms pc lv (.int y :: .int x :: st) nn E cu su := by
  obtain ⟨hd, rfl⟩ := hd
  intro p e s m args below meth c H locs ls F hY hP hz hS hl
  exact lv_isub F.1 F.2.1 hd  (k p e s m args below meth c H locs ls F hY hP hz hS hl)
theorem bw_imul {x y : Int32} (hd : dn cc pc .imul 1 pc') (k : BW g cc nL R own Qc mc ms pc' lv (.int (x * y) :: st) nn E cu su) : BW g cc nL R own Qc mc ms pc lv (.int y :: .int x :: st) nn E cu su := by
  obtain ⟨hd, rfl⟩ := hd
  intro p e s m args below meth c H locs ls F hY hP hz hS hl
  exact lv_imul F.1 F.2.1 hd  (k p e s m args below meth c H locs ls F hY hP hz hS hl)
theorem bw_idiv {x y : Int32} (hd : dn cc pc .idiv 1 pc') (hne : ¬ y = 0) (k : BW g cc nL R own Qc mc ms pc' lv (.int (x / y) :: st) nn E cu su) : BW g cc nL R own Qc mc ms pc lv (.int y :: .int x :: st) nn E cu su := by
  obtain ⟨hd, rfl⟩ := hd
  intro p e s m args below meth c H locs ls F hY hP hz hS hl
  exact lv_idiv F.1 F.2.1 hd hne (k p e s m args below meth c H locs ls F hY hP hz hS hl)
theorem bw_dup {va : Value} (hd : dn cc pc .dup 1 pc') (hv : va.category = 1) (k : BW g cc nL R own Qc mc ms pc' lv (va :: va :: st) nn E cu su) : BW g cc nL R own Qc mc ms pc lv (va :: st) nn E cu su := by
  obtain ⟨hd, rfl⟩ := hd
  intro p e s m args below meth c H locs ls F hY hP hz hS hl
  exact lv_dup F.1 F.2.1 hd hv (k p e s m args below meth c H locs ls F hY hP hz hS hl)
theorem bw_aload_n {i : Fin 4} {x : Nat} (hd : dn cc pc (.aload_n i) 1 pc') (hx : lv[(i : Nat)]? = some (some (.ref x))) (k : BW g cc nL R own Qc mc ms pc' lv (.ref x :: st) nn E cu su) : BW g cc nL R own Qc mc ms pc lv st nn E cu su := by
  obtain ⟨hd, rfl⟩ := hd
  intro p e s m args below meth c H locs ls F hY hP hz hS hl
  exact lv_aload_n F.1 F.2.1 hd rfl (hl.2.2 _ _ hx).1 (k p e s m args below meth c H locs ls F hY hP hz hS hl)
theorem bw_iload_n {i : Fin 4} {x : Int32} (hd : dn cc pc (.iload_n i) 1 pc') (hx : lv[(i : Nat)]? = some (some (.int x))) (k : BW g cc nL R own Qc mc ms pc' lv (.int x :: st) nn E cu su) : BW g cc nL R own Qc mc ms pc lv st nn E cu su := by
  obtain ⟨hd, rfl⟩ := hd
  intro p e s m args below meth c H locs ls F hY hP hz hS hl
  exact lv_iload_n F.1 F.2.1 hd rfl (hl.2.2 _ _ hx).1 (k p e s m args below meth c H locs ls F hY hP hz hS hl)
theorem bw_istore_n {i : Fin 4} {x : Int32} (hd : dn cc pc (.istore_n i) 1 pc') (hn : (i : Nat) < nL) (k : BW g cc nL R own Qc mc ms pc' (lv.set (i : Nat) (some (.int x))) st nn E cu su) : BW g cc nL R own Qc mc ms pc lv (.int x :: st) nn E cu su := by
  obtain ⟨hd, rfl⟩ := hd
  intro p e s m args below meth c H locs ls F hY hP hz hS hl
  exact lv_istore_n F.1 F.2.1 hd rfl hl.has hn rfl (fun ls' h' => k p e s m args below meth c H locs ls' F hY hP hz hS (hl.set rfl h'))
theorem bw_iinc {i : Nat} {n : Int} {x : Int32} (hd : dn cc pc (.iinc i n) 3 pc') (hx : lv[i]? = some (some (.int x))) (hn : i < nL) (k : BW g cc nL R own Qc mc ms pc' (lv.set i (some (.int (x + Int32.ofInt n)))) st nn E cu su) : BW g cc nL R own Qc mc ms pc lv st nn E cu su := by
  obtain ⟨hd, rfl⟩ := hd
  intro p e s m args below meth c H locs ls F hY hP hz hS hl
  obtain ⟨j, hj⟩ := List.getElem?_of_mem (lvL_mem (q := (i, .int x)).mpr hx)
  exact lv_iinc F.1 F.2.1 hd hl.has hj rfl hn rfl (fun ls' h' => k p e s m args below meth c H locs ls' F hY hP hz hS (hl.set rfl h'))
theorem bw_goto {off : Int} (hd : db cc pc (.goto off) 3 pc' off tgt) (k : BW g cc nL R own Qc mc ms tgt lv st nn E cu su) : BW g cc nL R own Qc mc ms pc lv st nn E cu su := by
  obtain ⟨hd, rfl, ht⟩ := hd
  intro p e s m args below meth c H locs ls F hY hP hz hS hl
  exact lv_goto F.1 F.2.1 hd ht (k p e s m args below meth c H locs ls F hY hP hz hS hl)
theorem bw_icmp_ge {x y : Int32} {off : Int} (hd : db cc pc (.if_icmp .ge off) 3 pc' off tgt) (kt : y ≤ x → BW g cc nL R own Qc mc ms tgt lv st nn E cu su) (kf : ¬ y ≤ x → BW g cc nL R own Qc mc ms pc' lv st nn E cu su) : BW g cc nL R own Qc mc ms pc lv (.int y :: .int x :: st) nn E cu su := by
  obtain ⟨hd, rfl, ht⟩ := hd
  intro p e s m args below meth c H locs ls F hY hP hz hS hl
  exact lv_icmp_ge F.1 F.2.1 hd ht (fun q => kt q p e s m args below meth c H locs ls F hY hP hz hS hl) (fun q => kf q p e s m args below meth c H locs ls F hY hP hz hS hl)
theorem bw_eq {x y : Int32} (h : x = y) (k : BW g cc nL R own Qc mc ms pc lv (.int y :: st) nn E cu su) : BW g cc nL R own Qc mc ms pc lv (.int x :: st) nn E cu su := h ▸ k
theorem bw_eqr {a b : Nat} (h : a = b) (k : BW g cc nL R own Qc mc ms pc lv (.ref (ad g b) :: st) nn E cu su) : BW g cc nL R own Qc mc ms pc lv (.ref (ad g a) :: st) nn E cu su := h ▸ k
theorem bw_ic {n : Int} (v : Int32) (hd : dn cc pc (.iconst n) 1 pc') (hv : Int32.ofInt n = v) (k : BW g cc nL R own Qc mc ms pc' lv (.int v :: st) nn E cu su) : BW g cc nL R own Qc mc ms pc lv st nn E cu su := bw_iconst hd (hv ▸ k)
theorem bw_bi {n : Int} (v : Int32) (hd : dn cc pc (.bipush n) 2 pc') (hv : (Int8.ofInt n).toInt32 = v) (k : BW g cc nL R own Qc mc ms pc' lv (.int v :: st) nn E cu su) : BW g cc nL R own Qc mc ms pc lv st nn E cu su := bw_bipush hd (hv ▸ k)
theorem bw_si {n : Int} (v : Int32) (hd : dn cc pc (.sipush n) 3 pc') (hv : (Int16.ofInt n).toInt32 = v) (k : BW g cc nL R own Qc mc ms pc' lv (.int v :: st) nn E cu su) : BW g cc nL R own Qc mc ms pc lv st nn E cu su := bw_sipush hd (hv ▸ k)
theorem bw_inc {i : Nat} {n : Int} {x : Int32} (v : Int32) (hd : dn cc pc (.iinc i n) 3 pc') (hx : lv[i]? = some (some (.int x))) (hn : i < nL) (hv : x + Int32.ofInt n = v) (k : BW g cc nL R own Qc mc ms pc' (lv.set i (some (.int v))) st nn E cu su) : BW g cc nL R own Qc mc ms pc lv st nn E cu su := bw_iinc hd hx hn (hv ▸ k)
theorem bw_icmp_geN {x y : Int32} {off : Int} {a b : Nat} (hd : db cc pc (.if_icmp .ge off) 3 pc' off tgt) (ex : x = nI a) (ey : y = nI b) (ha : a < 2 ^ 31) (hb : b < 2 ^ 31) (kt : b ≤ a → BW g cc nL R own Qc mc ms tgt lv st nn E cu su) (kf : a < b → BW g cc nL R own Qc mc ms pc' lv st nn E cu su) : BW g cc nL R own Qc mc ms pc lv (.int y :: .int x :: st) nn E cu su := by
  subst ex
  subst ey
  exact bw_icmp_ge hd (fun q => kt ((nI_leI hb ha).mp q)) (fun q => kf (Nat.not_le.mp fun z => q ((nI_leI hb ha).mpr z)))
theorem bw_max {x y : Int32} {idx : Nat} (hd : dn cc pc (.invokestatic idx) 3 pc') (hw : Cond.methodLink own idx Lib.Math.max.name ∈ wtb) (hR : 1 ≤ R.frames ∧ (st.map fun v => v.category).sum + 13 ≤ R.locals) (hcu : cu ≤ R.cells ∧ su ≤ R.slots) (k : BW g cc nL R own Qc mc ms pc' lv (.int (if x < y then y else x) :: st) nn E cu su) : BW g cc nL R own Qc mc ms pc lv (.int y :: .int x :: st) nn E cu su := by
  obtain ⟨hd, rfl⟩ := hd
  intro p e s m args below meth c H locs ls F hY hP hz hS hl
  exact va_mmax F.1 F.2.1 (F.2.2.2.1.trans hl.1.symm) F.2.2.2.2.1 (F.2.2.2.2.2.1 _ hw) (F.2.2.2.2.2.1 _ kM_max_s) (F.2.2.2.2.2.1 _ kM_i) (F.2.2.2.2.2.1 _ kM_max_c) hR.1 hR.2 hcu.1 hcu.2 hd (k p e s m args below meth c H locs ls F hY hP hz hS hl)
theorem bw_E {E' : Nat → va_E} (h : ∀ o, o < nn → E o = E' o) (k : BW g cc nL R own Qc mc ms pc lv st nn E' cu su) : BW g cc nL R own Qc mc ms pc lv st nn E cu su := by
  intro p e s m args below meth c H locs ls F hY hP hz hS hl
  rw [wsB_cong h] at hP
  exact k p e s m args below meth c H locs ls F hY hP hz hS hl
theorem bt_of {y : MethodName} {fr lo : Nat} {av : List Value} {post : (Nat → va_E) → Prop} {n' : Nat} (ho : y.cls = own) (hyn : y.name = "<init>") (hy : plainName y.cls = true) (hav : (lg_sl av).length ≤ nL) (hc : ∀ u ∈ av, u.category = 1) (hlv : ∀ (i : Nat) (v : Value), lv[i]? = some (some v) → av[i]? = some v) (h : BW g cc nL (rmb fr lo mc ms) own (va_Qv post (wdB g n') (reg g)) mc ms 0 lv [] nn E 0 0) : Ctb g y cc nL fr lo mc ms av nn E n' post := by
  refine Met.ofW (cc := cc) (maxL := nL) (ret := none) hy rfl ?_
  intro p e s m args below meth c s₁ B hml hv
  obtain ⟨rfl, hP, hz, hK, hst, hx⟩ := hv
  have hts : ∀ w ∈ wtb, w.before av.toArray s = true := fun w hw => atoms_spec (ws := cw_ y cc nL none) B.pre w (List.mem_cons_of_mem _ hw)
  have hown : s.vm.findClass y.cls = some m.cls := findClass_of_methodNamed B.named
  have hl := lv_entry av (n := nL) hav
  rw [lg_entry_eq]
  generalize (lg_sl av ++ List.replicate (nL - (lg_sl av).length) Slot.unset).toArray = ls at hl ⊢
  refine h p e s m av.toArray below meth c s.heap [] ls ⟨B.exec, B.bytes, B.returns, hml, ho ▸ hown, hts, B.notSynchronized, hK, hst⟩ ⟨(name_of_methodNamed B.named B.method).1.trans hyn, by rw [hz]; exact Nat.le_add_right _ _, hx⟩ hP ⟨hz, hz⟩ va_S.rf ⟨hl.1, hl.2.1, fun i v hv => ?_⟩
  have h1 := hlv i v hv
  have h2 := hl.2.2 _ (lv_args_mem av 0 i v hc h1)
  rw [Nat.zero_add] at h2
  exact ⟨h2, hc v (List.mem_of_getElem? h1)⟩
theorem bw_ret {post : (Nat → va_E) → Prop} (hd : dn cc pc .return_ 1 pc') (hcu : cu ≤ mc) (hsu : su ≤ ms) (h : post E) : BW g cc nL R own (va_Qv post (wdB g nn) (reg g)) mc ms pc lv [] nn E cu su := by
  obtain ⟨hd, -⟩ := hd
  intro p e s m args below meth c H locs ls F hY hP hz hS hl
  refine W.widen (k := mc) (n := ms) hcu hsu ?_
  exact W.vret F.1 F.2.1 F.2.2.1 (fun t ht hW => ⟨⟨E, rfl, h, F.wdB hY.2.2 hP hz.1 hS ht hW⟩, hS.F ht⟩) hS.2.2 hd F.2.2.2.2.2.2.1
theorem bw_obj {o idx : Nat} (hd : dn cc pc (.invokespecial idx) 3 pc') (hw : Cond.methodLink own idx objectInit ∈ wtb) (hR : 1 ≤ R.frames) (hL : (st.map fun v => v.category).sum + 12 ≤ R.locals) (k : BW g cc nL R own Qc mc ms pc' lv st nn E cu su) : BW g cc nL R own Qc mc ms pc lv (.ref (ad g o) :: st) nn E cu su := by
  obtain ⟨hd, rfl⟩ := hd
  intro p e s m args below meth c H locs ls F hY hP hz hS hl
  refine W.objInit F.1 F.2.1 F.2.2.2.2.1 (F.2.2.2.2.2.1 _ hw) (F.2.2.2.2.2.1 _ kObj_i) (F.2.2.2.2.2.1 _ kObj_c) rfl (by rw [F.2.2.2.1]; exact hl.1) rfl hd hR (by show 2 * 0 + _ + 12 ≤ _; omega) ?_
  exact k p e s m args below meth c H locs ls F hY hP hz hS hl
/-- cells counted: what is made raises both sides alike -/
theorem bc_up {a w : Nat} (h : a + cu = ad g nn) : a + (cu + w) = ad g (nn + w) := by
  have h9 : a + cu = g.2.1 + nn := h
  show a + (cu + w) = g.2.1 + (nn + w)
  omega
/-- nothing was made: the last cell stands, and the count allows no more -/
theorem bc_old {H1 : Heap} (hn : 0 < nn) (hP : va_P (gD g) vwCl (wsB g nn E) H1) (hB : H1.size ≤ ad g nn) : H1.size = ad g nn := by
  have h1 : g.2.1 + (nn - 1) < H1.size := (hP (nn - 1) _ (wsB_at g E (Nat.sub_lt hn Nat.one_pos))).lt
  have h2 : H1.size ≤ g.2.1 + nn := hB
  show H1.size = g.2.1 + nn
  omega
/-- one cell was made: it lies apart from the others, and the count leaves it one place -/
theorem bc_new {H1 : Heap} {q : Nat} {x : va_E} (hP : va_P (gD g) vwCl (wsB g nn E ++ [(q, x)]) H1) (hD : va_D (reg g) (wsB g nn E ++ [(q, x)])) (hB : H1.size ≤ ad g nn + 1) : q = ad g nn ∧ H1.size = ad g (nn + 1) ∧ va_P (gD g) vwCl (wsB g (nn + 1) (updE E nn x)) H1 := by
  have hlen : (wsB g nn E).length = nn := by simp [wsB]
  have hat : (wsB g nn E ++ [(q, x)])[nn]? = some (q, x) := by rw [List.getElem?_append_right (Nat.le_of_eq hlen), hlen, Nat.sub_self]; rfl
  have h1 : q < H1.size := (hP nn _ hat).lt
  have h2 : g.2.1 ≤ q := hD.2 nn _ hat
  have h3 : H1.size ≤ g.2.1 + nn + 1 := hB
  have hq : q = ad g nn := by
    by_cases h : q < g.2.1 + nn
    · have hj : q - g.2.1 < nn := by omega
      have h4 : (wsB g nn E ++ [(q, x)])[q - g.2.1]? = some (ad g (q - g.2.1), E (q - g.2.1)) := by
        rw [List.getElem?_append_left (by rw [hlen]; exact hj)]
        exact wsB_at g E hj
      have h5 := hD.1 _ _ _ _ h4 hat (by show g.2.1 + (q - g.2.1) = q; omega)
      omega
    · show q = g.2.1 + nn
      omega
  subst hq
  rw [wsB_app] at hP
  exact ⟨rfl, bc_old (Nat.succ_pos nn) hP hB, hP⟩
section Bon
variable {p : Program} {e : Env} {s : State} {m : MethodId} {args : Array Value} {below : List Frame} {meth : Method} {c : Code} {H1 : Heap} {locs : List Loc} {ls : Array Slot}
/-- behind a row of the kit that makes nothing -/
theorem bw_kept (k : BW g cc nL R own Qc mc ms pc lv st nn E cu su) (F : Fx g p s m args meth c cc nL none own) (hY : meth.name = "<init>" ∧ g.2.1 ≤ s.heap.size ∧ xtr g s s.heap) (hc : s.heap.size + cu = ad g nn) (hn : 0 < nn) (hl : lvp ls nL lv) (hP : va_P (gD g) vwCl (wsB g nn E) H1) (hS : va_S (reg g) s.heap H1 locs) : W p g.1 e R s m args below meth c H1 locs cu su (MQ below Qc args s mc ms (reg g)) (F0 m pc ls st) := fun T hT X => by
  have hB := X.heapSize
  rw [hT, hc] at hB
  exact k p e s m args below meth c H1 locs ls F hY hP ⟨bc_old hn hP hB, hc⟩ hS hl T hT X
/-- behind a row of the kit that makes one cell -/
theorem bw_made {q : Nat} {x : va_E} (k : BW g cc nL R own Qc mc ms pc lv (.ref (ad g nn) :: st) (nn + 1) (updE E nn x) (cu + 1) su) (F : Fx g p s m args meth c cc nL none own) (hY : meth.name = "<init>" ∧ g.2.1 ≤ s.heap.size ∧ xtr g s s.heap) (hc : s.heap.size + cu = ad g nn) (hl : lvp ls nL lv) (hP : va_P (gD g) vwCl (wsB g nn E ++ [(q, x)]) H1) (hD : va_D (reg g) (wsB g nn E ++ [(q, x)])) (hS : va_S (reg g) s.heap H1 locs) : W p g.1 e R s m args below meth c H1 locs (cu + 1) su (MQ below Qc args s mc ms (reg g)) (F0 m pc ls (.ref q :: st)) := fun T hT X => by
  have hB := X.heapSize
  rw [hT, ← Nat.add_assoc, hc] at hB
  obtain ⟨rfl, hz, hP1⟩ := bc_new hP hD hB
  exact k p e s m args below meth c H1 locs ls F hY hP1 ⟨hz, bc_up hc⟩ hS hl T hT X
end Bon
theorem bw_new {C : String} {T : u_T} {N ci idx : Nat} {ty : Nat → FieldType} {fs : List Value} (hd : dn cc pc (.new idx) 3 pc') (hin : ∀ w ∈ u_ws C T N, w ∈ wtb) (hty : ∀ k, k < N → parseFieldDescriptor (T k).2.2.1 = some (ty k)) (hc : vwCl[ci]? = some (C, T, N)) (hfs : ∀ j, j < N → defaultValue (ty j) = vp_V fs j) (h1 : Cond.classLink own idx C ∈ wtb) (h2 : Cond.instantiable C N ∈ wtb) (h3 : Cond.initialized C ∈ wtb) (hcells : cu + 1 ≤ R.cells) (hslots : su + N ≤ R.slots) (k : BW g cc nL R own Qc mc ms pc' lv (.ref (ad g nn) :: st) (nn + 1) (updE E nn (.inr (ci, fs))) (cu + 1) (su + N)) : BW g cc nL R own Qc mc ms pc lv st nn E cu su := by
  obtain ⟨hd, rfl⟩ := hd
  intro p e s m args below meth c H locs ls F hY hP hz hS hl
  exact va_new F.1 F.2.1 F.2.2.2.2.2.1 hin ty hty F.2.2.2.2.1 (F.2.2.2.2.2.1 _ h1) (F.2.2.2.2.2.1 _ h2) (F.2.2.2.2.2.1 _ h3) F.2.2.2.2.2.2.2.1 hP (wsB_D g nn E) hS (fun q h => Nat.le_trans hY.2.1 h) hc hfs hcells hslots hd fun q H1 => bw_made k F hY hz.2 hl
theorem bw_newa_int {x : Int32} {N : Nat} (hd : dn cc pc (.newarray .int) 2 pc') (ex : x = nI N) (hN : N < 2 ^ 20) (hcells : cu + 1 ≤ R.cells) (hslots : su + N ≤ R.slots) (k : BW g cc nL R own Qc mc ms pc' lv (.ref (ad g nn) :: st) (nn + 1) (updE E nn (.inl (g.2.2.2.2.1 0, N, .inl (fun _ => 0)))) (cu + 1) (su + N)) : BW g cc nL R own Qc mc ms pc lv (.int x :: st) nn E cu su := by
  obtain ⟨hd, rfl⟩ := hd
  subst ex
  intro p e s m args below meth c H locs ls F hY hP hz hS hl
  have hK := F.2.2.2.2.2.2.2.1
  refine va_newa (atype := .int) (ty := .int) (a0 := (N, .inl (fun _ => 0))) F.1 F.2.1 (F.2.2.2.2.2.1 _ kArrI) rfl hK hP (wsB_D g nn E) hS (fun q h => Nat.le_trans hY.2.1 h) (fun _ => rfl) (nI_pos (by omega)) (nI_clamp (by omega)) (by show N * 4 ≤ _; omega) hcells hslots hd fun q cA H1 hK1 => ?_
  obtain rfl : cA = g.2.2.2.2.1 0 := Option.some.inj (Eq.trans (Eq.symm (hK1.2 6 _ rfl).2) (hK.2 0 _ rfl).2)
  exact bw_made k F hY hz.2 hl
theorem bw_newa_bool {x : Int32} {N : Nat} (hd : dn cc pc (.newarray .boolean) 2 pc') (ex : x = nI N) (hN : N < 2 ^ 20) (hcells : cu + 1 ≤ R.cells) (hslots : su + N ≤ R.slots) (k : BW g cc nL R own Qc mc ms pc' lv (.ref (ad g nn) :: st) (nn + 1) (updE E nn (.inl (g.2.2.2.2.1 1, N, .inl (fun _ => 0)))) (cu + 1) (su + N)) : BW g cc nL R own Qc mc ms pc lv (.int x :: st) nn E cu su := by
  obtain ⟨hd, rfl⟩ := hd
  subst ex
  intro p e s m args below meth c H locs ls F hY hP hz hS hl
  have hK := F.2.2.2.2.2.2.2.1
  refine va_newa (atype := .boolean) (ty := .boolean) (a0 := (N, .inl (fun _ => 0))) F.1 F.2.1 (F.2.2.2.2.2.1 _ kArrZ) rfl hK hP (wsB_D g nn E) hS (fun q h => Nat.le_trans hY.2.1 h) (fun _ => rfl) (nI_pos (by omega)) (nI_clamp (by omega)) (by show N * 1 ≤ _; omega) hcells hslots hd fun q cA H1 hK1 => ?_
  obtain rfl : cA = g.2.2.2.2.1 1 := Option.some.inj (Eq.trans (Eq.symm (hK1.2 6 _ rfl).2) (hK.2 1 _ rfl).2)
  exact bw_made k F hY hz.2 hl
theorem bw_anew_Page {x : Int32} {N idx : Nat} (hd : dn cc pc (.anewarray idx) 3 pc') (h1 : Cond.classLink own idx RX3 ∈ wtb) (ex : x = nI N) (hN : N < 2 ^ 20) (hcells : cu + 1 ≤ R.cells) (hslots : su + N ≤ R.slots) (k : BW g cc nL R own Qc mc ms pc' lv (.ref (ad g nn) :: st) (nn + 1) (updE E nn (.inl (g.2.2.2.2.1 2, N, .inr (.inr (.inr (.inr (fun _ => none))))))) (cu + 1) (su + N)) : BW g cc nL R own Qc mc ms pc lv (.int x :: st) nn E cu su := by
  obtain ⟨hd, rfl⟩ := hd
  subst ex
  intro p e s m args below meth c H locs ls F hY hP hz hS hl
  have hK := F.2.2.2.2.2.2.2.1
  refine va_newq F.1 F.2.1 F.2.2.2.2.1 (F.2.2.2.2.2.1 _ h1) hY.2.2.2.1 hK hP (wsB_D g nn E) hS (fun q h => Nat.le_trans hY.2.1 h) (nI_pos (by omega)) (nI_clamp (by omega)) (by omega) hcells hslots hd fun q cA H1 hK1 => ?_
  obtain ⟨-, -, -, -, -, f1⟩ := (hK1.2 6 _ rfl).2
  obtain ⟨-, -, -, -, -, f2⟩ := (hK.2 2 _ rfl).2
  obtain rfl : cA = g.2.2.2.2.1 2 := Option.some.inj (f1.symm.trans f2)
  exact bw_made k F hY hz.2 hl
theorem bw_anew_Rule {x : Int32} {N idx : Nat} (hd : dn cc pc (.anewarray idx) 3 pc') (h1 : Cond.classLink own idx RX6 ∈ wtb) (ex : x = nI N) (hN : N < 2 ^ 20) (hcells : cu + 1 ≤ R.cells) (hslots : su + N ≤ R.slots) (k : BW g cc nL R own Qc mc ms pc' lv (.ref (ad g nn) :: st) (nn + 1) (updE E nn (.inl (g.2.2.2.2.1 3, N, .inr (.inr (.inr (.inr (fun _ => none))))))) (cu + 1) (su + N)) : BW g cc nL R own Qc mc ms pc lv (.int x :: st) nn E cu su := by
  obtain ⟨hd, rfl⟩ := hd
  subst ex
  intro p e s m args below meth c H locs ls F hY hP hz hS hl
  have hK := F.2.2.2.2.2.2.2.1
  refine va_newq F.1 F.2.1 F.2.2.2.2.1 (F.2.2.2.2.2.1 _ h1) hY.2.2.2.2.1 hK hP (wsB_D g nn E) hS (fun q h => Nat.le_trans hY.2.1 h) (nI_pos (by omega)) (nI_clamp (by omega)) (by omega) hcells hslots hd fun q cA H1 hK1 => ?_
  obtain ⟨-, -, -, -, -, f1⟩ := (hK1.2 6 _ rfl).2
  obtain ⟨-, -, -, -, -, f2⟩ := (hK.2 3 _ rfl).2
  obtain rfl : cA = g.2.2.2.2.1 3 := Option.some.inj (f1.symm.trans f2)
  exact bw_made k F hY hz.2 hl
theorem bw_anew_Table {x : Int32} {N idx : Nat} (hd : dn cc pc (.anewarray idx) 3 pc') (h1 : Cond.classLink own idx RX8 ∈ wtb) (ex : x = nI N) (hN : N < 2 ^ 20) (hcells : cu + 1 ≤ R.cells) (hslots : su + N ≤ R.slots) (k : BW g cc nL R own Qc mc ms pc' lv (.ref (ad g nn) :: st) (nn + 1) (updE E nn (.inl (g.2.2.2.2.1 4, N, .inr (.inr (.inr (.inr (fun _ => none))))))) (cu + 1) (su + N)) : BW g cc nL R own Qc mc ms pc lv (.int x :: st) nn E cu su := by
  obtain ⟨hd, rfl⟩ := hd
  subst ex
  intro p e s m args below meth c H locs ls F hY hP hz hS hl
  have hK := F.2.2.2.2.2.2.2.1
  refine va_newq F.1 F.2.1 F.2.2.2.2.1 (F.2.2.2.2.2.1 _ h1) hY.2.2.2.2.2.1 hK hP (wsB_D g nn E) hS (fun q h => Nat.le_trans hY.2.1 h) (nI_pos (by omega)) (nI_clamp (by omega)) (by omega) hcells hslots hd fun q cA H1 hK1 => ?_
  obtain ⟨-, -, -, -, -, f1⟩ := (hK1.2 6 _ rfl).2
  obtain ⟨-, -, -, -, -, f2⟩ := (hK.2 4 _ rfl).2
  obtain rfl : cA = g.2.2.2.2.1 4 := Option.some.inj (f1.symm.trans f2)
  exact bw_made k F hY hz.2 hl
/-- rows of one length -/
def rowsE (E : Nat → va_E) (g : GG) (nn N M : Nat) : Nat → va_E := fun j => if j = nn then .inl (g.2.2.2.2.1 5, N, .inr (.inr (.inr (.inr (fun k => some (ad g (nn + 1 + k))))))) else if nn < j ∧ j < nn + 1 + N then .inl (g.2.2.2.2.1 0, M, .inl (fun _ => 0)) else E j
theorem bw_multi {x y : Int32} {N M idx : Nat} (hd : dn cc pc (.multianewarray idx 2) 4 pc') (h1 : Cond.classLink own idx "[[I" ∈ wtb) (ex : x = nI N) (ey : y = nI M) (hN1 : 1 ≤ N) (hN : N < 2 ^ 20) (hM : M < 2 ^ 20) (hcells : cu + (1 + N) ≤ R.cells) (hslots : su + (N + N * M) ≤ R.slots) (k : BW g cc nL R own Qc mc ms pc' lv (.ref (ad g nn) :: st) (nn + 1 + N) (rowsE E g nn N M) (cu + 1 + N) (su + N + N * M)) : BW g cc nL R own Qc mc ms pc lv (.int y :: .int x :: st) nn E cu su := by
  obtain ⟨hd, rfl⟩ := hd
  subst ex
  subst ey
  intro p e s m args below meth c H locs ls F hY hP hz hS hl
  have hK := F.2.2.2.2.2.2.2.1
  have hid5 : s.vm.findClass ("[" ++ (FieldType.array .int).toString) = some (g.2.2.2.2.1 5) := (hK.2 5 _ rfl).2
  have hid0 : s.vm.findClass ("[" ++ (FieldType.int).toString) = some (g.2.2.2.2.1 0) := (hK.2 0 _ rfl).2
  have hcn := nI_clamp (show N < 2 ^ 31 by omega)
  have hcm := nI_clamp (show M < 2 ^ 31 by omega)
  intro T hT X
  have hn0 : (nI N == 0) = false := beq_eq_false_iff_ne.mpr fun q => by
    rw [q] at hcn
    have hz0 : (0 : Int32).toNatClampNeg = 0 := by decide
    omega
  subst hT
  obtain ⟨U, ⟨L, X', hL, hG⟩, st'⟩ := gd_row X F.1 F.2.2.2.2.1 (F.2.2.2.2.2.1 _ h1) (aoI.use hY.2.2.2.2.2.2.1) (F.2.2.2.2.2.1 _ kArrI) (f := F0 m pc ls (.int (nI M) :: .int (nI N) :: st)) rfl (by rw [F.2.1]; exact hd) rfl (nI_pos (by omega)) hn0 (nI_pos (by omega)) hcn hcm hN hM (by omega) (by omega) hid5 hid0
  unfold Gd at hG
  rw [hz.1] at hL hG st'
  obtain ⟨y1, ⟨v, y2, y3⟩, y4, y5⟩ := hG
  have hadd : ∀ q w : Nat, ad g q + w = ad g (q + w) := fun q w => Nat.add_assoc g.2.1 q w
  have P1 : va_P (gD g) vwCl (wsB g (nn + 1 + N) (rowsE E g nn N M)) U.heap := fun i q hq => by
    have hi := wsB_lt hq
    rw [wsB_at g _ hi] at hq
    cases hq
    unfold rowsE
    by_cases z : i = nn
    · rw [if_pos z, z]
      refine y2.trans (congrArg some (gd_ext (w := fun j => va_rf (some (ad g (nn + 1 + j)))) fun j hj => ?_))
      rw [y3 j hj, hadd, Nat.add_comm j 1, ← Nat.add_assoc]
      rfl
    · rw [if_neg z]
      by_cases z2 : nn < i ∧ i < nn + 1 + N
      · rw [if_pos z2]
        obtain ⟨j, rfl⟩ : ∃ j, i = nn + (j + 1) := ⟨i - nn - 1, by omega⟩
        have y6 := y4 j (by omega)
        rw [hadd] at y6
        exact y6
      · rw [if_neg z2]
        have hlt : i < nn := by omega
        exact (hP i _ (wsB_at g E hlt)).kept (y5 _ (Nat.add_lt_add_left hlt g.2.1))
  have P2 : U.heap.size = ad g (nn + 1 + N) := by rw [y1, hadd]; exact congrArg (ad g) (by omega)
  have P3 : va_S (reg g) s.heap U.heap (locs ++ L) := ⟨Nat.le_trans hS.1 (by rw [y1, hz.1]; exact Nat.le_add_right _ _), fun q q1 q2 => (y5 q (by rw [← hz.1]; exact Nat.lt_of_lt_of_le q1 hS.1)).trans (hS.2.1 q q1 q2), fun q hq => by
    rcases List.mem_append.mp hq with h | h
    · exact hS.2.2 q h
    · show g.2.1 ≤ q.base
      rw [hL q h]
      exact Nat.le_add_right _ _⟩
  obtain ⟨t, a1, b1⟩ := k p e s m args below meth c U.heap _ ls F hY P1 ⟨P2, by rw [Nat.add_assoc cu, Nat.add_assoc nn]; exact bc_up hz.2⟩ P3 hl U rfl X'
  exact ⟨t, st' t a1, b1⟩
theorem bw_put {ci k idx N o : Nat} {C : String} {T : u_T} {ty0 : Nat → FieldType} {fs : List Value} {v : Value} {ty : FieldType} (hd : dn cc pc (.putfield idx) 3 pc') (hin : ∀ w ∈ u_ws C T N, w ∈ wtb) (hty : ∀ k, k < N → parseFieldDescriptor (T k).2.2.1 = some (ty0 k)) (hnm : ∀ a, a < N → ∀ b, b < N → a ≠ b → (T a).2.1 ≠ (T b).2.1) (hc : vwCl[ci]? = some (C, T, N)) (ho : o < nn) (he : E o = .inr (ci, fs)) (hk : k < N) (hT : (T k).1 = C) (hown : C = own) (hdd : parseFieldDescriptor (T k).2.2.1 = some ty) (hn : narrow ty v = v) (hfit : fits ty v = true) (hlen : k < fs.length) (hw : Cond.fieldLink own idx C (T k).2.1 (T k).2.2.1 ∈ wtb) (kk : BW g cc nL R own Qc mc ms pc' lv st nn (updE E o (.inr (ci, fs.set k v))) cu su) : BW g cc nL R own Qc mc ms pc lv (v :: .ref (ad g o) :: st) nn E cu su := by
  obtain ⟨hd, rfl⟩ := hd
  intro p e s m args below meth c H locs ls F hY hP hz hS hl
  have hew : (wsB g nn E)[o]? = some (ad g o, .inr (ci, fs)) := by rw [wsB_at g E ho, he]
  have hsame : ∀ x, s.fieldFound? (T k).1 (T k).2.1 (T k).2.2.1 = some x → s.fieldFound? C (T k).2.1 (T k).2.2.1 = some x := fun x h => by rw [hT] at h; exact h
  by_cases hfin : (T k).2.2.2 = true
  · exact va_putF F.1 F.2.1 F.2.2.2.2.2.1 hin ty0 hty hnm F.2.2.2.2.1 F.2.2.2.2.2.2.2.1 hP (wsB_D g nn E) hS o hew hc k hk (F.2.2.2.2.2.1 _ hw) hsame hfin hY.1 (hT.trans hown) hdd hn hfit hlen hd fun H1 locs1 h1 _ h3 => bw_kept kk F hY hz.2 (by omega) hl (by rw [← wsB_set]; exact h1) h3
  · exact va_put F.1 F.2.1 F.2.2.2.2.2.1 hin ty0 hty hnm F.2.2.2.2.1 F.2.2.2.2.2.2.2.1 hP (wsB_D g nn E) hS o hew hc k hk (F.2.2.2.2.2.1 _ hw) hsame (Bool.eq_false_iff.mpr hfin) hdd hn hfit hlen hd fun H1 locs1 h1 _ h3 => bw_kept kk F hY hz.2 (by omega) hl (by rw [← wsB_set]; exact h1) h3
theorem bw_get {ci k idx N o : Nat} {C : String} {T : u_T} {fs : List Value} {v : Value} (hd : dn cc pc (.getfield idx) 3 pc') (hin : ∀ w ∈ u_ws C T N, w ∈ wtb) (hc : vwCl[ci]? = some (C, T, N)) (ho : o < nn) (he : E o = .inr (ci, fs)) (hk : k < N) (hT : (T k).1 = C) (hv : fs[k]? = some v) (hw : Cond.fieldLink own idx C (T k).2.1 (T k).2.2.1 ∈ wtb) (kk : BW g cc nL R own Qc mc ms pc' lv (v :: st) nn E cu su) : BW g cc nL R own Qc mc ms pc lv (.ref (ad g o) :: st) nn E cu su := by
  obtain ⟨hd, rfl⟩ := hd
  intro p e s m args below meth c H locs ls F hY hP hz hS hl
  exact va_get F.1 F.2.1 F.2.2.2.2.2.1 hin F.2.2.2.2.1 F.2.2.2.2.2.2.2.1 hP o (by rw [wsB_at g E ho, he]) hc k hk (F.2.2.2.2.2.1 _ hw) (fun x h => by rw [hT] at h; exact h) hv hd (kk p e s m args below meth c H locs ls F hY hP hz hS hl)
theorem bw_aast {o q ci t0 n i : Nat} {x : Int32} {r : vw_C} {vs : List Value} {f : Nat → Option Nat} (hd : dn cc pc .aastore 1 pc') (ho : o < nn) (hq : q < nn) (he : E o = .inl (g.2.2.2.2.1 t0, n, .inr (.inr (.inr (.inr f))))) (hv : E q = .inr (ci, vs)) (ht : (tys_ g)[t0]? = some (g.2.2.2.2.1 t0, .object r.1)) (hc : vwCl[ci]? = some r) (ex : x = nI i) (hi : i < n) (hn : n < 2 ^ 20) (kk : BW g cc nL R own Qc mc ms pc' lv st nn (updE E o (.inl (g.2.2.2.2.1 t0, n, .inr (.inr (.inr (.inr (va_up f i (some (ad g q))))))))) cu su) : BW g cc nL R own Qc mc ms pc lv (.ref (ad g q) :: .int x :: .ref (ad g o) :: st) nn E cu su := by
  obtain ⟨hd, rfl⟩ := hd
  subst ex
  intro p e s m args below meth c H locs ls F hY hP hz hS hl
  have hcl := nI_clamp (show i < 2 ^ 31 by omega)
  refine va_astq F.1 F.2.1 F.2.2.2.2.2.2.2.1 hP (wsB_D g nn E) hS o t0 q ci (by rw [wsB_at g E ho, he]) ht (by rw [wsB_at g E hq, hv]) hc (fun z => z.elim (nI_pos (by omega)) (fun y => by rw [hcl] at y; omega)) hd fun H1 locs1 h1 _ h3 => bw_kept kk F hY hz.2 (by omega) hl ?_ h3
  rw [hcl, wsB_set] at h1
  exact h1
theorem bw_iast {o n i : Nat} {x y : Int32} {f : Nat → Int32} (hd : dn cc pc .iastore 1 pc') (ho : o < nn) (he : E o = .inl (g.2.2.2.2.1 0, n, .inl f)) (ex : x = nI i) (hi : i < n) (hn : n < 2 ^ 20) (kk : BW g cc nL R own Qc mc ms pc' lv st nn (updE E o (.inl (g.2.2.2.2.1 0, n, .inl (upd f i y)))) cu su) : BW g cc nL R own Qc mc ms pc lv (.int y :: .int x :: .ref (ad g o) :: st) nn E cu su := by
  obtain ⟨hd, rfl⟩ := hd
  subst ex
  intro p e s m args below meth c H locs ls F hY hP hz hS hl
  have hcl := nI_clamp (show i < 2 ^ 31 by omega)
  refine va_iast F.1 F.2.1 F.2.2.2.2.2.2.2.1 hP (wsB_D g nn E) hS o 0 (by rw [wsB_at g E ho, he]) rfl (fun z => z.elim (nI_pos (by omega)) (fun y => by rw [hcl] at y; omega)) hd fun H1 locs1 h1 _ h3 => bw_kept kk F hY hz.2 (by omega) hl ?_ h3
  rw [hcl, wsB_set] at h1
  exact h1
theorem bw_first (hd : dn cc pc (.getstatic 23) 3 pc') (ho : own = RX3) (k : BW g cc nL R own Qc mc ms pc' lv (.ref g.2.2.2.2.2.2 :: st) nn E cu su) : BW g cc nL R own Qc mc ms pc lv st nn E cu su := by
  obtain ⟨hd, rfl⟩ := hd
  intro p e s m args below meth c H locs ls F hY hP hz hS hl
  subst ho
  exact va_getsN F.1 F.2.1 F.2.2.2.2.2.2.2.2.2.2.1 hS F.2.2.2.2.1 (va_Nw.use rfl F.2.2.2.2.2.2.2.2.2.2.2.2) (fun _ h => h) hd (k p e s m args below meth c H locs ls F hY hP hz hS hl)
theorem bw_clone (hd : dn cc pc (.invokevirtual 27) 3 pc') (ho : own = RX3) (hfr : 1 ≤ R.frames) (hlo : (st.map fun v => v.category).sum + 14 ≤ R.locals) (hcells : cu + 1 ≤ R.cells) (hslots : su + 3 ≤ R.slots) (k : BW g cc nL R own Qc mc ms pc' lv (.ref (ad g nn) :: st) (nn + 1) (updE E nn (.inl (g.2.2.2.2.1 0, 3, .inl fF))) (cu + 1) (su + 3)) : BW g cc nL R own Qc mc ms pc lv (.ref g.2.2.2.2.2.2 :: st) nn E cu su := by
  obtain ⟨hd, rfl⟩ := hd
  intro p e s m args below meth c H locs ls F hY hP hz hS hl
  subst ho
  have hts := F.2.2.2.2.2.1
  have hK := F.2.2.2.2.2.2.2.1
  have hid0 : s.vm.findClass "[I" = some (g.2.2.2.2.1 0) := (hK.2 0 _ rfl).2
  obtain ⟨cell, w1, w2, w3, w4, w5, w6⟩ := hY.2.2.2.2.2.2.2.2
  obtain ⟨c0, t0', f1, f2, f3⟩ := Cond.castable_spec (va_Nw.use (A := args) rfl hY.2.2.1)
  obtain rfl : c0 = g.2.2.2.2.1 0 := Option.some.inj (f1.symm.trans hid0)
  have hsz : cell.slots.size = 3 := by rw [w5]; rfl
  intro T hT X
  have hcellT : T.heap[g.2.2.2.2.2.2]? = some cell := by rw [hT, hS.2.1 _ (Array.getElem?_eq_some_iff.mp w1).1 w6]; exact w1
  obtain ⟨-, kA, hkA, comp, hkind⟩ := State.isArrayOf_alike X.warmed.alike ((hK.2 0 _ rfl).1 0 (fun _ => .null))
  obtain ⟨-, kS, hkS, compS, hkindS⟩ := (hK.2 0 _ rfl).1 0 (fun _ => .null)
  obtain ⟨vm', X', st'⟩ := X.cloneArray F.1 (ad := "[I") F.2.2.2.2.1 (hts _ kCl1) (hts _ kCl2) (hts _ kCl3) (hts _ kCl4) (hts _ kCl5) (a := g.2.2.2.2.2.2) (cell := cell) hcellT w2 w3 (by rw [w4]; exact hid0) f2 (by rw [w4]; exact f3)
    (fun i v hv => by
      rw [w4]
      have hk' : T.vm.classes[g.2.2.2.2.1 0]? = some kA := hkA
      have hfit : fits .int v = true := by
        rw [w5] at hv
        have hi : i < 3 := (Array.getElem?_eq_some_iff.mp hv).1
        rcases (by omega : i = 0 ∨ i = 1 ∨ i = 2) with rfl | rfl | rfl <;> (cases hv; rfl)
      simpa [State.fitsSlot, State.slotType?, hk', hkind] using hfit)
    (g := F0 m pc ls (.ref g.2.2.2.2.2.2 :: st)) rfl (by rw [F.2.2.2.1]; exact hl.1) rfl (by rw [F.2.1]; exact hd) hfr (by show 2 * 0 + _ + 14 ≤ _; omega) hcells (by rw [hsz]; exact hslots) (hloader := by rw [w4]; exact Vm.clonesLoader_of_array hkS hkindS)
  have hce : ({ cls := cell.cls, slots := cell.slots } : Cell) = vp_cell (g.2.2.2.2.1 0) (3, .inl fF) := by rw [w4, w5]; rfl
  rw [hce, hsz] at X'
  rw [hT, hz.1] at st'
  subst hT
  have hU : ∀ q : Nat, q < T.heap.size → ((T.setVm vm').pushCell (vp_cell (g.2.2.2.2.1 0) (3, .inl fF))).heap[q]? = T.heap[q]? := fun q h => State.heap_pushCell_of_lt (s := T.setVm vm') _ h
  have hnew : ((T.setVm vm').pushCell (vp_cell (g.2.2.2.2.1 0) (3, .inl fF))).heap[ad g nn]? = some (vp_cell (g.2.2.2.2.1 0) (3, .inl fF)) := by
    rw [← hz.1]
    exact State.heap_pushCell_size (s := T.setVm vm') _
  obtain ⟨t, b1, b2⟩ := k p e s m args below meth c ((T.setVm vm').pushCell (vp_cell (g.2.2.2.2.1 0) (3, .inl fF))).heap locs ls F hY (fun i q hq => by
    have hi := wsB_lt hq
    rw [wsB_at g _ hi] at hq
    cases hq
    by_cases z : i = nn
    · rw [z, updE_s]
      exact hnew
    · rw [updE_n z]
      exact (hP i _ (wsB_at g E (by omega))).kept (hU _ ((hP i _ (wsB_at g E (by omega))).lt))) ⟨by rw [State.heap_pushCell, Array.size_push]; exact congrArg (· + 1) hz.1, bc_up hz.2⟩ ⟨by rw [State.heap_pushCell, Array.size_push]; exact Nat.le_succ_of_le hS.1, fun q q1 q2 => (hU q (Nat.lt_of_lt_of_le q1 hS.1)).trans (hS.2.1 q q1 q2), hS.2.2⟩ hl _ rfl X'
  refine ⟨t, st' t ?_, b2⟩
  rw [hce]
  exact b1
theorem bw_cast {o idx n : Nat} {f : Nat → Int32} (hd : dn cc pc (.checkcast idx) 3 pc') (hw : Cond.classLink own idx "[I" ∈ wtb) (ho : o < nn) (he : E o = .inl (g.2.2.2.2.1 0, n, .inl f)) (k : BW g cc nL R own Qc mc ms pc' lv (.ref (ad g o) :: st) nn E cu su) : BW g cc nL R own Qc mc ms pc lv (.ref (ad g o) :: st) nn E cu su := by
  obtain ⟨hd, rfl⟩ := hd
  intro p e s m args below meth c H locs ls F hY hP hz hS hl
  exact va_castA F.1 F.2.1 F.2.2.2.2.1 (F.2.2.2.2.2.1 _ hw) hP o (by rw [wsB_at g E ho, he]) ((F.2.2.2.2.2.2.2.1.2 0 _ rfl).2) hd (k p e s m args below meth c H locs ls F hY hP hz hS hl)
def okI (y : MethodName) (cy : ByteArray) (ny n : Nat) : Prop := Cond.initialized y.cls ∈ wtb ∧ Cond.instanceMethod y ∈ wtb ∧ Cond.code y cy ny none ∈ wtb ∧ y.name = "<init>" ∧ (y.cls ≠ "java/lang/invoke/MethodHandle" ∧ y.cls ≠ "java/lang/invoke/VarHandle" ∧ (parseMethodDescriptor y.desc).map (fun d => d.parameters.length) = some n)
theorem okI.gi {y : MethodName} {cy : ByteArray} {ny n : Nat} (ok : okI y cy ny n) : GoodIn wtb (cw_ y cy ny none) := wtb_in fun w hw => by
  rcases List.mem_cons.mp hw with rfl | h
  · exact ok.2.2.1
  · exact h
theorem bw_call {y : MethodName} {cy : ByteArray} {ny n idx o fr lo mcy msy n' : Nat} {As : List Value} {st0 : List Value} {post : (Nat → va_E) → Prop} (hd : dn cc pc (.invokespecial idx) 3 pc') (hl9 : Cond.methodLink own idx y ∈ wtb) (ok : okI y cy ny n) (hst : st0 = As.reverse ++ .ref (ad g o) :: st) (hn : As.length = n) (hW : (st.map fun v => v.category).sum ≤ 8) (hR : fr + 1 ≤ R.frames ∧ 8 + (ny + 11) + lo ≤ R.locals) (hcc : cu + mcy ≤ R.cells ∧ su + msy ≤ R.slots) (hM : Ctb g y cy ny fr lo mcy msy (.ref (ad g o) :: As) nn E n' post) (hn' : n' = nn + mcy) (kk : ∀ E', post E' → BW g cc nL R own Qc mc ms pc' lv st n' E' (cu + mcy) (su + msy)) : BW g cc nL R own Qc mc ms pc lv st0 nn E cu su := by
  obtain ⟨hd, rfl⟩ := hd
  subst hst
  intro p e s m args below meth c H locs ls F hY hP hz hS hlv
  have hts := F.2.2.2.2.2.1
  refine va_callv (va_runI (As := As) (rest := st) (b := ad g o) ⟨F.1, F.2.1, F.2.2.2.1, F.2.2.2.2.1, hts⟩ hM (cwI n hts ok.gi rfl rfl rfl (hts _ ok.1) (hts _ hl9) (hts _ ok.2.1) ok.2.2.2.1 ok.2.2.2.2 hR) ⟨wdB_blind, fun U hU hW9 => ⟨rfl, F.wdB hY.2.2 hP hz.1 hS hU hW9⟩⟩ rfl hn hlv.1 rfl (lv_room hW) hd hcc) hS (fun q _ h => h) (fun q h => h) (fun u t H1 locs1 ht hvm hw hB hz1 hk1 hS1 => ?_)
  exact kk u hw p e s m args below meth c H1 locs1 ls F hY (by rw [← ht]; exact hB.1) ⟨by rw [← ht]; exact hB.2.1, by rw [hn']; exact bc_up hz.2⟩ hS1 hlv
theorem bw_callN {idx o fr lo mcy msy n' : Nat} {post : (Nat → va_E) → Prop} (hd : dn cc pc (.invokespecial 17) 3 pc') (ho : own = RX7) (ok : okI yX6_init cX6_init 1 0) (hW : (st.map fun v => v.category).sum ≤ 8) (hR : fr + 1 ≤ R.frames ∧ 8 + (1 + 11) + lo ≤ R.locals) (hcc : cu + mcy ≤ R.cells ∧ su + msy ≤ R.slots) (hM : Ctb g yX6_init cX6_init 1 fr lo mcy msy [.ref (ad g o)] nn E n' post) (hn' : n' = nn + mcy) (kk : ∀ E', post E' → BW g cc nL R own Qc mc ms pc' lv st n' E' (cu + mcy) (su + msy)) : BW g cc nL R own Qc mc ms pc lv (.ref (ad g o) :: st) nn E cu su := by
  obtain ⟨hd, rfl⟩ := hd
  intro p e s m args below meth c H locs ls F hY hP hz hS hlv
  subst ho
  have hts := F.2.2.2.2.2.1
  refine va_callv (va_runIN (As := []) (rest := st) (b := ad g o) ⟨F.1, F.2.1, F.2.2.2.1, F.2.2.2.2.1, hts⟩ hM ⟨va_cnB 0 hts ok.gi rfl rfl rfl hY.2.2.2.2.2.2.2.1 (hts _ ok.1) ok.2.2.2.2 hR, ok.2.2.2.1, hts _ ok.2.1⟩ ⟨wdB_blind, fun U hU hW9 => ⟨rfl, F.wdB hY.2.2 hP hz.1 hS hU hW9⟩⟩ rfl rfl hlv.1 rfl (lv_room hW) hd hcc) hS (fun q _ h => h) (fun q h => h) (fun u t H1 locs1 ht hvm hw hB hz1 hk1 hS1 => ?_)
  exact kk u hw p e s m args below meth c H1 locs1 ls F hY (by rw [← ht]; exact hB.1) ⟨by rw [← ht]; exact hB.2.1, by rw [hn']; exact bc_up hz.2⟩ hS1 hlv
theorem bw_for (inv : Nat → Nat → (Nat → va_E) → Nat → Nat → Prop) (lvf : Nat → List (Option Value)) (e : Nat) (step : ∀ i n E cu su, i < e → inv i n E cu su → (∀ n' E' cu' su', inv (i + 1) n' E' cu' su' → BW g cc nL R own Qc mc ms pc (lvf (i + 1)) st n' E' cu' su') → BW g cc nL R own Qc mc ms pc (lvf i) st n E cu su) (last : ∀ n E cu su, inv e n E cu su → BW g cc nL R own Qc mc ms pc (lvf e) st n E cu su) : ∀ (i n : Nat) (E : Nat → va_E) (cu su : Nat), i ≤ e → inv i n E cu su → BW g cc nL R own Qc mc ms pc (lvf i) st n E cu su := by
  have key : ∀ (d i n : Nat) (E : Nat → va_E) (cu su : Nat), d = e - i → i ≤ e → inv i n E cu su → BW g cc nL R own Qc mc ms pc (lvf i) st n E cu su := by
    intro d
    induction d with
    | zero =>
      intro i n E cu su hd hi hv
      have : i = e := by omega
      subst this
      exact last n E cu su hv
    | succ d ih =>
      intro i n E cu su hd hi hv
      exact step i n E cu su (by omega) hv (fun n' E' cu' su' h' => ih (i + 1) n' E' cu' su' (by omega) (by omega) h')
  exact fun i n E cu su hi hv => key (e - i) i n E cu su rfl hi hv
end BWr
theorem okI0 : okI yX0_init cX0_init 2 0 := ⟨kn0, wt (List.mem_of_getElem? (i := 153) (by decide +kernel)) rfl, wt (List.mem_of_getElem? (i := 154) (by decide +kernel)) rfl, rfl, by decide +kernel⟩
theorem okI1 : okI yX1_init cX1_init 2 1 := ⟨kn1, wt (List.mem_of_getElem? (i := 160) (by decide +kernel)) rfl, wt (List.mem_of_getElem? (i := 161) (by decide +kernel)) rfl, rfl, by decide +kernel⟩
theorem okI2 : okI yX2_init cX2_init 2 1 := ⟨kn2, wt (List.mem_of_getElem? (i := 244) (by decide +kernel)) rfl, wt (List.mem_of_getElem? (i := 245) (by decide +kernel)) rfl, rfl, by decide +kernel⟩
theorem okI3 : okI yX3_init cX3_init 1 0 := ⟨kn3, wt (List.mem_of_getElem? (i := 97) (by decide +kernel)) rfl, wt (List.mem_of_getElem? (i := 98) (by decide +kernel)) rfl, rfl, by decide +kernel⟩
theorem okI4 : okI yX4_init cX4_init 1 0 := ⟨kn4, wt (List.mem_of_getElem? (i := 307) (by decide +kernel)) rfl, wt (List.mem_of_getElem? (i := 308) (by decide +kernel)) rfl, rfl, by decide +kernel⟩
theorem okI5 : okI yX5_init cX5_init 2 1 := ⟨kn5, wt (List.mem_of_getElem? (i := 103) (by decide +kernel)) rfl, wt (List.mem_of_getElem? (i := 104) (by decide +kernel)) rfl, rfl, by decide +kernel⟩
theorem okI6 : okI yX6_init cX6_init 1 0 := ⟨kn6, wt (List.mem_of_getElem? (i := 179) (by decide +kernel)) rfl, wt (List.mem_of_getElem? (i := 180) (by decide +kernel)) rfl, rfl, by decide +kernel⟩
theorem okI7 : okI yX7_init cX7_init 2 0 := ⟨kn7, wt (List.mem_of_getElem? (i := 172) (by decide +kernel)) rfl, wt (List.mem_of_getElem? (i := 173) (by decide +kernel)) rfl, rfl, by decide +kernel⟩
theorem okI8 : okI yX8_init cX8_init 4 1 := ⟨kn8, wt (List.mem_of_getElem? (i := 237) (by decide +kernel)) rfl, wt (List.mem_of_getElem? (i := 238) (by decide +kernel)) rfl, rfl, by decide +kernel⟩
theorem okI9 : okI yX9_init cX9_init 2 0 := ⟨kn9, wt (List.mem_of_getElem? (i := 89) (by decide +kernel)) rfl, wt (List.mem_of_getElem? (i := 90) (by decide +kernel)) rfl, rfl, by decide +kernel⟩
theorem okI10 : okI yX10_init cX10_init 1 0 := ⟨kn10, wt (List.mem_of_getElem? (i := 761) (by decide +kernel)) rfl, wt (List.mem_of_getElem? (i := 762) (by decide +kernel)) rfl, rfl, by decide +kernel⟩
theorem dX0_init_0 : dn cX0_init 0 (.aload_n 0) 1 1 := ⟨by decide +kernel, rfl⟩
theorem dX0_init_1 : dn cX0_init 1 (.invokespecial 3) 3 4 := ⟨by decide +kernel, rfl⟩
theorem dX0_init_4 : dn cX0_init 4 (.aload_n 0) 1 5 := ⟨by decide +kernel, rfl⟩
theorem dX0_init_5 : dn cX0_init 5 (.new 9) 3 8 := ⟨by decide +kernel, rfl⟩
theorem dX0_init_8 : dn cX0_init 8 (.dup) 1 9 := ⟨by decide +kernel, rfl⟩
theorem dX0_init_9 : dn cX0_init 9 (.bipush 24) 2 11 := ⟨by decide +kernel, rfl⟩
theorem dX0_init_11 : dn cX0_init 11 (.bipush 121) 2 13 := ⟨by decide +kernel, rfl⟩
theorem dX0_init_13 : dn cX0_init 13 (.invokestatic 11) 3 16 := ⟨by decide +kernel, rfl⟩
theorem dX0_init_16 : dn cX0_init 16 (.invokespecial 17) 3 19 := ⟨by decide +kernel, rfl⟩
theorem dX0_init_19 : dn cX0_init 19 (.putfield 20) 3 22 := ⟨by decide +kernel, rfl⟩
theorem dX0_init_22 : dn cX0_init 22 (.aload_n 0) 1 23 := ⟨by decide +kernel, rfl⟩
theorem dX0_init_23 : dn cX0_init 23 (.new 26) 3 26 := ⟨by decide +kernel, rfl⟩
theorem dX0_init_26 : dn cX0_init 26 (.dup) 1 27 := ⟨by decide +kernel, rfl⟩
theorem dX0_init_27 : dn cX0_init 27 (.invokespecial 28) 3 30 := ⟨by decide +kernel, rfl⟩
theorem dX0_init_30 : dn cX0_init 30 (.putfield 29) 3 33 := ⟨by decide +kernel, rfl⟩
theorem dX0_init_33 : dn cX0_init 33 (.aload_n 0) 1 34 := ⟨by decide +kernel, rfl⟩
theorem dX0_init_34 : dn cX0_init 34 (.bipush 6) 2 36 := ⟨by decide +kernel, rfl⟩
theorem dX0_init_36 : dn cX0_init 36 (.anewarray 33) 3 39 := ⟨by decide +kernel, rfl⟩
theorem dX0_init_39 : dn cX0_init 39 (.putfield 35) 3 42 := ⟨by decide +kernel, rfl⟩
theorem dX0_init_42 : dn cX0_init 42 (.iconst 0) 1 43 := ⟨by decide +kernel, rfl⟩
theorem dX0_init_43 : dn cX0_init 43 (.istore_n 1) 1 44 := ⟨by decide +kernel, rfl⟩
theorem dX0_init_44 : dn cX0_init 44 (.iload_n 1) 1 45 := ⟨by decide +kernel, rfl⟩
theorem dX0_init_45 : dn cX0_init 45 (.bipush 6) 2 47 := ⟨by decide +kernel, rfl⟩
theorem dX0_init_47 : db cX0_init 47 (.if_icmp .ge 28) 3 50 (28) 75 := ⟨by decide +kernel, rfl, rfl⟩
theorem dX0_init_50 : dn cX0_init 50 (.aload_n 0) 1 51 := ⟨by decide +kernel, rfl⟩
theorem dX0_init_51 : dn cX0_init 51 (.getfield 35) 3 54 := ⟨by decide +kernel, rfl⟩
theorem dX0_init_54 : dn cX0_init 54 (.iload_n 1) 1 55 := ⟨by decide +kernel, rfl⟩
theorem dX0_init_55 : dn cX0_init 55 (.new 33) 3 58 := ⟨by decide +kernel, rfl⟩
theorem dX0_init_58 : dn cX0_init 58 (.dup) 1 59 := ⟨by decide +kernel, rfl⟩
theorem dX0_init_59 : dn cX0_init 59 (.bipush 24) 2 61 := ⟨by decide +kernel, rfl⟩
theorem dX0_init_61 : dn cX0_init 61 (.iload_n 1) 1 62 := ⟨by decide +kernel, rfl⟩
theorem dX0_init_62 : dn cX0_init 62 (.iconst 4) 1 63 := ⟨by decide +kernel, rfl⟩
theorem dX0_init_63 : dn cX0_init 63 (.imul) 1 64 := ⟨by decide +kernel, rfl⟩
theorem dX0_init_64 : dn cX0_init 64 (.isub) 1 65 := ⟨by decide +kernel, rfl⟩
theorem dX0_init_65 : dn cX0_init 65 (.invokespecial 39) 3 68 := ⟨by decide +kernel, rfl⟩
theorem dX0_init_68 : dn cX0_init 68 (.aastore) 1 69 := ⟨by decide +kernel, rfl⟩
theorem dX0_init_69 : dn cX0_init 69 (.iinc 1 1) 3 72 := ⟨by decide +kernel, rfl⟩
theorem dX0_init_72 : db cX0_init 72 (.goto (-28)) 3 75 (-28) 44 := ⟨by decide +kernel, rfl, rfl⟩
theorem dX0_init_75 : dn cX0_init 75 (.aload_n 0) 1 76 := ⟨by decide +kernel, rfl⟩
theorem dX0_init_76 : dn cX0_init 76 (.new 40) 3 79 := ⟨by decide +kernel, rfl⟩
theorem dX0_init_79 : dn cX0_init 79 (.dup) 1 80 := ⟨by decide +kernel, rfl⟩
theorem dX0_init_80 : dn cX0_init 80 (.invokespecial 42) 3 83 := ⟨by decide +kernel, rfl⟩
theorem dX0_init_83 : dn cX0_init 83 (.putfield 43) 3 86 := ⟨by decide +kernel, rfl⟩
theorem dX0_init_86 : dn cX0_init 86 (.return_) 1 87 := ⟨by decide +kernel, rfl⟩
theorem dX1_init_0 : dn cX1_init 0 (.aload_n 0) 1 1 := ⟨by decide +kernel, rfl⟩
theorem dX1_init_1 : dn cX1_init 1 (.invokespecial 1) 3 4 := ⟨by decide +kernel, rfl⟩
theorem dX1_init_4 : dn cX1_init 4 (.aload_n 0) 1 5 := ⟨by decide +kernel, rfl⟩
theorem dX1_init_5 : dn cX1_init 5 (.iconst 0) 1 6 := ⟨by decide +kernel, rfl⟩
theorem dX1_init_6 : dn cX1_init 6 (.iload_n 1) 1 7 := ⟨by decide +kernel, rfl⟩
theorem dX1_init_7 : dn cX1_init 7 (.invokestatic 7) 3 10 := ⟨by decide +kernel, rfl⟩
theorem dX1_init_10 : dn cX1_init 10 (.newarray .int) 2 12 := ⟨by decide +kernel, rfl⟩
theorem dX1_init_12 : dn cX1_init 12 (.putfield 13) 3 15 := ⟨by decide +kernel, rfl⟩
theorem dX1_init_15 : dn cX1_init 15 (.return_) 1 16 := ⟨by decide +kernel, rfl⟩
theorem dX2_init_0 : dn cX2_init 0 (.aload_n 0) 1 1 := ⟨by decide +kernel, rfl⟩
theorem dX2_init_1 : dn cX2_init 1 (.invokespecial 3) 3 4 := ⟨by decide +kernel, rfl⟩
theorem dX2_init_4 : dn cX2_init 4 (.aload_n 0) 1 5 := ⟨by decide +kernel, rfl⟩
theorem dX2_init_5 : dn cX2_init 5 (.iconst 2) 1 6 := ⟨by decide +kernel, rfl⟩
theorem dX2_init_6 : dn cX2_init 6 (.iconst 0) 1 7 := ⟨by decide +kernel, rfl⟩
theorem dX2_init_7 : dn cX2_init 7 (.iload_n 1) 1 8 := ⟨by decide +kernel, rfl⟩
theorem dX2_init_8 : dn cX2_init 8 (.invokestatic 9) 3 11 := ⟨by decide +kernel, rfl⟩
theorem dX2_init_11 : dn cX2_init 11 (.multianewarray 15 2) 4 15 := ⟨by decide +kernel, rfl⟩
theorem dX2_init_15 : dn cX2_init 15 (.putfield 17) 3 18 := ⟨by decide +kernel, rfl⟩
theorem dX2_init_18 : dn cX2_init 18 (.aload_n 0) 1 19 := ⟨by decide +kernel, rfl⟩
theorem dX2_init_19 : dn cX2_init 19 (.iconst 2) 1 20 := ⟨by decide +kernel, rfl⟩
theorem dX2_init_20 : dn cX2_init 20 (.newarray .int) 2 22 := ⟨by decide +kernel, rfl⟩
theorem dX2_init_22 : dn cX2_init 22 (.putfield 22) 3 25 := ⟨by decide +kernel, rfl⟩
theorem dX2_init_25 : dn cX2_init 25 (.return_) 1 26 := ⟨by decide +kernel, rfl⟩
theorem dX3_init_0 : dn cX3_init 0 (.aload_n 0) 1 1 := ⟨by decide +kernel, rfl⟩
theorem dX3_init_1 : dn cX3_init 1 (.invokespecial 3) 3 4 := ⟨by decide +kernel, rfl⟩
theorem dX3_init_4 : dn cX3_init 4 (.aload_n 0) 1 5 := ⟨by decide +kernel, rfl⟩
theorem dX3_init_5 : dn cX3_init 5 (.new 9) 3 8 := ⟨by decide +kernel, rfl⟩
theorem dX3_init_8 : dn cX3_init 8 (.dup) 1 9 := ⟨by decide +kernel, rfl⟩
theorem dX3_init_9 : dn cX3_init 9 (.bipush 24) 2 11 := ⟨by decide +kernel, rfl⟩
theorem dX3_init_11 : dn cX3_init 11 (.invokespecial 11) 3 14 := ⟨by decide +kernel, rfl⟩
theorem dX3_init_14 : dn cX3_init 14 (.putfield 14) 3 17 := ⟨by decide +kernel, rfl⟩
theorem dX3_init_17 : dn cX3_init 17 (.aload_n 0) 1 18 := ⟨by decide +kernel, rfl⟩
theorem dX3_init_18 : dn cX3_init 18 (.new 9) 3 21 := ⟨by decide +kernel, rfl⟩
theorem dX3_init_21 : dn cX3_init 21 (.dup) 1 22 := ⟨by decide +kernel, rfl⟩
theorem dX3_init_22 : dn cX3_init 22 (.bipush 20) 2 24 := ⟨by decide +kernel, rfl⟩
theorem dX3_init_24 : dn cX3_init 24 (.invokespecial 11) 3 27 := ⟨by decide +kernel, rfl⟩
theorem dX3_init_27 : dn cX3_init 27 (.putfield 20) 3 30 := ⟨by decide +kernel, rfl⟩
theorem dX3_init_30 : dn cX3_init 30 (.aload_n 0) 1 31 := ⟨by decide +kernel, rfl⟩
theorem dX3_init_31 : dn cX3_init 31 (.getstatic 23) 3 34 := ⟨by decide +kernel, rfl⟩
theorem dX3_init_34 : dn cX3_init 34 (.invokevirtual 27) 3 37 := ⟨by decide +kernel, rfl⟩
theorem dX3_init_37 : dn cX3_init 37 (.checkcast 28) 3 40 := ⟨by decide +kernel, rfl⟩
theorem dX3_init_40 : dn cX3_init 40 (.putfield 32) 3 43 := ⟨by decide +kernel, rfl⟩
theorem dX3_init_43 : dn cX3_init 43 (.return_) 1 44 := ⟨by decide +kernel, rfl⟩
theorem dX4_init_0 : dn cX4_init 0 (.aload_n 0) 1 1 := ⟨by decide +kernel, rfl⟩
theorem dX4_init_1 : dn cX4_init 1 (.invokespecial 3) 3 4 := ⟨by decide +kernel, rfl⟩
theorem dX4_init_4 : dn cX4_init 4 (.aload_n 0) 1 5 := ⟨by decide +kernel, rfl⟩
theorem dX4_init_5 : dn cX4_init 5 (.bipush 20) 2 7 := ⟨by decide +kernel, rfl⟩
theorem dX4_init_7 : dn cX4_init 7 (.newarray .int) 2 9 := ⟨by decide +kernel, rfl⟩
theorem dX4_init_9 : dn cX4_init 9 (.putfield 9) 3 12 := ⟨by decide +kernel, rfl⟩
theorem dX4_init_12 : dn cX4_init 12 (.aload_n 0) 1 13 := ⟨by decide +kernel, rfl⟩
theorem dX4_init_13 : dn cX4_init 13 (.bipush 20) 2 15 := ⟨by decide +kernel, rfl⟩
theorem dX4_init_15 : dn cX4_init 15 (.newarray .int) 2 17 := ⟨by decide +kernel, rfl⟩
theorem dX4_init_17 : dn cX4_init 17 (.putfield 15) 3 20 := ⟨by decide +kernel, rfl⟩
theorem dX4_init_20 : dn cX4_init 20 (.aload_n 0) 1 21 := ⟨by decide +kernel, rfl⟩
theorem dX4_init_21 : dn cX4_init 21 (.bipush 20) 2 23 := ⟨by decide +kernel, rfl⟩
theorem dX4_init_23 : dn cX4_init 23 (.newarray .int) 2 25 := ⟨by decide +kernel, rfl⟩
theorem dX4_init_25 : dn cX4_init 25 (.putfield 18) 3 28 := ⟨by decide +kernel, rfl⟩
theorem dX4_init_28 : dn cX4_init 28 (.return_) 1 29 := ⟨by decide +kernel, rfl⟩
theorem dX5_init_0 : dn cX5_init 0 (.aload_n 0) 1 1 := ⟨by decide +kernel, rfl⟩
theorem dX5_init_1 : dn cX5_init 1 (.invokespecial 3) 3 4 := ⟨by decide +kernel, rfl⟩
theorem dX5_init_4 : dn cX5_init 4 (.aload_n 0) 1 5 := ⟨by decide +kernel, rfl⟩
theorem dX5_init_5 : dn cX5_init 5 (.iconst 0) 1 6 := ⟨by decide +kernel, rfl⟩
theorem dX5_init_6 : dn cX5_init 6 (.iload_n 1) 1 7 := ⟨by decide +kernel, rfl⟩
theorem dX5_init_7 : dn cX5_init 7 (.invokestatic 9) 3 10 := ⟨by decide +kernel, rfl⟩
theorem dX5_init_10 : dn cX5_init 10 (.putfield 15) 3 13 := ⟨by decide +kernel, rfl⟩
theorem dX5_init_13 : dn cX5_init 13 (.aload_n 0) 1 14 := ⟨by decide +kernel, rfl⟩
theorem dX5_init_14 : dn cX5_init 14 (.aload_n 0) 1 15 := ⟨by decide +kernel, rfl⟩
theorem dX5_init_15 : dn cX5_init 15 (.getfield 15) 3 18 := ⟨by decide +kernel, rfl⟩
theorem dX5_init_18 : dn cX5_init 18 (.iconst 4) 1 19 := ⟨by decide +kernel, rfl⟩
theorem dX5_init_19 : dn cX5_init 19 (.imul) 1 20 := ⟨by decide +kernel, rfl⟩
theorem dX5_init_20 : dn cX5_init 20 (.newarray .int) 2 22 := ⟨by decide +kernel, rfl⟩
theorem dX5_init_22 : dn cX5_init 22 (.putfield 21) 3 25 := ⟨by decide +kernel, rfl⟩
theorem dX5_init_25 : dn cX5_init 25 (.return_) 1 26 := ⟨by decide +kernel, rfl⟩
theorem dX6_init_0 : dn cX6_init 0 (.aload_n 0) 1 1 := ⟨by decide +kernel, rfl⟩
theorem dX6_init_1 : dn cX6_init 1 (.invokespecial 3) 3 4 := ⟨by decide +kernel, rfl⟩
theorem dX6_init_4 : dn cX6_init 4 (.return_) 1 5 := ⟨by decide +kernel, rfl⟩
theorem dX7_init_0 : dn cX7_init 0 (.aload_n 0) 1 1 := ⟨by decide +kernel, rfl⟩
theorem dX7_init_1 : dn cX7_init 1 (.invokespecial 3) 3 4 := ⟨by decide +kernel, rfl⟩
theorem dX7_init_4 : dn cX7_init 4 (.aload_n 0) 1 5 := ⟨by decide +kernel, rfl⟩
theorem dX7_init_5 : dn cX7_init 5 (.bipush 24) 2 7 := ⟨by decide +kernel, rfl⟩
theorem dX7_init_7 : dn cX7_init 7 (.anewarray 9) 3 10 := ⟨by decide +kernel, rfl⟩
theorem dX7_init_10 : dn cX7_init 10 (.putfield 11) 3 13 := ⟨by decide +kernel, rfl⟩
theorem dX7_init_13 : dn cX7_init 13 (.iconst 0) 1 14 := ⟨by decide +kernel, rfl⟩
theorem dX7_init_14 : dn cX7_init 14 (.istore_n 1) 1 15 := ⟨by decide +kernel, rfl⟩
theorem dX7_init_15 : dn cX7_init 15 (.iload_n 1) 1 16 := ⟨by decide +kernel, rfl⟩
theorem dX7_init_16 : dn cX7_init 16 (.bipush 24) 2 18 := ⟨by decide +kernel, rfl⟩
theorem dX7_init_18 : db cX7_init 18 (.if_icmp .ge 22) 3 21 (22) 40 := ⟨by decide +kernel, rfl, rfl⟩
theorem dX7_init_21 : dn cX7_init 21 (.aload_n 0) 1 22 := ⟨by decide +kernel, rfl⟩
theorem dX7_init_22 : dn cX7_init 22 (.getfield 11) 3 25 := ⟨by decide +kernel, rfl⟩
theorem dX7_init_25 : dn cX7_init 25 (.iload_n 1) 1 26 := ⟨by decide +kernel, rfl⟩
theorem dX7_init_26 : dn cX7_init 26 (.new 9) 3 29 := ⟨by decide +kernel, rfl⟩
theorem dX7_init_29 : dn cX7_init 29 (.dup) 1 30 := ⟨by decide +kernel, rfl⟩
theorem dX7_init_30 : dn cX7_init 30 (.invokespecial 17) 3 33 := ⟨by decide +kernel, rfl⟩
theorem dX7_init_33 : dn cX7_init 33 (.aastore) 1 34 := ⟨by decide +kernel, rfl⟩
theorem dX7_init_34 : dn cX7_init 34 (.iinc 1 1) 3 37 := ⟨by decide +kernel, rfl⟩
theorem dX7_init_37 : db cX7_init 37 (.goto (-22)) 3 40 (-22) 15 := ⟨by decide +kernel, rfl, rfl⟩
theorem dX7_init_40 : dn cX7_init 40 (.aload_n 0) 1 41 := ⟨by decide +kernel, rfl⟩
theorem dX7_init_41 : dn cX7_init 41 (.bipush 24) 2 43 := ⟨by decide +kernel, rfl⟩
theorem dX7_init_43 : dn cX7_init 43 (.newarray .int) 2 45 := ⟨by decide +kernel, rfl⟩
theorem dX7_init_45 : dn cX7_init 45 (.putfield 18) 3 48 := ⟨by decide +kernel, rfl⟩
theorem dX7_init_48 : dn cX7_init 48 (.return_) 1 49 := ⟨by decide +kernel, rfl⟩
theorem dX8_init_0 : dn cX8_init 0 (.aload_n 0) 1 1 := ⟨by decide +kernel, rfl⟩
theorem dX8_init_1 : dn cX8_init 1 (.invokespecial 3) 3 4 := ⟨by decide +kernel, rfl⟩
theorem dX8_init_4 : dn cX8_init 4 (.iconst 2) 1 5 := ⟨by decide +kernel, rfl⟩
theorem dX8_init_5 : dn cX8_init 5 (.iload_n 1) 1 6 := ⟨by decide +kernel, rfl⟩
theorem dX8_init_6 : dn cX8_init 6 (.iconst 2) 1 7 := ⟨by decide +kernel, rfl⟩
theorem dX8_init_7 : dn cX8_init 7 (.idiv) 1 8 := ⟨by decide +kernel, rfl⟩
theorem dX8_init_8 : dn cX8_init 8 (.invokestatic 9) 3 11 := ⟨by decide +kernel, rfl⟩
theorem dX8_init_11 : dn cX8_init 11 (.istore_n 2) 1 12 := ⟨by decide +kernel, rfl⟩
theorem dX8_init_12 : dn cX8_init 12 (.iload_n 2) 1 13 := ⟨by decide +kernel, rfl⟩
theorem dX8_init_13 : dn cX8_init 13 (.iconst 1) 1 14 := ⟨by decide +kernel, rfl⟩
theorem dX8_init_14 : dn cX8_init 14 (.isub) 1 15 := ⟨by decide +kernel, rfl⟩
theorem dX8_init_15 : dn cX8_init 15 (.iload_n 2) 1 16 := ⟨by decide +kernel, rfl⟩
theorem dX8_init_16 : dn cX8_init 16 (.iconst 1) 1 17 := ⟨by decide +kernel, rfl⟩
theorem dX8_init_17 : dn cX8_init 17 (.isub) 1 18 := ⟨by decide +kernel, rfl⟩
theorem dX8_init_18 : dn cX8_init 18 (.imul) 1 19 := ⟨by decide +kernel, rfl⟩
theorem dX8_init_19 : dn cX8_init 19 (.istore_n 3) 1 20 := ⟨by decide +kernel, rfl⟩
theorem dX8_init_20 : dn cX8_init 20 (.aload_n 0) 1 21 := ⟨by decide +kernel, rfl⟩
theorem dX8_init_21 : dn cX8_init 21 (.new 15) 3 24 := ⟨by decide +kernel, rfl⟩
theorem dX8_init_24 : dn cX8_init 24 (.dup) 1 25 := ⟨by decide +kernel, rfl⟩
theorem dX8_init_25 : dn cX8_init 25 (.iconst 2) 1 26 := ⟨by decide +kernel, rfl⟩
theorem dX8_init_26 : dn cX8_init 26 (.iload_n 2) 1 27 := ⟨by decide +kernel, rfl⟩
theorem dX8_init_27 : dn cX8_init 27 (.imul) 1 28 := ⟨by decide +kernel, rfl⟩
theorem dX8_init_28 : dn cX8_init 28 (.iconst 2) 1 29 := ⟨by decide +kernel, rfl⟩
theorem dX8_init_29 : dn cX8_init 29 (.isub) 1 30 := ⟨by decide +kernel, rfl⟩
theorem dX8_init_30 : dn cX8_init 30 (.invokespecial 17) 3 33 := ⟨by decide +kernel, rfl⟩
theorem dX8_init_33 : dn cX8_init 33 (.putfield 20) 3 36 := ⟨by decide +kernel, rfl⟩
theorem dX8_init_36 : dn cX8_init 36 (.aload_n 0) 1 37 := ⟨by decide +kernel, rfl⟩
theorem dX8_init_37 : dn cX8_init 37 (.iconst 2) 1 38 := ⟨by decide +kernel, rfl⟩
theorem dX8_init_38 : dn cX8_init 38 (.iload_n 2) 1 39 := ⟨by decide +kernel, rfl⟩
theorem dX8_init_39 : dn cX8_init 39 (.imul) 1 40 := ⟨by decide +kernel, rfl⟩
theorem dX8_init_40 : dn cX8_init 40 (.iload_n 2) 1 41 := ⟨by decide +kernel, rfl⟩
theorem dX8_init_41 : dn cX8_init 41 (.iconst 1) 1 42 := ⟨by decide +kernel, rfl⟩
theorem dX8_init_42 : dn cX8_init 42 (.isub) 1 43 := ⟨by decide +kernel, rfl⟩
theorem dX8_init_43 : dn cX8_init 43 (.imul) 1 44 := ⟨by decide +kernel, rfl⟩
theorem dX8_init_44 : dn cX8_init 44 (.newarray .boolean) 2 46 := ⟨by decide +kernel, rfl⟩
theorem dX8_init_46 : dn cX8_init 46 (.putfield 26) 3 49 := ⟨by decide +kernel, rfl⟩
theorem dX8_init_49 : dn cX8_init 49 (.aload_n 0) 1 50 := ⟨by decide +kernel, rfl⟩
theorem dX8_init_50 : dn cX8_init 50 (.iload_n 3) 1 51 := ⟨by decide +kernel, rfl⟩
theorem dX8_init_51 : dn cX8_init 51 (.newarray .int) 2 53 := ⟨by decide +kernel, rfl⟩
theorem dX8_init_53 : dn cX8_init 53 (.putfield 30) 3 56 := ⟨by decide +kernel, rfl⟩
theorem dX8_init_56 : dn cX8_init 56 (.aload_n 0) 1 57 := ⟨by decide +kernel, rfl⟩
theorem dX8_init_57 : dn cX8_init 57 (.bipush 7) 2 59 := ⟨by decide +kernel, rfl⟩
theorem dX8_init_59 : dn cX8_init 59 (.iload_n 3) 1 60 := ⟨by decide +kernel, rfl⟩
theorem dX8_init_60 : dn cX8_init 60 (.multianewarray 34 2) 4 64 := ⟨by decide +kernel, rfl⟩
theorem dX8_init_64 : dn cX8_init 64 (.putfield 36) 3 67 := ⟨by decide +kernel, rfl⟩
theorem dX8_init_67 : dn cX8_init 67 (.aload_n 0) 1 68 := ⟨by decide +kernel, rfl⟩
theorem dX8_init_68 : dn cX8_init 68 (.iconst 3) 1 69 := ⟨by decide +kernel, rfl⟩
theorem dX8_init_69 : dn cX8_init 69 (.iload_n 3) 1 70 := ⟨by decide +kernel, rfl⟩
theorem dX8_init_70 : dn cX8_init 70 (.multianewarray 34 2) 4 74 := ⟨by decide +kernel, rfl⟩
theorem dX8_init_74 : dn cX8_init 74 (.putfield 39) 3 77 := ⟨by decide +kernel, rfl⟩
theorem dX8_init_77 : dn cX8_init 77 (.return_) 1 78 := ⟨by decide +kernel, rfl⟩
theorem dX9_init_0 : dn cX9_init 0 (.aload_n 0) 1 1 := ⟨by decide +kernel, rfl⟩
theorem dX9_init_1 : dn cX9_init 1 (.invokespecial 3) 3 4 := ⟨by decide +kernel, rfl⟩
theorem dX9_init_4 : dn cX9_init 4 (.aload_n 0) 1 5 := ⟨by decide +kernel, rfl⟩
theorem dX9_init_5 : dn cX9_init 5 (.new 9) 3 8 := ⟨by decide +kernel, rfl⟩
theorem dX9_init_8 : dn cX9_init 8 (.dup) 1 9 := ⟨by decide +kernel, rfl⟩
theorem dX9_init_9 : dn cX9_init 9 (.invokespecial 11) 3 12 := ⟨by decide +kernel, rfl⟩
theorem dX9_init_12 : dn cX9_init 12 (.putfield 12) 3 15 := ⟨by decide +kernel, rfl⟩
theorem dX9_init_15 : dn cX9_init 15 (.aload_n 0) 1 16 := ⟨by decide +kernel, rfl⟩
theorem dX9_init_16 : dn cX9_init 16 (.iconst 2) 1 17 := ⟨by decide +kernel, rfl⟩
theorem dX9_init_17 : dn cX9_init 17 (.anewarray 9) 3 20 := ⟨by decide +kernel, rfl⟩
theorem dX9_init_20 : dn cX9_init 20 (.putfield 16) 3 23 := ⟨by decide +kernel, rfl⟩
theorem dX9_init_23 : dn cX9_init 23 (.iconst 0) 1 24 := ⟨by decide +kernel, rfl⟩
theorem dX9_init_24 : dn cX9_init 24 (.istore_n 1) 1 25 := ⟨by decide +kernel, rfl⟩
theorem dX9_init_25 : dn cX9_init 25 (.iload_n 1) 1 26 := ⟨by decide +kernel, rfl⟩
theorem dX9_init_26 : dn cX9_init 26 (.iconst 2) 1 27 := ⟨by decide +kernel, rfl⟩
theorem dX9_init_27 : db cX9_init 27 (.if_icmp .ge 22) 3 30 (22) 49 := ⟨by decide +kernel, rfl, rfl⟩
theorem dX9_init_30 : dn cX9_init 30 (.aload_n 0) 1 31 := ⟨by decide +kernel, rfl⟩
theorem dX9_init_31 : dn cX9_init 31 (.getfield 16) 3 34 := ⟨by decide +kernel, rfl⟩
theorem dX9_init_34 : dn cX9_init 34 (.iload_n 1) 1 35 := ⟨by decide +kernel, rfl⟩
theorem dX9_init_35 : dn cX9_init 35 (.new 9) 3 38 := ⟨by decide +kernel, rfl⟩
theorem dX9_init_38 : dn cX9_init 38 (.dup) 1 39 := ⟨by decide +kernel, rfl⟩
theorem dX9_init_39 : dn cX9_init 39 (.invokespecial 11) 3 42 := ⟨by decide +kernel, rfl⟩
theorem dX9_init_42 : dn cX9_init 42 (.aastore) 1 43 := ⟨by decide +kernel, rfl⟩
theorem dX9_init_43 : dn cX9_init 43 (.iinc 1 1) 3 46 := ⟨by decide +kernel, rfl⟩
theorem dX9_init_46 : db cX9_init 46 (.goto (-21)) 3 49 (-21) 25 := ⟨by decide +kernel, rfl, rfl⟩
theorem dX9_init_49 : dn cX9_init 49 (.aload_n 0) 1 50 := ⟨by decide +kernel, rfl⟩
theorem dX9_init_50 : dn cX9_init 50 (.iconst 2) 1 51 := ⟨by decide +kernel, rfl⟩
theorem dX9_init_51 : dn cX9_init 51 (.newarray .boolean) 2 53 := ⟨by decide +kernel, rfl⟩
theorem dX9_init_53 : dn cX9_init 53 (.putfield 20) 3 56 := ⟨by decide +kernel, rfl⟩
theorem dX9_init_56 : dn cX9_init 56 (.aload_n 0) 1 57 := ⟨by decide +kernel, rfl⟩
theorem dX9_init_57 : dn cX9_init 57 (.new 24) 3 60 := ⟨by decide +kernel, rfl⟩
theorem dX9_init_60 : dn cX9_init 60 (.dup) 1 61 := ⟨by decide +kernel, rfl⟩
theorem dX9_init_61 : dn cX9_init 61 (.invokespecial 26) 3 64 := ⟨by decide +kernel, rfl⟩
theorem dX9_init_64 : dn cX9_init 64 (.putfield 27) 3 67 := ⟨by decide +kernel, rfl⟩
theorem dX9_init_67 : dn cX9_init 67 (.aload_n 0) 1 68 := ⟨by decide +kernel, rfl⟩
theorem dX9_init_68 : dn cX9_init 68 (.iconst 1) 1 69 := ⟨by decide +kernel, rfl⟩
theorem dX9_init_69 : dn cX9_init 69 (.putfield 31) 3 72 := ⟨by decide +kernel, rfl⟩
theorem dX9_init_72 : dn cX9_init 72 (.return_) 1 73 := ⟨by decide +kernel, rfl⟩
theorem dX10_init_0 : dn cX10_init 0 (.aload_n 0) 1 1 := ⟨by decide +kernel, rfl⟩
theorem dX10_init_1 : dn cX10_init 1 (.invokespecial 1) 3 4 := ⟨by decide +kernel, rfl⟩
theorem dX10_init_4 : dn cX10_init 4 (.aload_n 0) 1 5 := ⟨by decide +kernel, rfl⟩
theorem dX10_init_5 : dn cX10_init 5 (.bipush 96) 2 7 := ⟨by decide +kernel, rfl⟩
theorem dX10_init_7 : dn cX10_init 7 (.newarray .int) 2 9 := ⟨by decide +kernel, rfl⟩
theorem dX10_init_9 : dn cX10_init 9 (.putfield 7) 3 12 := ⟨by decide +kernel, rfl⟩
theorem dX10_init_12 : dn cX10_init 12 (.aload_n 0) 1 13 := ⟨by decide +kernel, rfl⟩
theorem dX10_init_13 : dn cX10_init 13 (.bipush 80) 2 15 := ⟨by decide +kernel, rfl⟩
theorem dX10_init_15 : dn cX10_init 15 (.newarray .int) 2 17 := ⟨by decide +kernel, rfl⟩
theorem dX10_init_17 : dn cX10_init 17 (.putfield 13) 3 20 := ⟨by decide +kernel, rfl⟩
theorem dX10_init_20 : dn cX10_init 20 (.aload_n 0) 1 21 := ⟨by decide +kernel, rfl⟩
theorem dX10_init_21 : dn cX10_init 21 (.iconst 3) 1 22 := ⟨by decide +kernel, rfl⟩
theorem dX10_init_22 : dn cX10_init 22 (.newarray .int) 2 24 := ⟨by decide +kernel, rfl⟩
theorem dX10_init_24 : dn cX10_init 24 (.putfield 16) 3 27 := ⟨by decide +kernel, rfl⟩
theorem dX10_init_27 : dn cX10_init 27 (.aload_n 0) 1 28 := ⟨by decide +kernel, rfl⟩
theorem dX10_init_28 : dn cX10_init 28 (.bipush 121) 2 30 := ⟨by decide +kernel, rfl⟩
theorem dX10_init_30 : dn cX10_init 30 (.newarray .int) 2 32 := ⟨by decide +kernel, rfl⟩
theorem dX10_init_32 : dn cX10_init 32 (.putfield 19) 3 35 := ⟨by decide +kernel, rfl⟩
theorem dX10_init_35 : dn cX10_init 35 (.aload_n 0) 1 36 := ⟨by decide +kernel, rfl⟩
theorem dX10_init_36 : dn cX10_init 36 (.sipush 168) 3 39 := ⟨by decide +kernel, rfl⟩
theorem dX10_init_39 : dn cX10_init 39 (.newarray .int) 2 41 := ⟨by decide +kernel, rfl⟩
theorem dX10_init_41 : dn cX10_init 41 (.putfield 22) 3 44 := ⟨by decide +kernel, rfl⟩
theorem dX10_init_44 : dn cX10_init 44 (.aload_n 0) 1 45 := ⟨by decide +kernel, rfl⟩
theorem dX10_init_45 : dn cX10_init 45 (.bipush 24) 2 47 := ⟨by decide +kernel, rfl⟩
theorem dX10_init_47 : dn cX10_init 47 (.newarray .int) 2 49 := ⟨by decide +kernel, rfl⟩
theorem dX10_init_49 : dn cX10_init 49 (.putfield 25) 3 52 := ⟨by decide +kernel, rfl⟩
theorem dX10_init_52 : dn cX10_init 52 (.aload_n 0) 1 53 := ⟨by decide +kernel, rfl⟩
theorem dX10_init_53 : dn cX10_init 53 (.sipush 264) 3 56 := ⟨by decide +kernel, rfl⟩
theorem dX10_init_56 : dn cX10_init 56 (.newarray .int) 2 58 := ⟨by decide +kernel, rfl⟩
theorem dX10_init_58 : dn cX10_init 58 (.putfield 28) 3 61 := ⟨by decide +kernel, rfl⟩
theorem dX10_init_61 : dn cX10_init 61 (.aload_n 0) 1 62 := ⟨by decide +kernel, rfl⟩
theorem dX10_init_62 : dn cX10_init 62 (.bipush 12) 2 64 := ⟨by decide +kernel, rfl⟩
theorem dX10_init_64 : dn cX10_init 64 (.newarray .int) 2 66 := ⟨by decide +kernel, rfl⟩
theorem dX10_init_66 : dn cX10_init 66 (.putfield 31) 3 69 := ⟨by decide +kernel, rfl⟩
theorem dX10_init_69 : dn cX10_init 69 (.aload_n 0) 1 70 := ⟨by decide +kernel, rfl⟩
theorem dX10_init_70 : dn cX10_init 70 (.bipush 7) 2 72 := ⟨by decide +kernel, rfl⟩
theorem dX10_init_72 : dn cX10_init 72 (.newarray .int) 2 74 := ⟨by decide +kernel, rfl⟩
theorem dX10_init_74 : dn cX10_init 74 (.putfield 34) 3 77 := ⟨by decide +kernel, rfl⟩
theorem dX10_init_77 : dn cX10_init 77 (.aload_n 0) 1 78 := ⟨by decide +kernel, rfl⟩
theorem dX10_init_78 : dn cX10_init 78 (.bipush 7) 2 80 := ⟨by decide +kernel, rfl⟩
theorem dX10_init_80 : dn cX10_init 80 (.newarray .int) 2 82 := ⟨by decide +kernel, rfl⟩
theorem dX10_init_82 : dn cX10_init 82 (.putfield 37) 3 85 := ⟨by decide +kernel, rfl⟩
theorem dX10_init_85 : dn cX10_init 85 (.aload_n 0) 1 86 := ⟨by decide +kernel, rfl⟩
theorem dX10_init_86 : dn cX10_init 86 (.bipush 121) 2 88 := ⟨by decide +kernel, rfl⟩
theorem dX10_init_88 : dn cX10_init 88 (.newarray .int) 2 90 := ⟨by decide +kernel, rfl⟩
theorem dX10_init_90 : dn cX10_init 90 (.putfield 40) 3 93 := ⟨by decide +kernel, rfl⟩
theorem dX10_init_93 : dn cX10_init 93 (.aload_n 0) 1 94 := ⟨by decide +kernel, rfl⟩
theorem dX10_init_94 : dn cX10_init 94 (.sipush 726) 3 97 := ⟨by decide +kernel, rfl⟩
theorem dX10_init_97 : dn cX10_init 97 (.newarray .int) 2 99 := ⟨by decide +kernel, rfl⟩
theorem dX10_init_99 : dn cX10_init 99 (.putfield 43) 3 102 := ⟨by decide +kernel, rfl⟩
theorem dX10_init_102 : dn cX10_init 102 (.aload_n 0) 1 103 := ⟨by decide +kernel, rfl⟩
theorem dX10_init_103 : dn cX10_init 103 (.bipush 20) 2 105 := ⟨by decide +kernel, rfl⟩
theorem dX10_init_105 : dn cX10_init 105 (.newarray .int) 2 107 := ⟨by decide +kernel, rfl⟩
theorem dX10_init_107 : dn cX10_init 107 (.putfield 46) 3 110 := ⟨by decide +kernel, rfl⟩
theorem dX10_init_110 : dn cX10_init 110 (.aload_n 0) 1 111 := ⟨by decide +kernel, rfl⟩
theorem dX10_init_111 : dn cX10_init 111 (.bipush 20) 2 113 := ⟨by decide +kernel, rfl⟩
theorem dX10_init_113 : dn cX10_init 113 (.newarray .int) 2 115 := ⟨by decide +kernel, rfl⟩
theorem dX10_init_115 : dn cX10_init 115 (.putfield 49) 3 118 := ⟨by decide +kernel, rfl⟩
theorem dX10_init_118 : dn cX10_init 118 (.aload_n 0) 1 119 := ⟨by decide +kernel, rfl⟩
theorem dX10_init_119 : dn cX10_init 119 (.bipush 96) 2 121 := ⟨by decide +kernel, rfl⟩
theorem dX10_init_121 : dn cX10_init 121 (.newarray .int) 2 123 := ⟨by decide +kernel, rfl⟩
theorem dX10_init_123 : dn cX10_init 123 (.putfield 52) 3 126 := ⟨by decide +kernel, rfl⟩
theorem dX10_init_126 : dn cX10_init 126 (.aload_n 0) 1 127 := ⟨by decide +kernel, rfl⟩
theorem dX10_init_127 : dn cX10_init 127 (.sipush 362) 3 130 := ⟨by decide +kernel, rfl⟩
theorem dX10_init_130 : dn cX10_init 130 (.newarray .int) 2 132 := ⟨by decide +kernel, rfl⟩
theorem dX10_init_132 : dn cX10_init 132 (.putfield 55) 3 135 := ⟨by decide +kernel, rfl⟩
theorem dX10_init_135 : dn cX10_init 135 (.aload_n 0) 1 136 := ⟨by decide +kernel, rfl⟩
theorem dX10_init_136 : dn cX10_init 136 (.iconst 2) 1 137 := ⟨by decide +kernel, rfl⟩
theorem dX10_init_137 : dn cX10_init 137 (.newarray .boolean) 2 139 := ⟨by decide +kernel, rfl⟩
theorem dX10_init_139 : dn cX10_init 139 (.putfield 58) 3 142 := ⟨by decide +kernel, rfl⟩
theorem dX10_init_142 : dn cX10_init 142 (.aload_n 0) 1 143 := ⟨by decide +kernel, rfl⟩
theorem dX10_init_143 : dn cX10_init 143 (.getfield 16) 3 146 := ⟨by decide +kernel, rfl⟩
theorem dX10_init_146 : dn cX10_init 146 (.iconst 0) 1 147 := ⟨by decide +kernel, rfl⟩
theorem dX10_init_147 : dn cX10_init 147 (.iconst 1) 1 148 := ⟨by decide +kernel, rfl⟩
theorem dX10_init_148 : dn cX10_init 148 (.iastore) 1 149 := ⟨by decide +kernel, rfl⟩
theorem dX10_init_149 : dn cX10_init 149 (.aload_n 0) 1 150 := ⟨by decide +kernel, rfl⟩
theorem dX10_init_150 : dn cX10_init 150 (.getfield 16) 3 153 := ⟨by decide +kernel, rfl⟩
theorem dX10_init_153 : dn cX10_init 153 (.iconst 1) 1 154 := ⟨by decide +kernel, rfl⟩
theorem dX10_init_154 : dn cX10_init 154 (.iconst 2) 1 155 := ⟨by decide +kernel, rfl⟩
theorem dX10_init_155 : dn cX10_init 155 (.iastore) 1 156 := ⟨by decide +kernel, rfl⟩
theorem dX10_init_156 : dn cX10_init 156 (.aload_n 0) 1 157 := ⟨by decide +kernel, rfl⟩
theorem dX10_init_157 : dn cX10_init 157 (.getfield 16) 3 160 := ⟨by decide +kernel, rfl⟩
theorem dX10_init_160 : dn cX10_init 160 (.iconst 2) 1 161 := ⟨by decide +kernel, rfl⟩
theorem dX10_init_161 : dn cX10_init 161 (.iconst 1) 1 162 := ⟨by decide +kernel, rfl⟩
theorem dX10_init_162 : dn cX10_init 162 (.iastore) 1 163 := ⟨by decide +kernel, rfl⟩
theorem dX10_init_163 : dn cX10_init 163 (.return_) 1 164 := ⟨by decide +kernel, rfl⟩
