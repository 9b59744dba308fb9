/-! worlds under construction: the first nn cells of the layout, with contents E -/
def updE (E : Nat → va_E) (k : Nat) (x : va_E) : Nat → va_E := fun j => if j = k then x else E j
theorem updE_s (E : Nat → va_E) (k : Nat) (x : va_E) : updE E k x k = x := if_pos rfl
theorem updE_n {E : Nat → va_E} {k j : Nat} {x : va_E} (h : j ≠ k) : updE E k x j = E j := if_neg h
def wsB (g : GG) (n : Nat) (E : Nat → va_E) : va_W := (List.range n).map fun o => (ad g o, E o)
theorem wsB_at (g : GG) (E : Nat → va_E) {n o : Nat} (h : o < n) : (wsB g n E)[o]? = some (ad g o, E o) := by
  unfold wsB
  rw [List.getElem?_map, List.getElem?_range h]
  rfl
theorem wsB_lt {g : GG} {E : Nat → va_E} {n i : Nat} {p : Nat × va_E} (h : (wsB g n E)[i]? = some p) : i < n := by
  have := (List.getElem?_eq_some_iff.mp h).1
  simpa [wsB] using this
theorem wsB_D (g : GG) (n : Nat) (E : Nat → va_E) : va_D (reg g) (wsB g n E) := by
  refine ⟨fun i j p q hp hq e => ?_, fun k q hq => ?_⟩
  · rw [wsB_at g E (wsB_lt hp)] at hp
    rw [wsB_at g E (wsB_lt hq)] at hq
    cases hp
    cases hq
    exact Nat.add_left_cancel e
  · rw [wsB_at g E (wsB_lt hq)] at hq
    cases hq
    exact Nat.le_add_right _ _
theorem wsB_cong {g : GG} {n : Nat} {E E' : Nat → va_E} (h : ∀ o, o < n → E o = E' o) : wsB g n E = wsB g n E' := by
  unfold wsB
  refine List.map_congr_left fun o ho => ?_
  rw [h o (List.mem_range.mp ho)]
theorem wsB_app (g : GG) (n : Nat) (E : Nat → va_E) (x : va_E) : wsB g n E ++ [(ad g n, x)] = wsB g (n + 1) (updE E n x) := by
  show _ = (List.range (n + 1)).map _
  rw [List.range_succ, List.map_append]
  show _ = _ ++ [(ad g n, updE E n x n)]
  rw [updE_s]
  refine congrArg (· ++ _) ?_
  exact wsB_cong fun o ho => (updE_n (by omega)).symm
theorem wsB_set {g : GG} {n o : Nat} {E : Nat → va_E} {x : va_E} : (wsB g n E).set o (ad g o, x) = wsB g n (updE E o x) := by
  apply List.ext_getElem?
  intro i
  rw [List.getElem?_set]
  by_cases h : o = i
  · subst h
    rw [if_pos rfl]
    by_cases q : o < n
    · rw [if_pos (by simpa [wsB] using q), wsB_at g _ q, updE_s]
    · rw [if_neg (by simpa [wsB] using q)]
      exact (List.getElem?_eq_none (by simpa [wsB] using q)).symm
  · rw [if_neg h]
    by_cases q : i < n
    · rw [wsB_at g _ q, wsB_at g _ q, updE_n (fun z => h z.symm)]
    · rw [List.getElem?_eq_none (by simpa [wsB] using q), List.getElem?_eq_none (by simpa [wsB] using q)]
theorem va_Nw.warmO {t : FieldType} {s U : State} (hW : s.WarmedH U.vm) (hZ : va_Nw (.arrayOver t) s) : va_Nw (.arrayOver t) U := va_tabs rfl (rfl : (s.setVm U.vm).vm = U.vm) (by rw [Cond.arrayOver_setVmC hW.alike]; exact hZ)
/-- the first settings, as they are copied -/
def fstC (g : GG) (H : Heap) : Prop := ∃ cell : Cell, H[g.2.2.2.2.2.2]? = some cell ∧ (∀ k, cell.vm ≠ .statics k) ∧ cell.vm ≠ .unknown ∧ cell.cls = g.2.2.2.2.1 0 ∧ cell.slots = #[.int 1, .int 2, .int 1] ∧ ¬ reg g g.2.2.2.2.2.2
def xtr (g : GG) (U : State) (H : Heap) : Prop := va_Nw (.castable "[I" "java/lang/Cloneable") U ∧ va_Nw (.arrayOver (.object RX3)) U ∧ va_Nw (.arrayOver (.object RX6)) U ∧ va_Nw (.arrayOver (.object RX8)) U ∧ va_Nw (.arrayOver (.array .int)) U ∧ va_Nw (.methodLinkNest RX7 17 yX6_init "RuledTables") U ∧ fstC g H
theorem xtr.moved {g : GG} {u U : State} {H : Heap} (hW : u.WarmedH U.vm) (h : xtr g u H) : xtr g U H := ⟨h.1.warmC hW, h.2.1.warmO hW, h.2.2.1.warmO hW, h.2.2.2.1.warmO hW, h.2.2.2.2.1.warmO hW, h.2.2.2.2.2.1.warmM hW, h.2.2.2.2.2.2⟩
theorem xtr.same {g : GG} {u U : State} {H : Heap} (hvm : u.vm = U.vm) (h : xtr g u H) : xtr g U H := ⟨h.1.same rfl hvm, h.2.1.same rfl hvm, h.2.2.1.same rfl hvm, h.2.2.2.1.same rfl hvm, h.2.2.2.2.1.same rfl hvm, h.2.2.2.2.2.1.same rfl hvm, h.2.2.2.2.2.2⟩
theorem fstC.kept {g : GG} {H H1 : Heap} (h : fstC g H) (hq : ∀ a : Nat, a < H.size → ¬ reg g a → H1[a]? = H[a]?) : fstC g H1 := by
  obtain ⟨cell, a, b, c, d, e, f⟩ := h
  exact ⟨cell, (hq _ (Array.getElem?_eq_some_iff.mp a).1 f).trans a, b, c, d, e, f⟩
theorem xtr.kept {g : GG} {U : State} {H H1 : Heap} (h : xtr g U H) (hq : ∀ a : Nat, a < H.size → ¬ reg g a → H1[a]? = H[a]?) : xtr g U H1 := ⟨h.1, h.2.1, h.2.2.1, h.2.2.2.1, h.2.2.2.2.1, h.2.2.2.2.2.1, h.2.2.2.2.2.2.kept hq⟩
def wdB (g : GG) (n : Nat) (E : Nat → va_E) (U : State) : Prop := va_P (gD g) vwCl (wsB g n E) U.heap ∧ U.heap.size = ad g n ∧ va_K (gD g) vwCl (tys_ g) U ∧ stt g U U.heap ∧ xtr g U U.heap
theorem wdB_blind {g : GG} {n : Nat} {E : Nat → va_E} {av : List Value} : FrameBlind (va_Pc av (wdB g n E)) := fun a U g9 mk q => by
  obtain ⟨q0, qP, qz, qK, qS, qx⟩ := q
  exact ⟨q0, qP, qz, va_K.moved (u := U) (U := U.calling g9 mk a) (Vm.Alike.refl U.vm) qK, stt.same (u := U) (U := U.calling g9 mk a) rfl qS, xtr.same (u := U) (U := U.calling g9 mk a) rfl qx⟩
abbrev rmb (fr lo mc ms : Nat) : Room := { frames := fr, cells := mc, slots := ms, locals := lo }
/-- a constructor's contract -/
abbrev Ctb (g : GG) (y : MethodName) (cc : ByteArray) (nL : Nat) (fr lo mc ms : Nat) (av : List Value) (n : Nat) (E : Nat → va_E) (n' : Nat) (post : (Nat → va_E) → Prop) : Prop := Met g.1 y (cw_ y cc nL none) (rmb fr lo mc ms) (va_Pc av (wdB g n E)) (va_Qv post (wdB g n') (reg g)) mc ms (reg g)
def BW (g : GG) (cc : ByteArray) (nL : Nat) (R : Room) (own : String) (Qc : Array Value → State → Outcome → State → Prop) (mc ms pc : Nat) (lv : List (Option Value)) (st : List Value) (nn : Nat) (E : Nat → va_E) (cu su : Nat) : Prop :=
  ∀ (p : Program) (e : Env) (s : State) (m : MethodId) (args : Array Value) (below : List Frame) (meth : Method) (c : Code) (H : Heap) (locs : List Loc) (ls : Array Slot),
    Fx g p s m args meth c cc nL none own → (meth.name = "<init>" ∧ g.2.1 ≤ s.heap.size ∧ xtr g s s.heap) → va_P (gD g) vwCl (wsB g nn E) H → H.size = ad g nn → va_S (reg g) s.heap H locs → lvp ls nL lv →
    W p g.1 e R s m args below meth c H locs cu su (MQ below Qc args s mc ms (reg g)) (F0 m pc ls st)
section BWr
variable {g : GG} {cc : ByteArray} {nL : Nat} {R : Room} {own : String} {Qc : Array Value → State → Outcome → State → Prop} {mc ms pc pc' tgt : Nat} {lv : List (Option Value)} {st : List Value} {nn : Nat} {E : Nat → va_E} {cu su : Nat}
theorem Fx.wdB {p : Program} {s : State} {m : MethodId} {args : Array Value} {meth : Method} {c : Code} {H : Heap} {locs : List Loc} (F : Fx g p s m args meth c cc nL none own) (hx : xtr g s s.heap) (hP : va_P (gD g) vwCl (wsB g nn E) H) (hz : H.size = ad g nn) (hS : va_S (reg g) s.heap H locs) {U : State} (hU : U.heap = H) (hW : s.WarmedH U.vm) : _root_.Jvm.Pilot.CRuledTablesLaw_law_r1620_724e84.wdB g nn E U := ⟨by rw [hU]; exact hP, by rw [hU]; exact hz, va_K.moved hW.alike F.2.2.2.2.2.2.2.1, by rw [hU]; exact (F.2.2.2.2.2.2.2.2.moved hW).kept hS.2.1, by rw [hU]; exact (hx.moved hW).kept hS.2.1⟩
theorem bw_iconst {n : Int} (hd : dn cc pc (.iconst n) 1 pc') (k : BW g cc nL R own Qc mc ms pc' lv (.int (Int32.ofInt n) :: st) nn E cu su) : BW g cc nL R own Qc mc ms pc lv st nn E cu su := by
  obtain ⟨hd, rfl⟩ := hd
  intro p e s m args below meth c H locs ls F hY hP hz hS hl
  exact lv_iconst F.1 F.2.1 hd rfl (k p e s m args below meth c H locs ls F hY hP hz hS hl)
theorem bw_bipush {n : Int} (hd : dn cc pc (.bipush n) 2 pc') (k : BW g cc nL R own Qc mc ms pc' lv (.int ((Int8.ofInt n).toInt32) :: st) nn E cu su) : BW g cc nL R own Qc mc ms pc lv st nn E cu su := by
  obtain ⟨hd, rfl⟩ := hd
  intro p e s m args below meth c H locs ls F hY hP hz hS hl
  exact lv_bipush F.1 F.2.1 hd rfl (k p e s m args below meth c H locs ls F hY hP hz hS hl)
theorem bw_sipush {n : Int} (hd : dn cc pc (.sipush n) 3 pc') (k : BW g cc nL R own Qc mc ms pc' lv (.int ((Int16.ofInt n).toInt32) :: st) nn E cu su) : BW g cc nL R own Qc mc ms pc lv st nn E cu su := by
  obtain ⟨hd, rfl⟩ := hd
  intro p e s m args below meth c H locs ls F hY hP hz hS hl
  exact lv_sipush F.1 F.2.1 hd rfl (k p e s m args below meth c H locs ls F hY hP hz hS hl)
theorem bw_iadd {x y : Int32} (hd : dn cc pc .iadd 1 pc') (k : BW g cc nL R own Qc mc ms pc' lv (.int (x + y) :: st) nn E cu su) : BW g cc nL R own Qc mc ms pc lv (.int y :: .int x :: st) nn E cu su := by
  obtain ⟨hd, rfl⟩ := hd
  intro p e s m args below meth c H locs ls F hY hP hz hS hl
  exact lv_iadd F.1 F.2.1 hd  (k p e s m args below meth c H locs ls F hY hP hz hS hl)
theorem bw_isub {x y : Int32} (hd : dn cc pc .isub 1 pc') (k : BW g cc nL R own Qc mc ms pc' lv (.int (x - y) :: st) nn E cu su) : BW g cc nL R own Qc mc ms pc lv (.int y :: .int x :: st) nn E cu su := by
  obtain ⟨hd, rfl⟩ := hd
  intro p e s m args below meth c H locs ls F hY hP hz hS hl
  exact lv_isub F.1 F.2.1 hd  (k p e s m args below meth c H locs ls F hY hP hz hS hl)
theorem bw_imul {x y : Int32} (hd : dn cc pc .imul 1 pc') (k : BW g cc nL R own Qc mc ms pc' lv (.int (x * y) :: st) nn E cu su) : BW g cc nL R own Qc mc ms pc lv (.int y :: .int x :: st) nn E cu su := by
  obtain ⟨hd, rfl⟩ := hd
  intro p e s m args below meth c H locs ls F hY hP hz hS hl
  exact lv_imul F.1 F.2.1 hd  (k p e s m args below meth c H locs ls F hY hP hz hS hl)
theorem bw_idiv {x y : Int32} (hd : dn cc pc .idiv 1 pc') (hne : ¬ y = 0) (k : BW g cc nL R own Qc mc ms pc' lv (.int (x / y) :: st) nn E cu su) : BW g cc nL R own Qc mc ms pc lv (.int y :: .int x :: st) nn E cu su := by
  obtain ⟨hd, rfl⟩ := hd
  intro p e s m args below meth c H locs ls F hY hP hz hS hl
  exact lv_idiv F.1 F.2.1 hd hne (k p e s m args below meth c H locs ls F hY hP hz hS hl)
theorem bw_dup {va : Value} (hd : dn cc pc .dup 1 pc') (hv : va.category = 1) (k : BW g cc nL R own Qc mc ms pc' lv (va :: va :: st) nn E cu su) : BW g cc nL R own Qc mc ms pc lv (va :: st) nn E cu su := by
  obtain ⟨hd, rfl⟩ := hd
  intro p e s m args below meth c H locs ls F hY hP hz hS hl
  exact lv_dup F.1 F.2.1 hd hv (k p e s m args below meth c H locs ls F hY hP hz hS hl)
theorem bw_aload_n {i : Fin 4} {x : Nat} (hd : dn cc pc (.aload_n i) 1 pc') (hx : lv[(i : Nat)]? = some (some (.ref x))) (k : BW g cc nL R own Qc mc ms pc' lv (.ref x :: st) nn E cu su) : BW g cc nL R own Qc mc ms pc lv st nn E cu su := by
  obtain ⟨hd, rfl⟩ := hd
  intro p e s m args below meth c H locs ls F hY hP hz hS hl
  exact lv_aload_n F.1 F.2.1 hd rfl (hl.2.2 _ _ hx).1 (k p e s m args below meth c H locs ls F hY hP hz hS hl)
theorem bw_iload_n {i : Fin 4} {x : Int32} (hd : dn cc pc (.iload_n i) 1 pc') (hx : lv[(i : Nat)]? = some (some (.int x))) (k : BW g cc nL R own Qc mc ms pc' lv (.int x :: st) nn E cu su) : BW g cc nL R own Qc mc ms pc lv st nn E cu su := by
  obtain ⟨hd, rfl⟩ := hd
  intro p e s m args below meth c H locs ls F hY hP hz hS hl
  exact lv_iload_n F.1 F.2.1 hd rfl (hl.2.2 _ _ hx).1 (k p e s m args below meth c H locs ls F hY hP hz hS hl)
theorem bw_istore_n {i : Fin 4} {x : Int32} (hd : dn cc pc (.istore_n i) 1 pc') (hn : (i : Nat) < nL) (k : BW g cc nL R own Qc mc ms pc' (lv.set (i : Nat) (some (.int x))) st nn E cu su) : BW g cc nL R own Qc mc ms pc lv (.int x :: st) nn E cu su := by
  obtain ⟨hd, rfl⟩ := hd
  intro p e s m args below meth c H locs ls F hY hP hz hS hl
  exact lv_istore_n F.1 F.2.1 hd rfl hl.has hn rfl (fun ls' h' => k p e s m args below meth c H locs ls' F hY hP hz hS (hl.set rfl h'))
theorem bw_iinc {i : Nat} {n : Int} {x : Int32} (hd : dn cc pc (.iinc i n) 3 pc') (hx : lv[i]? = some (some (.int x))) (hn : i < nL) (k : BW g cc nL R own Qc mc ms pc' (lv.set i (some (.int (x + Int32.ofInt n)))) st nn E cu su) : BW g cc nL R own Qc mc ms pc lv st nn E cu su := by
  obtain ⟨hd, rfl⟩ := hd
  intro p e s m args below meth c H locs ls F hY hP hz hS hl
  obtain ⟨j, hj⟩ := List.getElem?_of_mem (lvL_mem (q := (i, .int x)).mpr hx)
  exact lv_iinc F.1 F.2.1 hd hl.has hj rfl hn rfl (fun ls' h' => k p e s m args below meth c H locs ls' F hY hP hz hS (hl.set rfl h'))
theorem bw_goto {off : Int} (hd : db cc pc (.goto off) 3 pc' off tgt) (k : BW g cc nL R own Qc mc ms tgt lv st nn E cu su) : BW g cc nL R own Qc mc ms pc lv st nn E cu su := by
  obtain ⟨hd, rfl, ht⟩ := hd
  intro p e s m args below meth c H locs ls F hY hP hz hS hl
  exact lv_goto F.1 F.2.1 hd ht (k p e s m args below meth c H locs ls F hY hP hz hS hl)
theorem bw_icmp_ge {x y : Int32} {off : Int} (hd : db cc pc (.if_icmp .ge off) 3 pc' off tgt) (kt : y ≤ x → BW g cc nL R own Qc mc ms tgt lv st nn E cu su) (kf : ¬ y ≤ x → BW g cc nL R own Qc mc ms pc' lv st nn E cu su) : BW g cc nL R own Qc mc ms pc lv (.int y :: .int x :: st) nn E cu su := by
  obtain ⟨hd, rfl, ht⟩ := hd
  intro p e s m args below meth c H locs ls F hY hP hz hS hl
  exact lv_icmp_ge F.1 F.2.1 hd ht (fun q => kt q p e s m args below meth c H locs ls F hY hP hz hS hl) (fun q => kf q p e s m args below meth c H locs ls F hY hP hz hS hl)
theorem bw_eq {x y : Int32} (h : x = y) (k : BW g cc nL R own Qc mc ms pc lv (.int y :: st) nn E cu su) : BW g cc nL R own Qc mc ms pc lv (.int x :: st) nn E cu su := h ▸ k
theorem bw_eqr {a b : Nat} (h : a = b) (k : BW g cc nL R own Qc mc ms pc lv (.ref (ad g b) :: st) nn E cu su) : BW g cc nL R own Qc mc ms pc lv (.ref (ad g a) :: st) nn E cu su := h ▸ k
theorem bw_ic {n : Int} (v : Int32) (hd : dn cc pc (.iconst n) 1 pc') (hv : Int32.ofInt n = v) (k : BW g cc nL R own Qc mc ms pc' lv (.int v :: st) nn E cu su) : BW g cc nL R own Qc mc ms pc lv st nn E cu su := bw_iconst hd (hv ▸ k)
theorem bw_bi {n : Int} (v : Int32) (hd : dn cc pc (.bipush n) 2 pc') (hv : (Int8.ofInt n).toInt32 = v) (k : BW g cc nL R own Qc mc ms pc' lv (.int v :: st) nn E cu su) : BW g cc nL R own Qc mc ms pc lv st nn E cu su := bw_bipush hd (hv ▸ k)
theorem bw_si {n : Int} (v : Int32) (hd : dn cc pc (.sipush n) 3 pc') (hv : (Int16.ofInt n).toInt32 = v) (k : BW g cc nL R own Qc mc ms pc' lv (.int v :: st) nn E cu su) : BW g cc nL R own Qc mc ms pc lv st nn E cu su := bw_sipush hd (hv ▸ k)
theorem bw_inc {i : Nat} {n : Int} {x : Int32} (v : Int32) (hd : dn cc pc (.iinc i n) 3 pc') (hx : lv[i]? = some (some (.int x))) (hn : i < nL) (hv : x + Int32.ofInt n = v) (k : BW g cc nL R own Qc mc ms pc' (lv.set i (some (.int v))) st nn E cu su) : BW g cc nL R own Qc mc ms pc lv st nn E cu su := bw_iinc hd hx hn (hv ▸ k)
theorem bw_icmp_geN {x y : Int32} {off : Int} {a b : Nat} (hd : db cc pc (.if_icmp .ge off) 3 pc' off tgt) (ex : x = nI a) (ey : y = nI b) (ha : a < 2 ^ 31) (hb : b < 2 ^ 31) (kt : b ≤ a → BW g cc nL R own Qc mc ms tgt lv st nn E cu su) (kf : a < b → BW g cc nL R own Qc mc ms pc' lv st nn E cu su) : BW g cc nL R own Qc mc ms pc lv (.int y :: .int x :: st) nn E cu su := by
  subst ex
  subst ey
  exact bw_icmp_ge hd (fun q => kt ((nI_leI hb ha).mp q)) (fun q => kf (Nat.not_le.mp fun z => q ((nI_leI hb ha).mpr z)))
theorem bw_max {x y : Int32} {idx : Nat} (hd : dn cc pc (.invokestatic idx) 3 pc') (hw : Cond.methodLink own idx Lib.Math.max.name ∈ wtb) (hR : 1 ≤ R.frames ∧ (st.map fun v => v.category).sum + 13 ≤ R.locals) (k : BW g cc nL R own Qc mc ms pc' lv (.int (if x < y then y else x) :: st) nn E cu su) : BW g cc nL R own Qc mc ms pc lv (.int y :: .int x :: st) nn E cu su := by
  obtain ⟨hd, rfl⟩ := hd
  intro p e s m args below meth c H locs ls F hY hP hz hS hl
  exact va_mmax F.1 F.2.1 (F.2.2.2.1.trans hl.1.symm) F.2.2.2.2.1 (F.2.2.2.2.2.1 _ hw) (F.2.2.2.2.2.1 _ kM_max_s) (F.2.2.2.2.2.1 _ kM_i) (F.2.2.2.2.2.1 _ kM_max_c) hR.1 hR.2 (Nat.zero_le _) (Nat.zero_le _) hd (k p e s m args below meth c H locs ls F hY hP hz hS hl)
theorem bw_E {E' : Nat → va_E} (h : ∀ o, o < nn → E o = E' o) (k : BW g cc nL R own Qc mc ms pc lv st nn E' cu su) : BW g cc nL R own Qc mc ms pc lv st nn E cu su := by
  intro p e s m args below meth c H locs ls F hY hP hz hS hl
  rw [wsB_cong h] at hP
  exact k p e s m args below meth c H locs ls F hY hP hz hS hl
theorem bt_of {y : MethodName} {fr lo : Nat} {av : List Value} {post : (Nat → va_E) → Prop} {n' : Nat} (ho : y.cls = own) (hyn : y.name = "<init>") (hy : plainName y.cls = true) (hav : (lg_sl av).length ≤ nL) (hc : ∀ u ∈ av, u.category = 1) (hlv : ∀ (i : Nat) (v : Value), lv[i]? = some (some v) → av[i]? = some v) (h : BW g cc nL (rmb fr lo mc ms) own (va_Qv post (wdB g n') (reg g)) mc ms 0 lv [] nn E 0 0) : Ctb g y cc nL fr lo mc ms av nn E n' post := by
  refine Met.ofW (cc := cc) (maxL := nL) (ret := none) hy rfl ?_
  intro p e s m args below meth c s₁ B hml hv
  obtain ⟨rfl, hP, hz, hK, hst, hx⟩ := hv
  have hts : ∀ w ∈ wtb, w.before av.toArray s = true := fun w hw => atoms_spec (ws := cw_ y cc nL none) B.pre w (List.mem_cons_of_mem _ hw)
  have hown : s.vm.findClass y.cls = some m.cls := findClass_of_methodNamed B.named
  have hl := lv_entry av (n := nL) hav
  rw [lg_entry_eq]
  generalize (lg_sl av ++ List.replicate (nL - (lg_sl av).length) Slot.unset).toArray = ls at hl ⊢
  refine h p e s m av.toArray below meth c s.heap [] ls ⟨B.exec, B.bytes, B.returns, hml, ho ▸ hown, hts, B.notSynchronized, hK, hst⟩ ⟨(name_of_methodNamed B.named B.method).1.trans hyn, by rw [hz]; exact Nat.le_add_right _ _, hx⟩ hP hz va_S.rf ⟨hl.1, hl.2.1, fun i v hv => ?_⟩
  have h1 := hlv i v hv
  have h2 := hl.2.2 _ (lv_args_mem av 0 i v hc h1)
  rw [Nat.zero_add] at h2
  exact ⟨h2, hc v (List.mem_of_getElem? h1)⟩
theorem bw_ret {post : (Nat → va_E) → Prop} (hd : dn cc pc .return_ 1 pc') (hcu : cu ≤ mc) (hsu : su ≤ ms) (h : post E) : BW g cc nL R own (va_Qv post (wdB g nn) (reg g)) mc ms pc lv [] nn E cu su := by
  obtain ⟨hd, -⟩ := hd
  intro p e s m args below meth c H locs ls F hY hP hz hS hl
  refine W.widen (k := mc) (n := ms) hcu hsu ?_
  exact W.vret F.1 F.2.1 F.2.2.1 (fun t ht hW => ⟨⟨E, rfl, h, F.wdB hY.2.2 hP hz hS ht hW⟩, hS.F ht⟩) hS.2.2 hd F.2.2.2.2.2.2.1
theorem bw_obj {o idx : Nat} (hd : dn cc pc (.invokespecial idx) 3 pc') (hw : Cond.methodLink own idx objectInit ∈ wtb) (hR : 1 ≤ R.frames) (hL : (st.map fun v => v.category).sum + 12 ≤ R.locals) (k : BW g cc nL R own Qc mc ms pc' lv st nn E cu su) : BW g cc nL R own Qc mc ms pc lv (.ref (ad g o) :: st) nn E cu su := by
  obtain ⟨hd, rfl⟩ := hd
  intro p e s m args below meth c H locs ls F hY hP hz hS hl
  refine W.objInit F.1 F.2.1 F.2.2.2.2.1 (F.2.2.2.2.2.1 _ hw) (F.2.2.2.2.2.1 _ kObj_i) (F.2.2.2.2.2.1 _ kObj_c) rfl (by rw [F.2.2.2.1]; exact hl.1) rfl hd hR (by show 2 * 0 + _ + 12 ≤ _; omega) ?_
  exact k p e s m args below meth c H locs ls F hY hP hz hS hl
theorem hkB {H H1 : Heap} (hP : va_P (gD g) vwCl (wsB g nn E) H) (o1 : ∀ q : Nat, q < H.size → H1[q]? = H[q]?) : va_P (gD g) vwCl (wsB g nn E) H1 := hP.kept (fun k x hx => o1 x.1 ((hP k x hx).lt))
theorem va_S.grow {s : State} {H H1 : Heap} {locs : List Loc} (hS : va_S (reg g) s.heap H locs) (z1 : H.size ≤ H1.size) (o1 : ∀ q : Nat, q < H.size → H1[q]? = H[q]?) : va_S (reg g) s.heap H1 locs := ⟨Nat.le_trans hS.1 z1, fun x h1 h2 => (o1 x (Nat.lt_of_lt_of_le h1 hS.1)).trans (hS.2.1 x h1 h2), hS.2.2⟩
theorem va_P.one {x : Nat × va_E} {H : Heap} (h : va_at (gD g) vwCl x H) : va_P (gD g) vwCl [x] H := fun k q hq => by
  have hz : k < 1 := (List.getElem?_eq_some_iff.mp hq).1
  rw [show k = 0 by omega] at hq
  cases hq
  exact h
theorem bw_new {C : String} {T : u_T} {N ci idx : Nat} {ty : Nat → FieldType} {fs : List Value} (hd : dn cc pc (.new idx) 3 pc') (hin : ∀ w ∈ u_ws C T N, w ∈ wtb) (hty : ∀ k, k < N → parseFieldDescriptor (T k).2.2.1 = some (ty k)) (hc : vwCl[ci]? = some (C, T, N)) (hfs : ∀ j, j < N → defaultValue (ty j) = vp_V fs j) (h1 : Cond.classLink own idx C ∈ wtb) (h2 : Cond.instantiable C N ∈ wtb) (h3 : Cond.initialized C ∈ wtb) (hcells : cu + 1 ≤ R.cells) (hslots : su + N ≤ R.slots) (k : BW g cc nL R own Qc mc ms pc' lv (.ref (ad g nn) :: st) (nn + 1) (updE E nn (.inr (ci, fs))) (cu + 1) (su + N)) : BW g cc nL R own Qc mc ms pc lv st nn E cu su := by
  obtain ⟨hd, rfl⟩ := hd
  intro p e s m args below meth c H locs ls F hY hP hz hS hl
  have hK := F.2.2.2.2.2.2.2.1
  have hKn := hK.1 ci _ hc
  refine W.newcK F.1 F.2.1 F.2.2.2.2.1 (F.2.2.2.2.2.1 _ h1) (F.2.2.2.2.2.1 _ h2) (F.2.2.2.2.2.1 _ h3) rfl hd hcells hslots hKn.2.1 hz fun H1 kC hkC e1 z1 o1 => ?_
  have o1' : ∀ q : Nat, q < H.size → H1[q]? = H[q]? := fun q hq => o1 q (by omega)
  refine k p e s m args below meth c H1 locs ls F hY ?_ z1 (hS.grow (by omega) o1') hl
  rw [← wsB_app]
  exact (hkB hP o1').app (va_P.one ⟨_, hc, (u_born ty F.2.2.2.2.2.1 hin hKn hkC e1 hty).to hfs⟩)
theorem bw_newa_int {x : Int32} {N : Nat} (hd : dn cc pc (.newarray .int) 2 pc') (ex : x = nI N) (hN : N < 2 ^ 20) (hcells : cu + 1 ≤ R.cells) (hslots : su + N ≤ R.slots) (k : BW g cc nL R own Qc mc ms pc' lv (.ref (ad g nn) :: st) (nn + 1) (updE E nn (.inl (g.2.2.2.2.1 0, N, .inl (fun _ => 0)))) (cu + 1) (su + N)) : BW g cc nL R own Qc mc ms pc lv (.int x :: st) nn E cu su := by
  obtain ⟨hd, rfl⟩ := hd
  subst ex
  intro p e s m args below meth c H locs ls F hY hP hz hS hl
  have hK := F.2.2.2.2.2.2.2.1
  have hid : s.vm.findClass ("[" ++ (FieldType.int).toString) = some (g.2.2.2.2.1 0) := (hK.2 0 _ rfl).2
  refine va_newaK (atype := .int) F.1 F.2.1 (F.2.2.2.2.2.1 _ kArrI) rfl hd rfl (nI_pos (by omega)) (nI_clamp (by omega)) (by show N * 4 ≤ _; omega) hcells hslots hz fun H1 cA e1 z1 o1 hAr hNm => ?_
  obtain rfl : cA = g.2.2.2.2.1 0 := Option.some.inj (hNm.symm.trans hid)
  have o1' : ∀ q : Nat, q < H.size → H1[q]? = H[q]? := fun q hq => o1 q (by omega)
  refine k p e s m args below meth c H1 locs ls F hY ?_ z1 (hS.grow (by omega) o1') hl
  rw [← wsB_app]
  exact (hkB hP o1').app (va_P.one e1)
theorem bw_newa_bool {x : Int32} {N : Nat} (hd : dn cc pc (.newarray .boolean) 2 pc') (ex : x = nI N) (hN : N < 2 ^ 20) (hcells : cu + 1 ≤ R.cells) (hslots : su + N ≤ R.slots) (k : BW g cc nL R own Qc mc ms pc' lv (.ref (ad g nn) :: st) (nn + 1) (updE E nn (.inl (g.2.2.2.2.1 1, N, .inl (fun _ => 0)))) (cu + 1) (su + N)) : BW g cc nL R own Qc mc ms pc lv (.int x :: st) nn E cu su := by
  obtain ⟨hd, rfl⟩ := hd
  subst ex
  intro p e s m args below meth c H locs ls F hY hP hz hS hl
  have hK := F.2.2.2.2.2.2.2.1
  have hid : s.vm.findClass ("[" ++ (FieldType.boolean).toString) = some (g.2.2.2.2.1 1) := (hK.2 1 _ rfl).2
  refine va_newaK (atype := .boolean) F.1 F.2.1 (F.2.2.2.2.2.1 _ kArrZ) rfl hd rfl (nI_pos (by omega)) (nI_clamp (by omega)) (by show N * 1 ≤ _; omega) hcells hslots hz fun H1 cA e1 z1 o1 hAr hNm => ?_
  obtain rfl : cA = g.2.2.2.2.1 1 := Option.some.inj (hNm.symm.trans hid)
  have o1' : ∀ q : Nat, q < H.size → H1[q]? = H[q]? := fun q hq => o1 q (by omega)
  refine k p e s m args below meth c H1 locs ls F hY ?_ z1 (hS.grow (by omega) o1') hl
  rw [← wsB_app]
  exact (hkB hP o1').app (va_P.one e1)
theorem bw_anew_Page {x : Int32} {N idx : Nat} (hd : dn cc pc (.anewarray idx) 3 pc') (h1 : Cond.classLink own idx RX3 ∈ wtb) (ex : x = nI N) (hN : N < 2 ^ 20) (hcells : cu + 1 ≤ R.cells) (hslots : su + N ≤ R.slots) (k : BW g cc nL R own Qc mc ms pc' lv (.ref (ad g nn) :: st) (nn + 1) (updE E nn (.inl (g.2.2.2.2.1 2, N, .inr (.inr (.inr (.inr (fun _ => none))))))) (cu + 1) (su + N)) : BW g cc nL R own Qc mc ms pc lv (.int x :: st) nn E cu su := by
  obtain ⟨hd, rfl⟩ := hd
  subst ex
  intro p e s m args below meth c H locs ls F hY hP hz hS hl
  have hK := F.2.2.2.2.2.2.2.1
  obtain ⟨kA0, comp0, -, -, -, hid⟩ : ∃ (kA : Class) (comp : ClassId), s.vm.classes[g.2.2.2.2.1 2]? = some kA ∧ kA.kind = .array comp (.object RX3) ∧ s.vm.findClass RX3 = some comp ∧ s.vm.findClass ("[" ++ (FieldType.object RX3).toString) = some (g.2.2.2.2.1 2) := (hK.2 2 _ rfl).2
  have hcl := nI_clamp (show N < 2 ^ 31 by omega)
  refine W.anew F.1 F.2.1 F.2.2.2.2.1 (F.2.2.2.2.2.1 _ h1) (va_Nw.use rfl hY.2.2.2.1) rfl hd rfl (nI_pos (by omega)) (by rw [hcl]; omega) hcells (by rw [hcl]; exact hslots) fun cA kA comp f1 f2 f3 f4 => ?_
  obtain rfl : cA = g.2.2.2.2.1 2 := Option.some.inj (f1.symm.trans hid)
  rw [hcl, hz]
  generalize hH1 : H.push ({ cls := g.2.2.2.2.1 2, slots := Array.replicate N .null, vm := .none } : Cell) = H1
  have z1 : H1.size = H.size + 1 := by rw [← hH1, Array.size_push]
  have e1 : H1[H.size]? = some (arrV (g.2.2.2.2.1 2) N (fun _ => .null)) := by rw [← hH1, Array.getElem?_push_size, ← arrV_new]
  have o1 : ∀ q : Nat, q < H.size → H1[q]? = H[q]? := fun q hq => by rw [← hH1, Array.getElem?_push, if_neg (Nat.ne_of_lt hq)]
  refine k p e s m args below meth c H1 locs ls F hY ?_ (by rw [z1, hz]; rfl) (hS.grow (by omega) o1) hl
  rw [← wsB_app]
  rw [hz] at e1
  exact (hkB hP o1).app (va_P.one e1)
theorem bw_anew_Rule {x : Int32} {N idx : Nat} (hd : dn cc pc (.anewarray idx) 3 pc') (h1 : Cond.classLink own idx RX6 ∈ wtb) (ex : x = nI N) (hN : N < 2 ^ 20) (hcells : cu + 1 ≤ R.cells) (hslots : su + N ≤ R.slots) (k : BW g cc nL R own Qc mc ms pc' lv (.ref (ad g nn) :: st) (nn + 1) (updE E nn (.inl (g.2.2.2.2.1 3, N, .inr (.inr (.inr (.inr (fun _ => none))))))) (cu + 1) (su + N)) : BW g cc nL R own Qc mc ms pc lv (.int x :: st) nn E cu su := by
  obtain ⟨hd, rfl⟩ := hd
  subst ex
  intro p e s m args below meth c H locs ls F hY hP hz hS hl
  have hK := F.2.2.2.2.2.2.2.1
  obtain ⟨kA0, comp0, -, -, -, hid⟩ : ∃ (kA : Class) (comp : ClassId), s.vm.classes[g.2.2.2.2.1 3]? = some kA ∧ kA.kind = .array comp (.object RX6) ∧ s.vm.findClass RX6 = some comp ∧ s.vm.findClass ("[" ++ (FieldType.object RX6).toString) = some (g.2.2.2.2.1 3) := (hK.2 3 _ rfl).2
  have hcl := nI_clamp (show N < 2 ^ 31 by omega)
  refine W.anew F.1 F.2.1 F.2.2.2.2.1 (F.2.2.2.2.2.1 _ h1) (va_Nw.use rfl hY.2.2.2.2.1) rfl hd rfl (nI_pos (by omega)) (by rw [hcl]; omega) hcells (by rw [hcl]; exact hslots) fun cA kA comp f1 f2 f3 f4 => ?_
  obtain rfl : cA = g.2.2.2.2.1 3 := Option.some.inj (f1.symm.trans hid)
  rw [hcl, hz]
  generalize hH1 : H.push ({ cls := g.2.2.2.2.1 3, slots := Array.replicate N .null, vm := .none } : Cell) = H1
  have z1 : H1.size = H.size + 1 := by rw [← hH1, Array.size_push]
  have e1 : H1[H.size]? = some (arrV (g.2.2.2.2.1 3) N (fun _ => .null)) := by rw [← hH1, Array.getElem?_push_size, ← arrV_new]
  have o1 : ∀ q : Nat, q < H.size → H1[q]? = H[q]? := fun q hq => by rw [← hH1, Array.getElem?_push, if_neg (Nat.ne_of_lt hq)]
  refine k p e s m args below meth c H1 locs ls F hY ?_ (by rw [z1, hz]; rfl) (hS.grow (by omega) o1) hl
  rw [← wsB_app]
  rw [hz] at e1
  exact (hkB hP o1).app (va_P.one e1)
theorem bw_anew_Table {x : Int32} {N idx : Nat} (hd : dn cc pc (.anewarray idx) 3 pc') (h1 : Cond.classLink own idx RX8 ∈ wtb) (ex : x = nI N) (hN : N < 2 ^ 20) (hcells : cu + 1 ≤ R.cells) (hslots : su + N ≤ R.slots) (k : BW g cc nL R own Qc mc ms pc' lv (.ref (ad g nn) :: st) (nn + 1) (updE E nn (.inl (g.2.2.2.2.1 4, N, .inr (.inr (.inr (.inr (fun _ => none))))))) (cu + 1) (su + N)) : BW g cc nL R own Qc mc ms pc lv (.int x :: st) nn E cu su := by
  obtain ⟨hd, rfl⟩ := hd
  subst ex
  intro p e s m args below meth c H locs ls F hY hP hz hS hl
  have hK := F.2.2.2.2.2.2.2.1
  obtain ⟨kA0, comp0, -, -, -, hid⟩ : ∃ (kA : Class) (comp : ClassId), s.vm.classes[g.2.2.2.2.1 4]? = some kA ∧ kA.kind = .array comp (.object RX8) ∧ s.vm.findClass RX8 = some comp ∧ s.vm.findClass ("[" ++ (FieldType.object RX8).toString) = some (g.2.2.2.2.1 4) := (hK.2 4 _ rfl).2
  have hcl := nI_clamp (show N < 2 ^ 31 by omega)
  refine W.anew F.1 F.2.1 F.2.2.2.2.1 (F.2.2.2.2.2.1 _ h1) (va_Nw.use rfl hY.2.2.2.2.2.1) rfl hd rfl (nI_pos (by omega)) (by rw [hcl]; omega) hcells (by rw [hcl]; exact hslots) fun cA kA comp f1 f2 f3 f4 => ?_
  obtain rfl : cA = g.2.2.2.2.1 4 := Option.some.inj (f1.symm.trans hid)
  rw [hcl, hz]
  generalize hH1 : H.push ({ cls := g.2.2.2.2.1 4, slots := Array.replicate N .null, vm := .none } : Cell) = H1
  have z1 : H1.size = H.size + 1 := by rw [← hH1, Array.size_push]
  have e1 : H1[H.size]? = some (arrV (g.2.2.2.2.1 4) N (fun _ => .null)) := by rw [← hH1, Array.getElem?_push_size, ← arrV_new]
  have o1 : ∀ q : Nat, q < H.size → H1[q]? = H[q]? := fun q hq => by rw [← hH1, Array.getElem?_push, if_neg (Nat.ne_of_lt hq)]
  refine k p e s m args below meth c H1 locs ls F hY ?_ (by rw [z1, hz]; rfl) (hS.grow (by omega) o1) hl
  rw [← wsB_app]
  rw [hz] at e1
  exact (hkB hP o1).app (va_P.one e1)
theorem outer_eq (cA : ClassId) (N h0 : Nat) : Free.Multi.outerC cA N h0 N = arrV cA N (fun j => va_rf (some (h0 + 1 + j))) := by
  obtain ⟨a, b, c⟩ := Free.Multi.outerC_facts cA N h0 N
  obtain ⟨d, e⟩ := Free.Multi.outerC_plain cA N h0 N
  have f : (Free.Multi.outerC cA N h0 N).slots = (arrV cA N (fun j => va_rf (some (h0 + 1 + j)))).slots := by
    apply Array.ext_getElem?
    intro i
    by_cases hi : i < N
    · rw [Free.Multi.outerC_slot _ _ _ _ _ hi, if_pos hi, arrV_read _ _ hi]
      rfl
    · rw [Array.getElem?_eq_none (by omega), Array.getElem?_eq_none (by rw [arrV_size]; omega)]
  revert a b c d e f
  cases Free.Multi.outerC cA N h0 N
  intro a b c d e f
  dsimp only at a b c d e f
  subst a
  subst b
  subst d
  subst e
  subst f
  rfl
/-- rows of one length -/
def rowsE (E : Nat → va_E) (g : GG) (nn N M : Nat) : Nat → va_E := fun j => if j = nn then .inl (g.2.2.2.2.1 5, N, .inr (.inr (.inr (.inr (fun k => some (ad g (nn + 1 + k))))))) else if nn < j ∧ j < nn + 1 + N then .inl (g.2.2.2.2.1 0, M, .inl (fun _ => 0)) else E j
theorem bw_multi {x y : Int32} {N M idx : Nat} (hd : dn cc pc (.multianewarray idx 2) 4 pc') (h1 : Cond.classLink own idx "[[I" ∈ wtb) (ex : x = nI N) (ey : y = nI M) (hN : N < 2 ^ 20) (hM : M < 2 ^ 20) (hcells : cu + (1 + N) ≤ R.cells) (hslots : su + (N + N * M) ≤ R.slots) (k : BW g cc nL R own Qc mc ms pc' lv (.ref (ad g nn) :: st) (nn + 1 + N) (rowsE E g nn N M) (cu + 1 + N) (su + N + N * M)) : BW g cc nL R own Qc mc ms pc lv (.int y :: .int x :: st) nn E cu su := by
  obtain ⟨hd, rfl⟩ := hd
  subst ex
  subst ey
  intro p e s m args below meth c H locs ls F hY hP hz hS hl
  have hK := F.2.2.2.2.2.2.2.1
  have hid5 : s.vm.findClass ("[" ++ (FieldType.array .int).toString) = some (g.2.2.2.2.1 5) := (hK.2 5 _ rfl).2
  have hid0 : s.vm.findClass ("[" ++ (FieldType.int).toString) = some (g.2.2.2.2.1 0) := (hK.2 0 _ rfl).2
  have hcn := nI_clamp (show N < 2 ^ 31 by omega)
  have hcm := nI_clamp (show M < 2 ^ 31 by omega)
  intro T hT X
  obtain ⟨vm₁, cA, comp, hW1, f1, f2, -, -, X', st'⟩ := X.multianewarray2K F.1 (ty := .int) F.2.2.2.2.1 (F.2.2.2.2.2.1 _ h1) (va_Nw.use rfl hY.2.2.2.2.2.2.1) (F.2.2.2.2.2.1 _ kArrI) (g := F0 m pc ls (.int (nI M) :: .int (nI N) :: st)) rfl (by rw [F.2.1]; exact hd) rfl (nI_pos (by omega)) (nI_pos (by omega)) (by rw [hcn]; omega) (by rw [hcm]; show M * 4 ≤ _; omega) (by rw [hcm]; omega) rfl rfl (by rw [hcn]; exact hcells) (by rw [hcn, hcm]; exact hslots)
  obtain rfl : cA = g.2.2.2.2.1 5 := Option.some.inj (f1.symm.trans hid5)
  obtain rfl : comp = g.2.2.2.2.1 0 := Option.some.inj (f2.symm.trans hid0)
  rw [hcn, hcm] at X' st'
  have hTs : (T.setVm vm₁).heap = H := hT
  obtain ⟨y1, y2, y3, -⟩ := Free.Multi.fill_facts (T.setVm vm₁) (g.2.2.2.2.1 5) (g.2.2.2.2.1 0) N M (defaultValue .int) N
  have y4 := Free.Multi.fill_inner (T.setVm vm₁) (g.2.2.2.2.1 5) (g.2.2.2.2.1 0) N M (defaultValue .int) N
  have y5 := fun (a : Addr) (ha : a < (T.setVm vm₁).heap.size) => Free.Multi.fill_old (T.setVm vm₁) (g.2.2.2.2.1 5) (g.2.2.2.2.1 0) N M (defaultValue .int) ha N
  rw [hTs, hz] at y1 y2 y4 y5
  rw [outer_eq] at y2
  generalize hU : Free.Multi.fill (T.setVm vm₁) (g.2.2.2.2.1 5) (g.2.2.2.2.1 0) N M (defaultValue .int) N = U at X' st' y1 y2 y3 y4 y5
  have hTz : Array.size T.heap = ad g nn := by rw [hT]; exact hz
  rw [hTz] at X' st'
  obtain ⟨t, a1, b1⟩ := k p e s m args below meth c U.heap _ ls F hY (fun i q hq => ?_) (by rw [y1]; show g.2.1 + nn + 1 + N = g.2.1 + (nn + 1 + N); omega) ⟨Nat.le_trans hS.1 (by rw [y1, hz]; omega), fun q q1 q2 => ?_, fun q hq => ?_⟩ hl U rfl X'
  · exact ⟨t, st' t a1, b1⟩
  · have hi := wsB_lt hq
    rw [wsB_at g _ hi] at hq
    cases hq
    unfold rowsE
    by_cases z : i = nn
    · subst z
      rw [if_pos rfl]
      exact y2
    · rw [if_neg z]
      by_cases z2 : nn < i ∧ i < nn + 1 + N
      · rw [if_pos z2]
        have := y4 (i - nn - 1) (by omega)
        rw [show ad g nn + 1 + (i - nn - 1) = ad g i by show g.2.1 + nn + 1 + (i - nn - 1) = g.2.1 + i; omega] at this
        show U.heap[ad g i]? = _
        rw [this]
        unfold Free.Multi.innerC
        rw [arrV_new]
        rfl
      · rw [if_neg z2]
        have hlt : i < nn := by omega
        exact (hP i _ (wsB_at g E hlt)).kept (y5 _ (by show g.2.1 + i < g.2.1 + nn; omega) |>.trans (by rw [hTs]))
  · rw [y5 q (by rw [← hz]; exact Nat.lt_of_lt_of_le q1 hS.1), hTs]
    exact hS.2.1 q q1 q2
  · rcases List.mem_append.mp hq with h | h
    · exact hS.2.2 q h
    · obtain ⟨j, -, rfl⟩ := List.mem_map.mp h
      exact Nat.le_add_right _ _
theorem bw_put {ci k idx N o : Nat} {C : String} {T : u_T} {ty0 : Nat → FieldType} {fs : List Value} {v : Value} {ty : FieldType} (hd : dn cc pc (.putfield idx) 3 pc') (hin : ∀ w ∈ u_ws C T N, w ∈ wtb) (hty : ∀ k, k < N → parseFieldDescriptor (T k).2.2.1 = some (ty0 k)) (hnm : ∀ a, a < N → ∀ b, b < N → a ≠ b → (T a).2.1 ≠ (T b).2.1) (hc : vwCl[ci]? = some (C, T, N)) (ho : o < nn) (he : E o = .inr (ci, fs)) (hk : k < N) (hT : (T k).1 = C) (hown : C = own) (hdd : parseFieldDescriptor (T k).2.2.1 = some ty) (hn : narrow ty v = v) (hfit : fits ty v = true) (hlen : k < fs.length) (hw : Cond.fieldLink own idx C (T k).2.1 (T k).2.2.1 ∈ wtb) (kk : BW g cc nL R own Qc mc ms pc' lv st nn (updE E o (.inr (ci, fs.set k v))) cu su) : BW g cc nL R own Qc mc ms pc lv (v :: .ref (ad g o) :: st) nn E cu su := by
  obtain ⟨hd, rfl⟩ := hd
  intro p e s m args below meth c H locs ls F hY hP hz hS hl
  by_cases hfin : (T k).2.2.2 = true
  · refine va_putF F.1 F.2.1 F.2.2.2.2.2.1 hin ty0 hty hnm F.2.2.2.2.1 F.2.2.2.2.2.2.2.1 hP (wsB_D g nn E) hS o (by rw [wsB_at g E ho, he]) hc k hk (F.2.2.2.2.2.1 _ hw) (fun x h => by rw [hT] at h; exact h) hfin hY.1 (hT.trans hown) hdd hn hfit hlen hd (fun H1 locs1 hP1 hD1 hS1 => ?_)
    sorry
  · sorry
end BWr
