theorem kM_max_s : Cond.static Lib.Math.max.name ∈ wtb := wt (List.mem_of_getElem? (i := 107) (by decide +kernel)) rfl
theorem kM_max_c : Cond.code Lib.Math.max.name Lib.Math.max.code 2 (some .int) ∈ wtb := wt (List.mem_of_getElem? (i := 108) (by decide +kernel)) rfl
theorem kM_min_s : Cond.static Lib.Math.min.name ∈ wtb := wt (List.mem_of_getElem? (i := 442) (by decide +kernel)) rfl
theorem kM_min_c : Cond.code Lib.Math.min.name Lib.Math.min.code 2 (some .int) ∈ wtb := wt (List.mem_of_getElem? (i := 443) (by decide +kernel)) rfl
theorem kM_abs_s : Cond.static Lib.Math.abs.name ∈ wtb := wt (List.mem_of_getElem? (i := 438) (by decide +kernel)) rfl
theorem kM_abs_c : Cond.code Lib.Math.abs.name Lib.Math.abs.code 1 (some .int) ∈ wtb := wt (List.mem_of_getElem? (i := 439) (by decide +kernel)) rfl
theorem kM_i : Cond.initialized "java/lang/Math" ∈ wtb := wt (List.mem_of_getElem? (i := 77) (by decide +kernel)) rfl
theorem km0_11 : Cond.methodLink RX0 11 Lib.Math.max.name ∈ wtb := wt (List.mem_of_getElem? (i := 158) (by decide +kernel)) rfl
theorem km1_7 : Cond.methodLink RX1 7 Lib.Math.max.name ∈ wtb := wt (List.mem_of_getElem? (i := 163) (by decide +kernel)) rfl
theorem km1_23 : Cond.methodLink RX1 23 Lib.Math.min.name ∈ wtb := wt (List.mem_of_getElem? (i := 452) (by decide +kernel)) rfl
theorem km2_9 : Cond.methodLink RX2 9 Lib.Math.max.name ∈ wtb := wt (List.mem_of_getElem? (i := 247) (by decide +kernel)) rfl
theorem km5_9 : Cond.methodLink RX5 9 Lib.Math.max.name ∈ wtb := wt (List.mem_of_getElem? (i := 106) (by decide +kernel)) rfl
theorem km6_45 : Cond.methodLink RX6 45 Lib.Math.min.name ∈ wtb := wt (List.mem_of_getElem? (i := 467) (by decide +kernel)) rfl
theorem km6_50 : Cond.methodLink RX6 50 Lib.Math.max.name ∈ wtb := wt (List.mem_of_getElem? (i := 468) (by decide +kernel)) rfl
theorem km7_71 : Cond.methodLink RX7 71 Lib.Math.abs.name ∈ wtb := wt (List.mem_of_getElem? (i := 437) (by decide +kernel)) rfl
theorem km7_77 : Cond.methodLink RX7 77 Lib.Math.max.name ∈ wtb := wt (List.mem_of_getElem? (i := 440) (by decide +kernel)) rfl
theorem km7_80 : Cond.methodLink RX7 80 Lib.Math.min.name ∈ wtb := wt (List.mem_of_getElem? (i := 441) (by decide +kernel)) rfl
theorem km8_9 : Cond.methodLink RX8 9 Lib.Math.max.name ∈ wtb := wt (List.mem_of_getElem? (i := 240) (by decide +kernel)) rfl
theorem kl10_62 : Cond.constantLong RX10 62 (2) ∈ wtb := wt (List.mem_of_getElem? (i := 853) (by decide +kernel)) rfl
theorem kl10_68 : Cond.constantLong RX10 68 (3) ∈ wtb := wt (List.mem_of_getElem? (i := 857) (by decide +kernel)) rfl
theorem kl10_70 : Cond.constantLong RX10 70 (9) ∈ wtb := wt (List.mem_of_getElem? (i := 858) (by decide +kernel)) rfl
theorem kl10_72 : Cond.constantLong RX10 72 (5) ∈ wtb := wt (List.mem_of_getElem? (i := 859) (by decide +kernel)) rfl
theorem kl10_78 : Cond.constantLong RX10 78 (99) ∈ wtb := wt (List.mem_of_getElem? (i := 867) (by decide +kernel)) rfl
theorem kl10_201 : Cond.constantLong RX10 201 (4) ∈ wtb := wt (List.mem_of_getElem? (i := 888) (by decide +kernel)) rfl
theorem kl10_206 : Cond.constantLong RX10 206 (7) ∈ wtb := wt (List.mem_of_getElem? (i := 1015) (by decide +kernel)) rfl
theorem kl10_253 : Cond.constantLong RX10 253 (6) ∈ wtb := wt (List.mem_of_getElem? (i := 1096) (by decide +kernel)) rfl
section AWc
variable {g : GG} {cc : ByteArray} {nL : Nat} {ret : Option FieldType} {R : Room} {own : String} {Qc : Array Value → State → Outcome → State → Prop} {pc pc' tgt : Nat} {lv : List (Option Value)} {st : List Value} {σ : SG}
theorem aw_max {x y : Int32} {idx : Nat} (hd : dn cc pc (.invokestatic idx) 3 pc') (hw : Cond.methodLink own idx Lib.Math.max.name ∈ wtb) (hR : 1 ≤ R.frames ∧ (st.map fun v => v.category).sum + 13 ≤ R.locals) (k : AW g cc nL ret R own Qc pc' lv (.int (if x < y then y else x) :: st) σ) : AW g cc nL ret R own Qc pc lv (.int y :: .int x :: st) σ := by
  obtain ⟨hd, rfl⟩ := hd
  intro p e s m args below meth c H locs ls F hP hS hl
  exact va_mmax F.1 F.2.1 (F.2.2.2.1.trans hl.1.symm) F.2.2.2.2.1 (F.2.2.2.2.2.1 _ hw) (F.2.2.2.2.2.1 _ kM_max_s) (F.2.2.2.2.2.1 _ kM_i) (F.2.2.2.2.2.1 _ kM_max_c) hR.1 hR.2 (Nat.zero_le _) (Nat.zero_le _) hd (k p e s m args below meth c H locs ls F hP hS hl)
theorem aw_min {x y : Int32} {idx : Nat} (hd : dn cc pc (.invokestatic idx) 3 pc') (hw : Cond.methodLink own idx Lib.Math.min.name ∈ wtb) (hR : 1 ≤ R.frames ∧ (st.map fun v => v.category).sum + 13 ≤ R.locals) (k : AW g cc nL ret R own Qc pc' lv (.int (if y < x then y else x) :: st) σ) : AW g cc nL ret R own Qc pc lv (.int y :: .int x :: st) σ := by
  obtain ⟨hd, rfl⟩ := hd
  intro p e s m args below meth c H locs ls F hP hS hl
  exact va_mmin F.1 F.2.1 (F.2.2.2.1.trans hl.1.symm) F.2.2.2.2.1 (F.2.2.2.2.2.1 _ hw) (F.2.2.2.2.2.1 _ kM_min_s) (F.2.2.2.2.2.1 _ kM_i) (F.2.2.2.2.2.1 _ kM_min_c) hR.1 hR.2 (Nat.zero_le _) (Nat.zero_le _) hd (k p e s m args below meth c H locs ls F hP hS hl)
theorem aw_abs {x : Int32} {idx : Nat} (hd : dn cc pc (.invokestatic idx) 3 pc') (hw : Cond.methodLink own idx Lib.Math.abs.name ∈ wtb) (hR : 1 ≤ R.frames ∧ (st.map fun v => v.category).sum + 13 ≤ R.locals) (k : AW g cc nL ret R own Qc pc' lv (.int (if 0 ≤ x then x else 0 - x) :: st) σ) : AW g cc nL ret R own Qc pc lv (.int x :: st) σ := by
  obtain ⟨hd, rfl⟩ := hd
  intro p e s m args below meth c H locs ls F hP hS hl
  exact va_mabs F.1 F.2.1 (F.2.2.2.1.trans hl.1.symm) F.2.2.2.2.1 (F.2.2.2.2.2.1 _ hw) (F.2.2.2.2.2.1 _ kM_abs_s) (F.2.2.2.2.2.1 _ kM_i) (F.2.2.2.2.2.1 _ kM_abs_c) hR.1 hR.2 (Nat.zero_le _) (Nat.zero_le _) hd (k p e s m args below meth c H locs ls F hP hS hl)
theorem lv_args_mem : ∀ (av : List Value) (k i : Nat) (v : Value), (∀ u ∈ av, u.category = 1) → av[i]? = some v → (k + i, v) ∈ lv_args k av
  | [], _, _, _, _, h => by simp at h
  | u :: av, k, 0, v, hc, h => by
    simp at h
    subst h
    exact List.mem_cons_self
  | u :: av, k, i + 1, v, hc, h => by
    have h1 := hc u List.mem_cons_self
    have h2 := lv_args_mem av (k + 1) i v (fun x hx => hc x (List.mem_cons_of_mem _ hx)) (by simpa using h)
    unfold lv_args
    rw [if_neg (by rw [h1]; decide)]
    refine List.mem_cons_of_mem _ ?_
    rw [show k + (i + 1) = k + 1 + i by omega]
    exact h2
theorem lv_ok (av : List Value) (k i : Nat) (v : Value) (h : (av.map some ++ List.replicate k none)[i]? = some (some v)) : av[i]? = some v := by
  rw [List.getElem?_append] at h
  split at h
  · rw [List.getElem?_map] at h
    cases q : av[i]? with
    | none => rw [q] at h; cases h
    | some w => rw [q] at h; cases h; rfl
  · rw [List.getElem?_replicate] at h
    split at h <;> cases h
theorem ct_of {y : MethodName} {rm : Room} {av : List Value} (ho : y.cls = own) (hy : plainName y.cls = true) (hav : (lg_sl av).length ≤ nL) (hc : ∀ u ∈ av, u.category = 1) (hlv : ∀ (i : Nat) (v : Value), lv[i]? = some (some v) → av[i]? = some v) (h : AW g cc nL ret rm own Qc 0 lv [] σ) : Met g.1 y (cw_ y cc nL ret) rm (va_Pc av (wd g σ)) Qc 0 0 (reg g) := by
  refine Met.ofW (cc := cc) (maxL := nL) (ret := ret) hy rfl ?_
  intro p e s m args below meth c s₁ B hml hv
  obtain ⟨rfl, hP, hK, hst⟩ := hv
  have hts : ∀ w ∈ wtb, w.before av.toArray s = true := fun w hw => atoms_spec (ws := cw_ y cc nL ret) B.pre w (List.mem_cons_of_mem _ hw)
  have hown : s.vm.findClass y.cls = some m.cls := findClass_of_methodNamed B.named
  have hl := lv_entry av (n := nL) hav
  rw [lg_entry_eq]
  generalize (lg_sl av ++ List.replicate (nL - (lg_sl av).length) Slot.unset).toArray = ls at hl ⊢
  refine h p e s m av.toArray below meth c s.heap [] ls ⟨B.exec, B.bytes, B.returns, hml, ho ▸ hown, hts, B.notSynchronized, hK, hst⟩ hP va_S.rf ⟨hl.1, hl.2.1, fun i v hv => ?_⟩
  have h1 := hlv i v hv
  have h2 := hl.2.2 _ (lv_args_mem av 0 i v hc h1)
  rw [Nat.zero_add] at h2
  exact ⟨h2, hc v (List.mem_of_getElem? h1)⟩
theorem Fx.wd {p : Program} {s : State} {m : MethodId} {args : Array Value} {meth : Method} {c : Code} {H : Heap} {locs : List Loc} (F : Fx g p s m args meth c cc nL ret own) (hP : va_P (gD g) vwCl (wsOf g σ) H) (hS : va_S (reg g) s.heap H locs) {U : State} (hU : U.heap = H) (hW : s.WarmedH U.vm) : _root_.Jvm.Pilot.CRuledTablesLaw_law_r2391_d775b6.wd g σ U := ⟨by rw [hU]; exact hP, va_K.moved hW.alike F.2.2.2.2.2.2.2.1, by rw [hU]; exact (F.2.2.2.2.2.2.2.2.moved hW).kept hS.2.1⟩
theorem aw_ireti {post : Int32 → SG → Prop} {x : Int32} (hd : dn cc pc .ireturn 1 pc') (h : post x σ) : AW g cc nL (some .int) R own (va_Qi post (wd g) (reg g)) pc lv [.int x] σ := by
  obtain ⟨hd, -⟩ := hd
  intro p e s m args below meth c H locs ls F hP hS hl
  exact W.iret F.1 F.2.1 F.2.2.1 (fun t ht hW => ⟨⟨x, σ, rfl, h, F.wd hP hS ht hW⟩, hS.F ht⟩) hS.2.2 hd F.2.2.2.2.2.2.1
theorem aw_iretz {post : Int32 → SG → Prop} {x : Int32} (hd : dn cc pc .ireturn 1 pc') (hx : x = 0 ∨ x = 1) (h : post x σ) : AW g cc nL (some .boolean) R own (va_Qi post (wd g) (reg g)) pc lv [.int x] σ := by
  obtain ⟨hd, -⟩ := hd
  intro p e s m args below meth c H locs ls F hP hS hl
  exact W.zret F.1 F.2.1 F.2.2.1 (by rcases hx with rfl | rfl <;> rfl) (fun t ht hW => ⟨⟨x, σ, rfl, h, F.wd hP hS ht hW⟩, hS.F ht⟩) hS.2.2 hd F.2.2.2.2.2.2.1
theorem aw_ret {post : SG → Prop} (hd : dn cc pc .return_ 1 pc') (h : post σ) : AW g cc nL none R own (va_Qv post (wd g) (reg g)) pc lv [] σ := by
  obtain ⟨hd, -⟩ := hd
  intro p e s m args below meth c H locs ls F hP hS hl
  exact W.vret F.1 F.2.1 F.2.2.1 (fun t ht hW => ⟨⟨σ, rfl, h, F.wd hP hS ht hW⟩, hS.F ht⟩) hS.2.2 hd F.2.2.2.2.2.2.1
theorem aw_aret {post : SG → Prop} {o : Nat} {C : String} (hd : dn cc pc .areturn 1 pc') (h : post σ) : AW g cc nL (some (.object C)) R own (va_Qr post (fun u a t => a = ad g o ∧ wd g u t) (reg g)) pc lv [.ref (ad g o)] σ := by
  obtain ⟨hd, -⟩ := hd
  intro p e s m args below meth c H locs ls F hP hS hl
  exact W.aret F.1 F.2.1 F.2.2.1 (Or.inl ⟨_, rfl⟩) (Or.inr ⟨_, rfl⟩) (fun t ht hW => ⟨⟨σ, ad g o, rfl, h, rfl, F.wd hP hS ht hW⟩, hS.F ht⟩) hS.2.2 hd F.2.2.2.2.2.2.1
variable {y : MethodName} {cy : ByteArray} {ny n idx o : Nat} {ry : Option FieldType} {rm : Room} {As rest : List Value}
/-- the words and the room of a call -/
theorem cV {s : State} {args : Array Value} (hts : ∀ w ∈ wtb, w.before args s = true) (hl : Cond.methodLink own idx y ∈ wtb) (ok : okV y cy ny ry n) (hR : rm.frames + 1 ≤ R.frames ∧ 8 + (ny + 11) + rm.locals ≤ R.locals) (hc : rm.cells = 0) (hs : rm.slots = 0) : CallW R s args own y.cls idx y cy ny ry (cw_ y cy ny ry) rm 0 0 n := by
  refine cwV n hts (wtb_in fun w hw => ?_) rfl hc hs ⟨rfl, ok.2.2.2.2⟩ hR
  unfold wsV at hw
  rcases List.mem_append.mp hw with h | h
  · simp only [List.mem_cons, List.not_mem_nil, or_false] at h
    rcases h with rfl | rfl | rfl | rfl
    · exact hl
    · exact ok.1
    · exact ok.2.1
    · exact ok.2.2.1
  · rcases List.mem_cons.mp h with rfl | h
    · exact ok.2.2.2.1
    · exact h
theorem cS {s : State} {args : Array Value} (hts : ∀ w ∈ wtb, w.before args s = true) (hl : Cond.methodLink own idx y ∈ wtb) (ok : okS y cy ny ry n) (hR : rm.frames + 1 ≤ R.frames ∧ 8 + (ny + 11) + rm.locals ≤ R.locals) (hc : rm.cells = 0) (hs : rm.slots = 0) : CallB R s args own idx y cy ny ry (cw_ y cy ny ry) rm 0 0 n ∧ (Cond.static y).before args s = true := by
  refine va_cwS n hts (wtb_in fun w hw => ?_) rfl hc hs ok.2.2.2 hR
  unfold va_wsS at hw
  rcases List.mem_append.mp hw with h | h
  · simp only [List.mem_cons, List.not_mem_nil, or_false] at h
    rcases h with rfl | rfl | rfl
    · exact hl
    · exact ok.1
    · exact ok.2.1
  · rcases List.mem_cons.mp h with rfl | h
    · exact ok.2.2.1
    · exact h
/-- the receiver is an object of its class -/
theorem recv {ci : Nat} {q : vw_C} {fs : List Value} {s : State} {H : Heap} (hK : va_K (gD g) vwCl (tys_ g) s) (hP : va_P (gD g) vwCl (wsOf g σ) H) (hc : vwCl[ci]? = some q) (hk : kd o = ci) (hci : ci < 11) : ∃ cell : Cell, H[ad g o]? = some cell ∧ cell.vm.isStatics = false ∧ s.vm.findClass q.1 = some cell.cls := by
  have : ∃ fs, cl_ g σ o = .inr (ci, fs) := by
    rw [cl_k hk]
    match ci, hci with
    | 0, _ => exact ⟨_, rfl⟩
    | 1, _ => exact ⟨_, rfl⟩
    | 2, _ => exact ⟨_, rfl⟩
    | 3, _ => exact ⟨_, rfl⟩
    | 4, _ => exact ⟨_, rfl⟩
    | 5, _ => exact ⟨_, rfl⟩
    | 6, _ => exact ⟨_, rfl⟩
    | 7, _ => exact ⟨_, rfl⟩
    | 8, _ => exact ⟨_, rfl⟩
    | 9, _ => exact ⟨_, rfl⟩
    | 10, _ => exact ⟨_, rfl⟩
  obtain ⟨fs, he⟩ := this
  exact va_recv hK hP hc (q0 := o) (by rw [ws_at g σ (kd_lt hk (by omega)), he])
theorem aw_calli {ci : Nat} {q : vw_C} {post : Int32 → SG → Prop} {st : List Value} (hd : dn cc pc (.invokevirtual idx) 3 pc') (hl : Cond.methodLink own idx y ∈ wtb) (ok : okV y cy ny ry n) (hc : vwCl[ci]? = some q) (hq : q.1 = y.cls) (hci : ci < 11) (hk : kd o = ci) (hst : st = As.reverse ++ .ref (ad g o) :: rest) (hn : As.length = n) (hW : (rest.map fun v => v.category).sum ≤ 8) (hR : rm.frames + 1 ≤ R.frames ∧ 8 + (ny + 11) + rm.locals ≤ R.locals) (hrc : rm.cells = 0) (hrs : rm.slots = 0) (hM : Cti g y cy ny ry rm (.ref (ad g o) :: As) σ post) (kk : ∀ r σ', post r σ' → AW g cc nL ret R own Qc pc' lv (.int r :: rest) σ') : AW g cc nL ret R own Qc pc lv st σ := by
  obtain ⟨hd, rfl⟩ := hd
  subst hst
  intro p e s m args below meth c H locs ls F hP hS hlv
  have hl9 := hl
  refine va_calli (va_runV (As := As) (rest := rest) (b := ad g o) ⟨F.1, F.2.1, F.2.2.2.1, F.2.2.2.2.1, F.2.2.2.2.2.1⟩ hM (cV F.2.2.2.2.2.1 hl9 ok hR hrc hrs) ⟨wd_blind, by rw [← hq]; exact recv (fs := []) F.2.2.2.2.2.2.2.1 hP hc hk hci, fun U hU hW9 => ⟨rfl, F.wd hP hS hU hW9⟩⟩ rfl hn hlv.1 rfl (lv_room hW) hd ⟨Nat.zero_le _, Nat.zero_le _⟩) hS (fun q _ h => h) (fun q h => h) (fun r u t H1 locs1 ht hvm hw hB hz1 hk1 hS1 => ?_)
  have hl := hlv
  exact kk r u hw p e s m args below meth c H1 locs1 ls F (by rw [← ht]; exact hB.1) hS1 hl
theorem aw_callsi {post : Int32 → SG → Prop} {st : List Value} (hd : dn cc pc (.invokestatic idx) 3 pc') (hl : Cond.methodLink own idx y ∈ wtb) (ok : okS y cy ny ry n) (hst : st = As.reverse ++ rest) (hn : As.length = n) (hW : (rest.map fun v => v.category).sum ≤ 8) (hR : rm.frames + 1 ≤ R.frames ∧ 8 + (ny + 11) + rm.locals ≤ R.locals) (hrc : rm.cells = 0) (hrs : rm.slots = 0) (hM : Cti g y cy ny ry rm As σ post) (kk : ∀ r σ', post r σ' → AW g cc nL ret R own Qc pc' lv (.int r :: rest) σ') : AW g cc nL ret R own Qc pc lv st σ := by
  obtain ⟨hd, rfl⟩ := hd
  subst hst
  intro p e s m args below meth c H locs ls F hP hS hlv
  refine va_calli (va_runS (As := As) (rest := rest) ⟨F.1, F.2.1, F.2.2.2.1, F.2.2.2.2.1, F.2.2.2.2.2.1⟩ hM (cS F.2.2.2.2.2.1 hl ok hR hrc hrs) ⟨wd_blind, fun U hU hW9 => ⟨rfl, F.wd hP hS hU hW9⟩⟩ rfl hn hlv.1 rfl (lv_room hW) hd ⟨Nat.zero_le _, Nat.zero_le _⟩) hS (fun q _ h => h) (fun q h => h) (fun r u t H1 locs1 ht hvm hw hB hz1 hk1 hS1 => ?_)
  have hl := hlv
  exact kk r u hw p e s m args below meth c H1 locs1 ls F (by rw [← ht]; exact hB.1) hS1 hl
theorem aw_callv {ci : Nat} {q : vw_C} {post : SG → Prop} {st : List Value} (hd : dn cc pc (.invokevirtual idx) 3 pc') (hl : Cond.methodLink own idx y ∈ wtb) (ok : okV y cy ny none n) (hc : vwCl[ci]? = some q) (hq : q.1 = y.cls) (hci : ci < 11) (hk : kd o = ci) (hst : st = As.reverse ++ .ref (ad g o) :: rest) (hn : As.length = n) (hW : (rest.map fun v => v.category).sum ≤ 8) (hR : rm.frames + 1 ≤ R.frames ∧ 8 + (ny + 11) + rm.locals ≤ R.locals) (hrc : rm.cells = 0) (hrs : rm.slots = 0) (hM : Ctv g y cy ny rm (.ref (ad g o) :: As) σ post) (kk : ∀ σ', post σ' → AW g cc nL ret R own Qc pc' lv rest σ') : AW g cc nL ret R own Qc pc lv st σ := by
  obtain ⟨hd, rfl⟩ := hd
  subst hst
  intro p e s m args below meth c H locs ls F hP hS hlv
  have hl9 := hl
  refine va_callv (va_runV (As := As) (rest := rest) (b := ad g o) ⟨F.1, F.2.1, F.2.2.2.1, F.2.2.2.2.1, F.2.2.2.2.2.1⟩ hM (cV F.2.2.2.2.2.1 hl9 ok hR hrc hrs) ⟨wd_blind, by rw [← hq]; exact recv (fs := []) F.2.2.2.2.2.2.2.1 hP hc hk hci, fun U hU hW9 => ⟨rfl, F.wd hP hS hU hW9⟩⟩ rfl hn hlv.1 rfl (lv_room hW) hd ⟨Nat.zero_le _, Nat.zero_le _⟩) hS (fun q _ h => h) (fun q h => h) (fun u t H1 locs1 ht hvm hw hB hz1 hk1 hS1 => ?_)
  have hl := hlv
  exact kk u hw p e s m args below meth c H1 locs1 ls F (by rw [← ht]; exact hB.1) hS1 hl
theorem aw_callsv {post : SG → Prop} {st : List Value} (hd : dn cc pc (.invokestatic idx) 3 pc') (hl : Cond.methodLink own idx y ∈ wtb) (ok : okS y cy ny none n) (hst : st = As.reverse ++ rest) (hn : As.length = n) (hW : (rest.map fun v => v.category).sum ≤ 8) (hR : rm.frames + 1 ≤ R.frames ∧ 8 + (ny + 11) + rm.locals ≤ R.locals) (hrc : rm.cells = 0) (hrs : rm.slots = 0) (hM : Ctv g y cy ny rm As σ post) (kk : ∀ σ', post σ' → AW g cc nL ret R own Qc pc' lv rest σ') : AW g cc nL ret R own Qc pc lv st σ := by
  obtain ⟨hd, rfl⟩ := hd
  subst hst
  intro p e s m args below meth c H locs ls F hP hS hlv
  refine va_callv (va_runS (As := As) (rest := rest) ⟨F.1, F.2.1, F.2.2.2.1, F.2.2.2.2.1, F.2.2.2.2.2.1⟩ hM (cS F.2.2.2.2.2.1 hl ok hR hrc hrs) ⟨wd_blind, fun U hU hW9 => ⟨rfl, F.wd hP hS hU hW9⟩⟩ rfl hn hlv.1 rfl (lv_room hW) hd ⟨Nat.zero_le _, Nat.zero_le _⟩) hS (fun q _ h => h) (fun q h => h) (fun u t H1 locs1 ht hvm hw hB hz1 hk1 hS1 => ?_)
  have hl := hlv
  exact kk u hw p e s m args below meth c H1 locs1 ls F (by rw [← ht]; exact hB.1) hS1 hl
theorem aw_callr {o2 : Nat} {ci : Nat} {q : vw_C} {post : SG → Prop} {st : List Value} (hd : dn cc pc (.invokevirtual idx) 3 pc') (hl : Cond.methodLink own idx y ∈ wtb) (ok : okV y cy ny ry n) (hc : vwCl[ci]? = some q) (hq : q.1 = y.cls) (hci : ci < 11) (hk : kd o = ci) (hst : st = As.reverse ++ .ref (ad g o) :: rest) (hn : As.length = n) (hW : (rest.map fun v => v.category).sum ≤ 8) (hR : rm.frames + 1 ≤ R.frames ∧ 8 + (ny + 11) + rm.locals ≤ R.locals) (hrc : rm.cells = 0) (hrs : rm.slots = 0) (hM : Ctr g y cy ny ry rm (.ref (ad g o) :: As) σ o2 post) (kk : ∀ σ', post σ' → AW g cc nL ret R own Qc pc' lv (.ref (ad g o2) :: rest) σ') : AW g cc nL ret R own Qc pc lv st σ := by
  obtain ⟨hd, rfl⟩ := hd
  subst hst
  intro p e s m args below meth c H locs ls F hP hS hlv
  have hl9 := hl
  refine va_callr (va_runV (As := As) (rest := rest) (b := ad g o) ⟨F.1, F.2.1, F.2.2.2.1, F.2.2.2.2.1, F.2.2.2.2.2.1⟩ hM (cV F.2.2.2.2.2.1 hl9 ok hR hrc hrs) ⟨wd_blind, by rw [← hq]; exact recv (fs := []) F.2.2.2.2.2.2.2.1 hP hc hk hci, fun U hU hW9 => ⟨rfl, F.wd hP hS hU hW9⟩⟩ rfl hn hlv.1 rfl (lv_room hW) hd ⟨Nat.zero_le _, Nat.zero_le _⟩) hS (fun q _ h => h) (fun q h => h) (fun u ra t H1 locs1 ht hvm hw hB hz1 hk1 hS1 => ?_)
  have hl := hlv
  obtain ⟨rfl, hB⟩ := hB
  exact kk u hw p e s m args below meth c H1 locs1 ls F (by rw [← ht]; exact hB.1) hS1 hl
theorem aw_mostS {idx : Nat} (hd : dn cc pc (.getstatic idx) 3 pc') (hw : Cond.fieldLink own idx "RuledTables" "MOST_SETTINGS" "[I" ∈ wtb) (k : AW g cc nL ret R own Qc pc' lv (.ref g.2.2.2.2.2.1 :: st) σ) : AW g cc nL ret R own Qc pc lv st σ := by
  obtain ⟨hd, rfl⟩ := hd
  intro p e s m args below meth c H locs ls F hP hS hl
  exact va_gets F.1 F.2.1 F.2.2.2.2.2.2.2.2.1 hS F.2.2.2.2.1 (F.2.2.2.2.2.1 _ hw) (fun _ h => h) hd (k p e s m args below meth c H locs ls F hP hS hl)
theorem aw_mostL (hd : dn cc pc .arraylength 1 pc') (k : AW g cc nL ret R own Qc pc' lv (.int 3 :: st) σ) : AW g cc nL ret R own Qc pc lv (.ref g.2.2.2.2.2.1 :: st) σ := by
  obtain ⟨hd, rfl⟩ := hd
  intro p e s m args below meth c H locs ls F hP hS hl
  exact va_tlen F.1 F.2.1 F.2.2.2.2.2.2.2.2.2.1 hS (v := 3) (by decide) hd (k p e s m args below meth c H locs ls F hP hS hl)
theorem aw_mostI {i : Int32} (hd : dn cc pc .iaload 1 pc') (hi : vp_in i 3) (k : AW g cc nL ret R own Qc pc' lv (.int (fM i.toNatClampNeg) :: st) σ) : AW g cc nL ret R own Qc pc lv (.int i :: .ref g.2.2.2.2.2.1 :: st) σ := by
  obtain ⟨hd, rfl⟩ := hd
  intro p e s m args below meth c H locs ls F hP hS hl
  exact va_ti F.1 F.2.1 F.2.2.2.2.2.2.2.2.2.1 hS hi rfl hd (k p e s m args below meth c H locs ls F hP hS hl)
theorem aw_firstS (hd : dn cc pc (.getstatic 23) 3 pc') (ho : own = "RuledTables$Page") (k : AW g cc nL ret R own Qc pc' lv (.ref g.2.2.2.2.2.2 :: st) σ) : AW g cc nL ret R own Qc pc lv st σ := by
  obtain ⟨hd, rfl⟩ := hd
  intro p e s m args below meth c H locs ls F hP hS hl
  subst ho
  exact va_getsN F.1 F.2.1 F.2.2.2.2.2.2.2.2.2.2.1 hS F.2.2.2.2.1 (va_Nw.use rfl F.2.2.2.2.2.2.2.2.2.2.2.2) (fun _ h => h) hd (k p e s m args below meth c H locs ls F hP hS hl)
theorem aw_firstL (hd : dn cc pc .arraylength 1 pc') (k : AW g cc nL ret R own Qc pc' lv (.int 3 :: st) σ) : AW g cc nL ret R own Qc pc lv (.ref g.2.2.2.2.2.2 :: st) σ := by
  obtain ⟨hd, rfl⟩ := hd
  intro p e s m args below meth c H locs ls F hP hS hl
  exact va_tlen F.1 F.2.1 F.2.2.2.2.2.2.2.2.2.2.2.1 hS (v := 3) (by decide) hd (k p e s m args below meth c H locs ls F hP hS hl)
theorem aw_aald16 {o : Nat} {i : Int32} (hd : dn cc pc .aaload 1 pc') (hk : kd o = 16) (hi : vp_in i (ln o)) (kk : AW g cc nL ret R own Qc pc' lv (.ref (ad g (o + 1 + i.toNatClampNeg)) :: st) σ) : AW g cc nL ret R own Qc pc lv (.int i :: .ref (ad g o) :: st) σ := by
  obtain ⟨hd, rfl⟩ := hd
  intro p e s m args below meth c H locs ls F hP hS hl
  have hlt : i.toNatClampNeg < ln o := Nat.not_le.mp fun q => hi (Or.inr q)
  have ha : (wsOf g σ)[o]? = some (ad g o, .inl (g.2.2.2.2.1 5, ln o, .inr (.inr (.inr (.inr (fun k => some (ad g (o + 1 + k)))))))) := by rw [ws_at g σ (kd_lt hk (by decide)), cl_k hk]; rfl
  exact W.aald (v := va_rf (some (ad g (o + 1 + i.toNatClampNeg)))) (ty := .array .int) F.1 F.2.1 (hP o _ ha) ((F.2.2.2.2.2.2.2.1.2 5 _ rfl).1 (ln o) (fun j => va_rf (some (ad g (o + 1 + j))))) rfl (fun q => by cases q) (by show ¬ (i < 0 ∨ (arrV _ _ _).slots.size ≤ _); rw [arrV_size]; exact hi) (by show (arrV _ _ _).slots[_]? = _; rw [arrV_read _ _ hlt]) rfl rfl hd (kk p e s m args below meth c H locs ls F hP hS hl)
theorem aw_aast14 {i : Int32} {r : Nat} (hd : dn cc pc .aastore 1 pc') (hi : vp_in i 24) (hr : r < 24) (kk : AW g cc nL ret R own Qc pc' lv st (σ.1, σ.2.1, uP σ.2.2 i.toNatClampNeg r)) : AW g cc nL ret R own Qc pc lv (.ref (ad g (25 + 1 + r)) :: .int i :: .ref (ad g 25) :: st) σ := by
  obtain ⟨hd, rfl⟩ := hd
  intro p e s m args below meth c H locs ls F hP hS hl
  have hkr : kd (25 + 1 + r) = 6 := by
    have : ∀ r, r < 24 → kd (25 + 1 + r) = 6 := by decide +kernel
    exact this r hr
  refine va_astq F.1 F.2.1 F.2.2.2.2.2.2.2.1 hP (ws_D g σ) hS 25 3 (25 + 1 + r) 6 (cA := g.2.2.2.2.1 3) (n := 24) (f := fun k => some (ad g (25 + 1 + σ.2.2 k))) (r := (RX6, TX6, 9)) (by rw [ws_at g σ (by decide)]; rfl) rfl (by rw [ws_at g σ (kd_lt hkr (by decide)), cl_k hkr]; rfl) rfl hi hd (fun H1 locs1 hP1 hD1 hS1 => ?_)
  rw [ws_set (σ' := (σ.1, σ.2.1, uP σ.2.2 i.toNatClampNeg r)) ?_ (fun o' h => cl_uP h)] at hP1
  · exact kk p e s m args below meth c H1 locs1 ls F hP1 hS1 hl
  · show _ = cl0 g _ 25 14
    unfold cl0
    simp only
    have hln : ln 25 = 24 := by decide +kernel
    rw [hln]
    congr 7
    funext k
    unfold va_up uP
    split <;> rfl
end AWc
