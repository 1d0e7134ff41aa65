/-! A throw that this method's own table takes; a grid of longs. -/
section TC
variable {Q : Handler → Pre} {E : CtlPost} {e : Env} {d : Bool} {acts : List Action} {s : State} {f : JFrame} {a : Addr}
theorem tc_go {x : ExceptionTableEntry} {t : List ExceptionTableEntry} {c : ClassId} {cell : Cell} {b : Bool} (hx : covers x f.pc = true) (h0 : x.catchType ≠ 0) (hl : s.vm.ClassLinks e.platform f.method.cls x.catchType c) (hcell : s.heap[a]? = some cell) (hobj : ∀ k, cell.vm ≠ .statics k)
    (hk : ∃ k, s.vm.classes[cell.cls]? = some k) (hc : ∃ k, s.vm.classes[c]? = some k) (hfit : s.vm.assignable cell.cls c = b) :
    wp (findHandler.go f a (x :: t)) Q E e d acts s ↔ if b = true then Q (.found x.handlerPc) d acts (s.setVm (s.vm.noted f.method.cls x.catchType (.cls c))) else wp (findHandler.go f a t) Q E e d acts (s.setVm (s.vm.noted f.method.cls x.catchType (.cls c))) := by
  have hal : s.vm.Alike (s.vm.noted f.method.cls x.catchType (.cls c)) := (Vm.Alike.refl s.vm).noted _ _ _
  obtain ⟨h1, h2⟩ := (resolveClass_links e.toSetting hl).op (op := VmOp.resolveClass f.method.cls x.catchType) rfl
  obtain ⟨k1, g1⟩ := hk
  obtain ⟨k2, g2⟩ := hc
  obtain ⟨m1, q1, -⟩ := hal.2.2 _ _ g1
  obtain ⟨m2, q2, -⟩ := hal.2.2 _ _ g2
  have hf2 : (s.vm.noted f.method.cls x.catchType (.cls c)).assignable cell.cls c = b := by rw [hal.assignable]; exact hfit
  simp only [covers] at hx
  cases b <;> simp [findHandler.go, hx, h0, h1, h2, hcell, hobj, q1, q2, hf2, VmOp.dirties, VmOp.acts]
end TC
/-- the search ends at pc, the tables are then vm' -/
def tc_F (e : Env) (S : State) (g : JFrame) (a : Addr) (pc : Nat) (vm' : Vm) : Prop := ∀ (Q : Handler → Pre) (E : CtlPost) (d : Bool) (acts : List Action), wp (findHandler g a) Q E e d acts S ↔ Q (.found pc) d acts (S.setVm vm')
theorem tc_steps {tb : Tables} {e : Env} {s target : State} {g : JFrame} {c : Code} {below : List Frame} {a : Addr} (h : At s g.method c below) {pc : Nat} {vm' : Vm} (hf : tc_F e ((s.setTop g).pushFrame (.throwing a)) g a pc vm') (hr : Steps tb e below ((s.setVm vm').setTop { g with pc := pc, stack := [.ref a] }) target) :
    Steps tb e below ((s.setTop g).pushFrame (.throwing a)) target := by
  obtain ⟨hgo, hw⟩ := h.throwing a
  obtain ⟨g0, hg0⟩ := Option.isSome_iff_exists.mp h.top
  obtain ⟨r, hfr⟩ := State.topJava?_eq_some.mp hg0
  have key : (stepThrowing e ((s.setTop g).pushFrame (.throwing a)) a (.java g :: s.frames.tail)).1 = ((s.setVm vm').setTop { g with pc := pc, stack := [.ref a] }) := by
    simp only [stepThrowing, searchFrame, vmDo]
    generalize hres : Sem.go _ e false [] ((s.setTop g).pushFrame (.throwing a)) = res
    obtain ⟨as, rfl, -⟩ := Sem.eq_ok_of hres (a := Handler.found pc) (s' := ((s.setTop g).pushFrame (.throwing a)).setVm vm') (acts' := []) (by simp [hf _ _ _ _])
    have hfr' : (s.setVm vm').frames = .java g0 :: r := hfr
    show (((s.setTop g).pushFrame (.throwing a)).setVm vm').setFrames _ = _
    have e1 : ∀ (u : State) (F G : List Frame), ((u.setFrames F).setVm vm').setFrames G = (u.setVm vm').setFrames G := fun u F G => State.setFrames_setFrames (u.setVm vm') F G
    rw [State.setTop_of_frames _ hfr', State.pushFrame, State.setTop_of_frames _ hfr, hfr, e1, e1]
    rfl
  refine Steps.head hgo hw ?_
  rw [stepThread_throwing (frames_entered h.top _), key]
  exact hr
section TC2
variable {p : Program} {l : Launch} {e : Env} {R : Room} {s : State} {m : MethodId} {args : Array Value} {below : List Frame} {meth : Method} {c : Code} {H : Heap} {locs : List Loc} {cells slots : Nat} {Q : State → Prop}
variable {pc : Nat} {ls : Array Slot} {rest : List Value}
/-- the class of a row of the table -/
theorem tc_row {T : State} {own name : String} {x : ExceptionTableEntry} (X : Stand p l e R s m args below meth c T locs cells slots) (hown : s.vm.findClass own = some m.cls) (hlink : (Cond.classLink own x.catchType name).before args s = true) :
    ∃ cT, s.vm.findClass name = some cT ∧ s.vm.ClassLinks e.platform m.cls x.catchType cT := Cond.classLink_spec hown hlink e.platform (by rw [X.admits.platform])
/-- taken by the first row -/
theorem tc_catch1 {own name E : String} {ce : Cell} {q : Addr} {x : ExceptionTableEntry} {suf : List ExceptionTableEntry} (hown : s.vm.findClass own = some m.cls) (htab : c.exceptionTable.toList = x :: suf) (hx : covers x pc = true) (h0 : x.catchType ≠ 0)
    (hlink : (Cond.classLink own x.catchType name).before args s = true) (hcast : (Cond.castable E name).before args s = true) (hcell : H[q]? = some ce) (hv : ce.vm = .none) (hcl : s.vm.findClass E = some ce.cls)
    (kk : W p l e R s m args below meth c H locs cells slots Q (F0 m x.handlerPc ls [.ref q])) : vx_W p l e R s m args below meth c H locs cells slots Q (F0 m pc ls rest) q := by
  intro T hT X
  obtain ⟨cT, hcT, hcL⟩ := tc_row X hown hlink
  obtain ⟨c3, c4, hc3, hc4, hasg⟩ := Cond.castable_spec hcast
  cases Option.some.inj (hc3.symm.trans hcl)
  cases Option.some.inj (hc4.symm.trans hcT)
  obtain ⟨dk, _, _, kt, hd, _, _, _, _, hkt, _, hopen⟩ := hcL.here
  obtain ⟨k1, hk1⟩ := Vm.classAt_of_findClass hcl
  have hW := X.warmed
  obtain ⟨k2, hk2, -⟩ := hW.alike.2.2 _ _ hk1
  obtain ⟨k3, hk3, -⟩ := hW.alike.2.2 _ _ hkt
  have hW1 := hW.noted hd hopen (State.rightAt_cls hcL)
  have hce : T.heap[q]? = some ce := by rw [hT]; exact hcell
  obtain ⟨t, a1, b1⟩ := kk (T.setVm (T.vm.noted m.cls x.catchType (.cls cT))) hT (X.noted hW1)
  refine ⟨t, tc_steps (g := F0 m pc ls rest) X.here ?_ a1, b1⟩
  intro Q9 E9 d9 acts9
  rw [W.findHandler_eq (meth := meth) (code := c) X.method' X.code, htab]
  have := tc_go (Q := Q9) (E := E9) (e := e) (d := d9) (acts := acts9) (s := (T.setTop (F0 m pc ls rest)).pushFrame (.throwing q)) (f := F0 m pc ls rest) (a := q) (x := x) (t := suf) (c := cT) (cell := ce) (b := true) hx h0 (hW.classLinks hcL) hce (VmData.ne_statics_of (by rw [hv]; rfl)) ⟨k2, hk2⟩ ⟨k3, hk3⟩ (by show T.vm.assignable _ _ = _; rw [hW.alike.assignable]; exact hasg)
  rw [if_pos rfl] at this
  exact this
/-- passed by the first row, taken by the second -/
theorem tc_catch2 {own name name2 E : String} {ce : Cell} {q : Addr} {x y : ExceptionTableEntry} {suf : List ExceptionTableEntry} (hown : s.vm.findClass own = some m.cls) (htab : c.exceptionTable.toList = y :: x :: suf) (hy : covers y pc = true) (hy0 : y.catchType ≠ 0) (hx : covers x pc = true) (h0 : x.catchType ≠ 0)
    (hlink2 : (Cond.classLink own y.catchType name2).before args s = true) (hno : va_Nc E name2 s) (hlink : (Cond.classLink own x.catchType name).before args s = true) (hcast : (Cond.castable E name).before args s = true) (hcell : H[q]? = some ce) (hv : ce.vm = .none) (hcl : s.vm.findClass E = some ce.cls)
    (kk : W p l e R s m args below meth c H locs cells slots Q (F0 m x.handlerPc ls [.ref q])) : vx_W p l e R s m args below meth c H locs cells slots Q (F0 m pc ls rest) q := by
  intro T hT X
  obtain ⟨cT, hcT, hcL⟩ := tc_row X hown hlink
  obtain ⟨cU, hcU, hcM⟩ := tc_row X hown hlink2
  obtain ⟨c3, c4, hc3, hc4, hasg⟩ := Cond.castable_spec hcast
  obtain ⟨c5, c6, hc5, hc6, hnas⟩ := hno
  cases Option.some.inj (hc3.symm.trans hcl)
  cases Option.some.inj (hc5.symm.trans hcl)
  cases Option.some.inj (hc4.symm.trans hcT)
  cases Option.some.inj (hc6.symm.trans hcU)
  obtain ⟨dk, _, _, kt, hd, _, _, _, _, hkt, _, hopen⟩ := hcL.here
  obtain ⟨dk2, _, _, kt2, hd2, _, _, _, _, hkt2, _, hopen2⟩ := hcM.here
  obtain ⟨k1, hk1⟩ := Vm.classAt_of_findClass hcl
  have hW := X.warmed
  have hW1 := hW.noted hd2 hopen2 (State.rightAt_cls hcM)
  have hW2 := hW1.noted hd hopen (State.rightAt_cls hcL)
  obtain ⟨k2, hk2, -⟩ := hW.alike.2.2 _ _ hk1
  obtain ⟨k3, hk3, -⟩ := hW.alike.2.2 _ _ hkt2
  obtain ⟨k4, hk4, -⟩ := hW1.alike.2.2 _ _ hk1
  obtain ⟨k5, hk5, -⟩ := hW1.alike.2.2 _ _ hkt
  have hce : T.heap[q]? = some ce := by rw [hT]; exact hcell
  have hns := VmData.ne_statics_of (x := ce.vm) (by rw [hv]; rfl)
  obtain ⟨t, a1, b1⟩ := kk (T.setVm ((T.vm.noted m.cls y.catchType (.cls cU)).noted m.cls x.catchType (.cls cT))) hT (X.noted hW2)
  refine ⟨t, tc_steps (g := F0 m pc ls rest) X.here ?_ a1, b1⟩
  intro Q9 E9 d9 acts9
  rw [W.findHandler_eq (meth := meth) (code := c) X.method' X.code, htab]
  have h1 := tc_go (Q := Q9) (E := E9) (e := e) (d := d9) (acts := acts9) (s := (T.setTop (F0 m pc ls rest)).pushFrame (.throwing q)) (f := F0 m pc ls rest) (a := q) (x := y) (t := x :: suf) (c := cU) (cell := ce) (b := false) hy hy0 (hW.classLinks hcM) hce hns ⟨k2, hk2⟩ ⟨k3, hk3⟩ (by show T.vm.assignable _ _ = _; rw [hW.alike.assignable]; exact hnas)
  have h2 := tc_go (Q := Q9) (E := E9) (e := e) (d := d9) (acts := acts9) (s := ((T.setTop (F0 m pc ls rest)).pushFrame (.throwing q)).setVm (T.vm.noted m.cls y.catchType (.cls cU))) (f := F0 m pc ls rest) (a := q) (x := x) (t := suf) (c := cT) (cell := ce) (b := true) hx h0 (hW1.classLinks hcL) hce hns ⟨k4, hk4⟩ ⟨k5, hk5⟩ (by show (T.vm.noted _ _ _).assignable _ _ = _; rw [hW1.alike.assignable]; exact hasg)
  rw [if_pos rfl] at h2
  rw [if_neg (by decide)] at h1
  exact h1.trans h2
end TC2
