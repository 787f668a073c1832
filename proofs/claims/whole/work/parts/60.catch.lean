/-! CAUGHT IN A METHOD'S OWN TABLE: the search by the catch type's link, cold or warm (rounds lie over the library without the shelf that has it) -/
section GC1
variable {Q : Handler → Pre} {E : CtlPost} {e : Env} {d : Bool} {acts : List Action} {s : State} {f : JFrame} {a : Addr}
theorem gc_go {x : ExceptionTableEntry} {t : List ExceptionTableEntry} {c : ClassId} {cell : Cell} (hx : covers x f.pc = true) (h0 : x.catchType ≠ 0) (hl : s.vm.ClassLinks e.platform f.method.cls x.catchType c) (hcell : s.heap[a]? = some cell) (hobj : ∀ k, cell.vm ≠ .statics k) (hk : ∃ k, s.vm.classes[cell.cls]? = some k) (hc : ∃ k, s.vm.classes[c]? = some k) :
    wp (findHandler.go f a (x :: t)) Q E e d acts s ↔ if s.vm.assignable cell.cls c = true then Q (.found x.handlerPc) d acts (s.setVm (s.vm.noted f.method.cls x.catchType (.cls c))) else wp (findHandler.go f a t) Q E e d acts (s.setVm (s.vm.noted f.method.cls x.catchType (.cls c))) := by
  have hx2 := hx
  simp only [covers] at hx2
  obtain ⟨ha, ht⟩ := (resolveClass_links e.toSetting hl).op (op := VmOp.resolveClass f.method.cls x.catchType) rfl
  have hal : s.vm.Alike (s.vm.noted f.method.cls x.catchType (.cls c)) := (Vm.Alike.refl s.vm).noted _ _ _
  obtain ⟨k1, hk1⟩ := hk
  obtain ⟨k2, hk2⟩ := hc
  obtain ⟨k3, hk3, -⟩ := hal.2.2 _ _ hk1
  obtain ⟨k4, hk4, -⟩ := hal.2.2 _ _ hk2
  have hs : (s.vm.noted f.method.cls x.catchType (.cls c)).assignable cell.cls c = s.vm.assignable cell.cls c := by rw [hal.assignable]
  cases hfit : s.vm.assignable cell.cls c with
  | true =>
    rw [hfit] at hs
    simp [findHandler.go, hx2, h0, ha, ht, hcell, hobj, hk3, hk4, hs, VmOp.dirties, VmOp.acts]
  | false =>
    rw [hfit] at hs
    simp [findHandler.go, hx2, h0, ha, ht, hcell, hobj, hk3, hk4, hs, VmOp.dirties, VmOp.acts]
end GC1
theorem gc_step {e : Env} {s : State} {a : Addr} {f : JFrame} {r : List Frame} {pc : Nat} {vm1 : Vm} (hfind : ∀ (Q : Handler → Pre) (E : CtlPost) (d : Bool) (acts : List Action), wp (findHandler f a) Q E e d acts s ↔ Q (.found pc) d acts (s.setVm vm1)) :
    (stepThrowing e s a (.java f :: r)).Is ((s.setVm vm1).setFrames (.java { f with pc := pc, stack := [.ref a] } :: r)) [] := by
  simp only [stepThrowing, searchFrame, vmDo]
  generalize hr : Sem.go _ e false [] s = res
  obtain ⟨as, rfl, ha⟩ := Sem.eq_ok_of hr (a := Handler.found pc) (s' := s.setVm vm1) (acts' := []) (by simp [hfind _ _ _ _])
  exact ⟨rfl, ha⟩
theorem gc_to {tb : Tables} {e : Env} {s target : State} {g : JFrame} {c : Code} {below : List Frame} {a : Addr} (h : At s g.method c below) {pc : Nat} {vm1 : Vm}
    (hfind : ∀ (Q : Handler → Pre) (E : CtlPost) (d : Bool) (acts : List Action), wp (findHandler g a) Q E e d acts ((s.setTop g).pushFrame (.throwing a)) ↔ Q (.found pc) d acts (((s.setTop g).pushFrame (.throwing a)).setVm vm1))
    (hrest : Steps tb e below ((s.setVm vm1).setTop { g with pc := pc, stack := [.ref a] }) target) : Steps tb e below ((s.setTop g).pushFrame (.throwing a)) target := by
  obtain ⟨hgo, hw⟩ := h.throwing a
  refine Steps.head hgo hw ?_
  rw [stepThread_throwing (frames_entered h.top _), (gc_step (s := (s.setTop g).pushFrame (.throwing a)) hfind).1]
  obtain ⟨g0, hg⟩ := Option.isSome_iff_exists.mp h.top
  obtain ⟨r, hr⟩ := State.topJava?_eq_some.mp hg
  have e1 : ∀ (u : State) (F G : List Frame), ((u.setFrames F).setVm vm1).setFrames G = (u.setVm vm1).setFrames G := fun u F G => by
    have h1 : (u.setFrames F).setVm vm1 = (u.setVm vm1).setFrames F := rfl
    rw [h1, State.setFrames_setFrames]
  have hr1 : (s.setVm vm1).frames = .java g0 :: r := hr
  rw [State.setTop_of_frames _ hr1] at hrest
  rw [hr, List.tail_cons, State.pushFrame, e1, State.setTop_of_frames _ hr, e1]
  exact hrest
section GC2
variable {p : Program} {l : Launch} {e : Env} {R : Room} {s : State} {m : MethodId} {args : Array Value} {below : List Frame} {meth : Method} {c : Code} {H : Heap} {locs : List Loc} {cells slots : Nat} {Q : State → Prop} {pc : Nat} {ls : Array Slot} {rest : List Value}
/-- the first row takes it -/
theorem gc_first {own name E : String} {ce : Cell} {q : Addr} (hown : s.vm.findClass own = some m.cls) {x : ExceptionTableEntry} {suf : List ExceptionTableEntry} (htab : c.exceptionTable.toList = x :: suf) (hx : covers x pc = true) (h0 : x.catchType ≠ 0)
    (hlink : (Cond.classLink own x.catchType name).before args s = true) (hcast : va_Nw (.castable E name) s) (hcell : H[q]? = some ce) (hv : ce.vm = .none) (hcl : s.vm.findClass E = some ce.cls)
    (kk : W p l e R s m args below meth c H locs cells slots Q (F0 m x.handlerPc ls [.ref q])) : vx_W p l e R s m args below meth c H locs cells slots Q (F0 m pc ls rest) q := by
  intro T hT X
  have hpl : e.platform.magicAccessors = ({} : Platform).magicAccessors := by rw [X.admits.platform]
  obtain ⟨c3, c4, hc3, hc4, hasg⟩ := Cond.castable_spec (va_Nw.use (A := args) rfl hcast)
  cases Option.some.inj (hc3.symm.trans hcl)
  obtain ⟨c5, hc5, hk5⟩ := Cond.classLink_spec hown hlink e.platform hpl
  cases Option.some.inj (hc4.symm.trans hc5)
  obtain ⟨dk, _, _, kt, hd, _, _, _, _, hkt, _, hop⟩ := hk5.here
  have hal := X.warmed.alike
  obtain ⟨kt2, hkt2, -⟩ := hal.2.2 _ _ hkt
  obtain ⟨k9, h9, -⟩ := Vm.findClass_spec hcl
  obtain ⟨k8, h8, -⟩ := hal.2.2 _ _ h9
  have hW : s.WarmedH (T.vm.noted m.cls x.catchType (.cls c4)) := X.warmed.noted hd hop (State.rightAt_cls hk5)
  have hfit : T.vm.assignable ce.cls c4 = true := by rw [hal.assignable]; exact hasg
  obtain ⟨t, a1, b1⟩ := kk (T.setVm (T.vm.noted m.cls x.catchType (.cls c4))) hT (X.noted hW)
  refine ⟨t, gc_to (g := F0 m pc ls rest) X.here (pc := x.handlerPc) (vm1 := T.vm.noted m.cls x.catchType (.cls c4)) (fun Q E d acts => ?_) a1, b1⟩
  rw [W.findHandler_eq (s := (T.setTop (F0 m pc ls rest)).pushFrame (.throwing q)) (f := F0 m pc ls rest) (meth := meth) (code := c) X.method' X.code, htab]
  have h7 := gc_go (Q := Q) (E := E) (e := e) (d := d) (acts := acts) (s := (T.setTop (F0 m pc ls rest)).pushFrame (.throwing q)) (f := F0 m pc ls rest) (a := q) (x := x) (t := suf) (c := c4) (cell := ce) hx h0 (X.warmed.classLinks hk5) (by show T.heap[q]? = some ce; rw [hT]; exact hcell) (VmData.ne_statics_of (by rw [hv]; rfl)) ⟨k8, h8⟩ ⟨kt2, hkt2⟩
  rw [h7]
  exact iff_of_eq (if_pos hfit)
/-- the first row doesn't take it, the second does -/
theorem gc_second {own name nm E : String} {ce : Cell} {q : Addr} (hown : s.vm.findClass own = some m.cls) {x y : ExceptionTableEntry} {suf : List ExceptionTableEntry} (htab : c.exceptionTable.toList = y :: x :: suf) (hy : covers y pc = true) (hy0 : y.catchType ≠ 0) (hx : covers x pc = true) (h0 : x.catchType ≠ 0)
    (hylink : (Cond.classLink own y.catchType nm).before args s = true) (hno : va_Nc E nm s) (hlink : (Cond.classLink own x.catchType name).before args s = true) (hcast : va_Nw (.castable E name) s) (hcell : H[q]? = some ce) (hv : ce.vm = .none) (hcl : s.vm.findClass E = some ce.cls)
    (kk : W p l e R s m args below meth c H locs cells slots Q (F0 m x.handlerPc ls [.ref q])) : vx_W p l e R s m args below meth c H locs cells slots Q (F0 m pc ls rest) q := by
  intro T hT X
  have hpl : e.platform.magicAccessors = ({} : Platform).magicAccessors := by rw [X.admits.platform]
  obtain ⟨c3, c4, hc3, hc4, hasg⟩ := Cond.castable_spec (va_Nw.use (A := args) rfl hcast)
  cases Option.some.inj (hc3.symm.trans hcl)
  obtain ⟨c5, hc5, hk5⟩ := Cond.classLink_spec hown hlink e.platform hpl
  cases Option.some.inj (hc4.symm.trans hc5)
  obtain ⟨a8, b8, n1, n2, n3⟩ := hno
  cases Option.some.inj (n1.symm.trans hcl)
  obtain ⟨c6, hc6, hk6⟩ := Cond.classLink_spec hown hylink e.platform hpl
  cases Option.some.inj (n2.symm.trans hc6)
  obtain ⟨dk, _, _, kt, hd, _, _, _, _, hkt, _, hop⟩ := hk5.here
  obtain ⟨dj, _, _, kj, hdj, _, _, _, _, hkj, _, hoj⟩ := hk6.here
  have hW1 : s.WarmedH (T.vm.noted m.cls y.catchType (.cls b8)) := X.warmed.noted hdj hoj (State.rightAt_cls hk6)
  have hW2 : s.WarmedH ((T.vm.noted m.cls y.catchType (.cls b8)).noted m.cls x.catchType (.cls c4)) := hW1.noted hd hop (State.rightAt_cls hk5)
  have hal := X.warmed.alike
  have hal1 := hW1.alike
  obtain ⟨kj2, hkj2, -⟩ := hal.2.2 _ _ hkj
  obtain ⟨kt2, hkt2, -⟩ := hal1.2.2 _ _ hkt
  obtain ⟨k9, h9, -⟩ := Vm.findClass_spec hcl
  obtain ⟨k8, h8, -⟩ := hal.2.2 _ _ h9
  obtain ⟨k7, h7, -⟩ := hal1.2.2 _ _ h9
  have hfit : (T.vm.noted m.cls y.catchType (.cls b8)).assignable ce.cls c4 = true := by rw [hal1.assignable]; exact hasg
  have hnot : T.vm.assignable ce.cls b8 = false := by rw [hal.assignable]; exact n3
  obtain ⟨t, a1, b1⟩ := kk (T.setVm ((T.vm.noted m.cls y.catchType (.cls b8)).noted m.cls x.catchType (.cls c4))) hT (X.noted hW2)
  refine ⟨t, gc_to (g := F0 m pc ls rest) X.here (pc := x.handlerPc) (vm1 := (T.vm.noted m.cls y.catchType (.cls b8)).noted m.cls x.catchType (.cls c4)) (fun Q E d acts => ?_) a1, b1⟩
  rw [W.findHandler_eq (s := (T.setTop (F0 m pc ls rest)).pushFrame (.throwing q)) (f := F0 m pc ls rest) (meth := meth) (code := c) X.method' X.code, htab]
  have g1 := gc_go (Q := Q) (E := E) (e := e) (d := d) (acts := acts) (s := (T.setTop (F0 m pc ls rest)).pushFrame (.throwing q)) (f := F0 m pc ls rest) (a := q) (x := y) (t := x :: suf) (c := b8) (cell := ce) hy hy0 (X.warmed.classLinks hk6) (by show T.heap[q]? = some ce; rw [hT]; exact hcell) (VmData.ne_statics_of (by rw [hv]; rfl)) ⟨k8, h8⟩ ⟨kj2, hkj2⟩
  have g2 := gc_go (Q := Q) (E := E) (e := e) (d := d) (acts := acts) (s := ((T.setTop (F0 m pc ls rest)).pushFrame (.throwing q)).setVm (T.vm.noted m.cls y.catchType (.cls b8))) (f := F0 m pc ls rest) (a := q) (x := x) (t := suf) (c := c4) (cell := ce) hx h0 (hW1.classLinks hk5) (by show T.heap[q]? = some ce; rw [hT]; exact hcell) (VmData.ne_statics_of (by rw [hv]; rfl)) ⟨k7, h7⟩ ⟨kt2, hkt2⟩
  have hnot2 : ¬ (((T.setTop (F0 m pc ls rest)).pushFrame (.throwing q)).vm.assignable ce.cls b8 = true) := fun z => by
    have z : T.vm.assignable ce.cls b8 = true := z
    rw [hnot] at z
    cases z
  rw [g1, if_neg hnot2]
  exact g2.trans (iff_of_eq (if_pos hfit))
end GC2
