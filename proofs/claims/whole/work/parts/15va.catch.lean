/-- own: the search through a table of one row that names a class which links, and takes the thrown object -/
theorem cu_go {Q : Handler → Pre} {E : CtlPost} {e : Env} {d : Bool} {acts : List Action} {S : State} {f : JFrame} {a : Addr} {x : ExceptionTableEntry} {k : ClassId} {ce : Cell}
    (hx : covers x f.pc = true) (h0 : x.catchType ≠ 0) (hl : S.vm.ClassLinks e.platform f.method.cls x.catchType k) (hce : S.heap[a]? = some ce) (hv : ce.vm = .none)
    (h1 : ∃ w, (S.vm.noted f.method.cls x.catchType (.cls k)).classes[ce.cls]? = some w) (h2 : ∃ w, (S.vm.noted f.method.cls x.catchType (.cls k)).classes[k]? = some w)
    (h3 : (S.vm.noted f.method.cls x.catchType (.cls k)).assignable ce.cls k = true) :
    wp (findHandler.go f a [x]) Q E e d acts S ↔ Q (.found x.handlerPc) d acts (S.setVm (S.vm.noted f.method.cls x.catchType (.cls k))) := by
  have hb : (decide (x.startPc ≤ f.pc) && decide (f.pc < x.endPc)) = true := hx
  have hn : ∀ z, ce.vm ≠ .statics z := fun z hz => by rw [hv] at hz; cases hz
  obtain ⟨u1, u2⟩ := (resolveClass_links e.toSetting hl).op (op := VmOp.resolveClass f.method.cls x.catchType) rfl
  obtain ⟨w1, g1⟩ := h1
  obtain ⟨w2, g2⟩ := h2
  simp [findHandler.go, hb, h0, u1, u2, hce, hn, g1, g2, h3, VmOp.dirties, VmOp.acts]
/-- own: thrown over the frame g, and caught by the only row of the method's table -/
theorem cu_catch {p : Program} {l : Launch} {e : Env} {R : Room} {s : State} {m : MethodId} {args : Array Value} {below : List Frame} {meth : Method} {c : Code} {H : Heap} {locs : List Loc} {cells slots : Nat} {Q : State → Prop} {pc : Nat} {ls : Array Slot} {rest : List Value}
    {own name : String} {E : String} {ce : Cell} {q : Addr} (hown : s.vm.findClass own = some m.cls) (x : ExceptionTableEntry) (htab : c.exceptionTable.toList = [x]) (hx : covers x pc = true) (h0 : x.catchType ≠ 0)
    (hlink : (Cond.classLink own x.catchType name).before args s = true) (hcast : (Cond.castable E name).before args s = true) (hcell : H[q]? = some ce) (hv : ce.vm = .none) (hcl : s.vm.findClass E = some ce.cls)
    (kk : W p l e R s m args below meth c H locs cells slots Q (F0 m x.handlerPc ls [.ref q])) : vx_W p l e R s m args below meth c H locs cells slots Q (F0 m pc ls rest) q := by
  intro T hT X
  obtain ⟨k1, k2, j1, j2, hfit⟩ := Cond.castable_spec hcast
  obtain ⟨k3, j3, hln⟩ := Cond.classLink_spec hown hlink e.platform (by rw [X.admits.platform])
  obtain rfl : k1 = ce.cls := Option.some.inj (j1.symm.trans hcl)
  obtain rfl : k2 = k3 := Option.some.inj (j2.symm.trans j3)
  obtain ⟨_, _, _, w2, hd, _, _, _, _, hw2, _, hopen⟩ := hln.here
  obtain ⟨w1, hw1, -⟩ := Vm.findClass_spec hcl
  have hW : s.WarmedH (T.vm.noted m.cls x.catchType (.cls k2)) := X.warmed.noted hd hopen (State.rightAt_cls hln)
  obtain ⟨y1, hy1, -⟩ := hW.alike.2.2 _ _ hw1
  obtain ⟨y2, hy2, -⟩ := hW.alike.2.2 _ _ hw2
  have X2 := X.noted hW
  obtain ⟨t, a1, b1⟩ := kk (T.setVm (T.vm.noted m.cls x.catchType (.cls k2))) hT X2
  refine ⟨t, ?_, b1⟩
  obtain ⟨g1, hf⟩ := X.frames_eq
  obtain ⟨g2, hf2⟩ := X2.frames_eq
  have hU : (T.setTop (F0 m pc ls rest)).pushFrame (.throwing q) = T.setFrames (.throwing q :: .java (F0 m pc ls rest) :: below) := by
    rw [State.pushFrame, State.frames_setTop _ hf, State.setTop_of_frames _ hf, State.setFrames_setFrames]
  have hF : (T.setFrames (.throwing q :: .java (F0 m pc ls rest) :: below)).frames = .throwing q :: .java (F0 m pc ls rest) :: below := State.frames_setFrames _ (State.cur_lt_of_frames hf)
  rw [hU]
  refine Steps.head ⟨X.here.running, by rw [State.curStatus?_setFrames]; exact X.here.runnable, by rw [State.alone_setFrames]; exact X.here.alone⟩ ⟨[.throwing q, .java (F0 m pc ls rest)], by rw [hF]; rfl, by simp, by simp⟩ ?_
  have hs : (stepThrowing e (T.setFrames (.throwing q :: .java (F0 m pc ls rest) :: below)) q (.java (F0 m pc ls rest) :: below)).1 = (T.setVm (T.vm.noted m.cls x.catchType (.cls k2))).setTop (F0 m x.handlerPc ls [.ref q]) := by
    have hfind : ∀ (Q : Handler → Pre) (E : CtlPost) (d : Bool) (acts : List Action), wp (findHandler (F0 m pc ls rest) q) Q E e d acts (T.setFrames (.throwing q :: .java (F0 m pc ls rest) :: below)) ↔ Q (.found x.handlerPc) d acts ((T.setFrames (.throwing q :: .java (F0 m pc ls rest) :: below)).setVm (T.vm.noted m.cls x.catchType (.cls k2))) := by
      intro Q E d acts
      rw [W.findHandler_eq (meth := meth) (code := c) X.method' X.code, htab]
      exact cu_go (S := T.setFrames (.throwing q :: .java (F0 m pc ls rest) :: below)) (f := F0 m pc ls rest) hx h0 (X.warmed.classLinks hln) (by show T.heap[q]? = some ce; rw [hT]; exact hcell) hv ⟨y1, hy1⟩ ⟨y2, hy2⟩ (by show (T.vm.noted m.cls x.catchType (.cls k2)).assignable _ _ = true; rw [hW.alike.assignable]; exact hfit)
    simp only [stepThrowing, searchFrame, vmDo]
    generalize hr : Sem.go _ e false [] _ = res
    obtain ⟨as, rfl, -⟩ := Sem.eq_ok_of hr (a := Handler.found x.handlerPc) (s' := (T.setFrames (.throwing q :: .java (F0 m pc ls rest) :: below)).setVm (T.vm.noted m.cls x.catchType (.cls k2))) (acts' := []) (by simp [hfind])
    rw [State.setTop_of_frames _ hf2]
    exact First.setVm_setFrames T _ _ _
  rw [stepThread_throwing hF, hs]
  exact a1
