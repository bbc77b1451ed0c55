/-! A callee's throw, caught by the first row of the caller's table, the row's catch type resolved already or not: one step of the machine, by where its own procedure ends. -/
section
variable {e : Env} {S S9 : State} {g : JFrame} {q : Addr}
theorem sx_do {α : Type} {acts acts9 : List Action} {w : Sem α} {kk : α → State → List Action → Out} {v : α}
    (h : wp w (fun v' _ as z => v' = v ∧ z = S9 ∧ as = acts9) (fun _ _ _ => False) e false (unmarked acts) S) : ∃ as, vmDo e S acts w kk = kk v S9 as := by
  obtain ⟨as, h1, -⟩ := Sem.go_eq_ok h
  exact ⟨as, by unfold vmDo; rw [h1]⟩
theorem sx_search {meth : Method} {c : Code} {x : ExceptionTableEntry} {suf : List ExceptionTableEntry} {k : ClassId} {ce : Cell} {Q : Handler → Pre} {E : CtlPost} {d : Bool} {acts : List Action}
    (hm : S.vm.method? g.method = some meth) (hc : meth.code = some c) (htab : c.exceptionTable.toList = x :: suf) (hcov : covers x g.pc = true) (hty : x.catchType ≠ 0)
    (hans : (VmOp.resolveClass g.method.cls x.catchType).answer e S.vm = .ok k) (hland : (VmOp.resolveClass g.method.cls x.catchType).lands e S = .done S9)
    (hcell : S9.heap[q]? = some ce) (hnone : ce.vm = .none) (hc1 : ∃ y, S9.vm.classes[ce.cls]? = some y) (hc2 : ∃ y, S9.vm.classes[k]? = some y) (hfit : S9.vm.assignable ce.cls k = true)
    (hQ : Q (.found x.handlerPc) d acts S9) : wp (findHandler g q) Q E e d acts S := by
  have hne : ¬ ((x.catchType == 0) = true) := fun h => hty (eq_of_beq h)
  refine (Jvm.W.findHandler_eq hm hc).mpr ?_
  rw [htab, findHandler.go, if_pos hcov, if_neg hne, wp_bind']
  refine ⟨S9, hland, ?_⟩
  rw [hans]
  show wp (Jvm.isInstance q k >>= _) Q E e d acts S9
  rw [wp_bind']
  refine (Jvm.W.isInstance q k).mpr ⟨ce, hcell, fun y hy => ?_, hc1, hc2, ?_⟩
  · rw [hnone] at hy
    cases hy
  · rw [hfit]
    exact hQ
theorem sx_step {tb : Tables} {r : List Frame} {pc : Nat} (hf : S.frames = .throwing q :: .java g :: r) (hw : ∀ (Q : Handler → Pre) (E : CtlPost), Q (.found pc) false [] S9 → wp (findHandler g q) Q E e false [] S) :
    (stepThread tb e S).1 = S9.setFrames (.java { g with pc := pc, stack := [.ref q] } :: r) := by
  have h1 : ∃ as, searchFrame e S [] q g g r = (S9.setFrames (.java { g with pc := pc, stack := [.ref q] } :: r), as) := by
    unfold searchFrame
    refine sx_do (v := Handler.found pc) (S9 := S9) (acts9 := []) ?_
    rw [wp_bind']
    refine hw _ _ ?_
    exact (⟨rfl, rfl, rfl⟩ : Handler.found pc = Handler.found pc ∧ S9 = S9 ∧ ([] : List Action) = [])
  obtain ⟨as, h2⟩ := h1
  rw [stepThread_throwing hf]
  exact congrArg Prod.fst h2
end
theorem sx_catch {p : Program} {l : Launch} {e : Env} {R : Room} {s : State} {m : MethodId} {args : Array Value} {below : List Frame} {meth : Method} {c : Code} {H : Heap} {locs : List Loc} {cells slots : Nat} {Q : State → Prop} {pc : Nat} {ls : Array Slot} {rest : List Value}
    {own name : String} {E : String} {ce : Cell} {q : Addr} (hown : s.vm.findClass own = some m.cls) (x : ExceptionTableEntry) (suf : List ExceptionTableEntry) (hsplit : c.exceptionTable.toList = x :: suf)
    (hx : covers x pc = true) (h0 : x.catchType ≠ 0)
    (hlink : (Cond.classLink own x.catchType name).before args s = true) (hcast : (Cond.castable E name).before args s = true) (hcell : H[q]? = some ce) (hv : ce.vm = .none) (hcl : s.vm.findClass E = some ce.cls)
    (kk : W p l e R s m args below meth c H locs cells slots Q (F0 m x.handlerPc ls [.ref q])) : vx_W p l e R s m args below meth c H locs cells slots Q (F0 m pc ls rest) q := by
  intro T hT X
  obtain ⟨k, hk, hlk⟩ := Cond.classLink_spec hown hlink e.platform (by rw [X.admits.platform])
  have hfit : s.vm.assignable ce.cls k = true := by
    obtain ⟨z1, z2, hz1, hz2, hz⟩ := Cond.castable_spec hcast
    rw [Option.some.inj (hcl.symm.trans hz1), Option.some.inj (hk.symm.trans hz2)]
    exact hz
  have hw9 : s.WarmedH (T.vm.noted m.cls x.catchType (.cls k)) := by
    obtain ⟨_, _, _, _, hd, _, _, _, _, _, _, hj⟩ := hlk.here
    exact X.warmed.noted hd hj (State.rightAt_cls hlk)
  have hres := (resolveClass_links e.toSetting (X.warmed.classLinks hlk)).op (op := VmOp.resolveClass m.cls x.catchType) rfl
  have hrec : ∀ {n9 : String} {z : ClassId}, s.vm.findClass n9 = some z → ∃ y, (T.vm.noted m.cls x.catchType (.cls k)).classes[z]? = some y := fun h => by
    rw [← hw9.alike.findClass] at h
    exact Vm.classAt_of_findClass h
  have htb : (VmOp.resolveClass m.cls x.catchType).tables e ((T.setTop (F0 m pc ls rest)).pushFrame (.throwing q)).vm = (T.vm.noted m.cls x.catchType (.cls k)) := hres.2
  have hld : (VmOp.resolveClass m.cls x.catchType).lands e ((T.setTop (F0 m pc ls rest)).pushFrame (.throwing q)) = .done (((T.setTop (F0 m pc ls rest)).pushFrame (.throwing q)).setVm (T.vm.noted m.cls x.catchType (.cls k))) := by
    have h := VmOp.lands_same (op := (VmOp.resolveClass m.cls x.catchType)) (e := e) (s := ((T.setTop (F0 m pc ls rest)).pushFrame (.throwing q))) (by rw [htb]; exact Nat.le_of_eq (Vm.size_noted ..))
    rw [htb] at h
    exact h
  have hst : (stepThread p.tables e ((T.setTop (F0 m pc ls rest)).pushFrame (.throwing q))).1 = (((T.setTop (F0 m pc ls rest)).pushFrame (.throwing q)).setVm (T.vm.noted m.cls x.catchType (.cls k))).setFrames (.java (F0 m x.handlerPc ls [.ref q]) :: T.frames.tail) :=
    sx_step (g := (F0 m pc ls rest)) (pc := x.handlerPc) (frames_entered X.here.top _) (fun Q9 E9 h9 => sx_search (g := (F0 m pc ls rest)) (ce := ce) (k := k) X.method' X.code hsplit hx h0 hres.1 hld (by show T.heap[q]? = some ce; rw [hT]; exact hcell) hv (hrec hcl) (hrec hk)
      (by show (T.vm.noted m.cls x.catchType (.cls k)).assignable ce.cls k = true; rw [hw9.alike.assignable]; exact hfit) h9)
  have htop : (T.setFrames (.java (F0 m x.handlerPc ls [.ref q]) :: T.frames.tail)).setVm (T.vm.noted m.cls x.catchType (.cls k)) = (T.setVm (T.vm.noted m.cls x.catchType (.cls k))).setTop (F0 m x.handlerPc ls [.ref q]) := by
    obtain ⟨f9, hf9⟩ := Option.isSome_iff_exists.mp X.here.top
    obtain ⟨r9, hr9⟩ := State.topJava?_eq_some.mp hf9
    rw [State.setTop_of_frames (s := T.setVm (T.vm.noted m.cls x.catchType (.cls k))) _ hr9, hr9]
    rfl
  have hfr : (((T.setTop (F0 m pc ls rest)).pushFrame (.throwing q)).setVm (T.vm.noted m.cls x.catchType (.cls k))).setFrames (.java (F0 m x.handlerPc ls [.ref q]) :: T.frames.tail) = (T.setVm (T.vm.noted m.cls x.catchType (.cls k))).setTop (F0 m x.handlerPc ls [.ref q]) := by
    rw [← htop, ← State.setFrames_setTop X.here.top (F0 m pc ls rest), ← State.setFrames_pushFrame (T.setTop (F0 m pc ls rest)) _ (.throwing q)]
    rfl
  obtain ⟨t, ht, hQ⟩ := kk (T.setVm (T.vm.noted m.cls x.catchType (.cls k))) hT (X.noted hw9)
  obtain ⟨hgo, hin⟩ := X.here.throwing (g := (F0 m pc ls rest)) q
  refine ⟨t, Steps.head hgo hin ?_, hQ⟩
  rw [hst, hfr]
  exact ht
