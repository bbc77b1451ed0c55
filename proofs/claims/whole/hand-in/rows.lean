section
-- ===== PART A: goes FIRST, ahead of the names: the tables' words, and 'selects' of the private methods out of them =====
/-- a private method of a class that the tables say can be made, by its rows of tables_1 -/
def lw_okq (q : MethodName × Nat) : Prop := (q.1.cls ≠ "java/lang/invoke/MethodHandle" ∧ q.1.cls ≠ "java/lang/invoke/VarHandle") ∧ Cond.instantiable q.1.cls q.2 ∈ tables_1 ∧ Cond.privateMethod q.1 ∈ tables_1 ∧ Cond.instanceMethod q.1 ∈ tables_1
theorem lw_p0 : lw_okq (⟨"SegmentBox", "window", "()I"⟩, 6) := ⟨⟨by decide +kernel, by decide +kernel⟩, List.mem_of_getElem? (i := 10) (by decide +kernel), List.mem_of_getElem? (i := 46) (by decide +kernel), List.mem_of_getElem? (i := 47) (by decide +kernel)⟩
theorem lw_p1 : lw_okq (⟨"SegmentBox", "isHeldFrom", "(I)Z"⟩, 6) := ⟨⟨by decide +kernel, by decide +kernel⟩, List.mem_of_getElem? (i := 10) (by decide +kernel), List.mem_of_getElem? (i := 50) (by decide +kernel), List.mem_of_getElem? (i := 51) (by decide +kernel)⟩
theorem lw_p2 : lw_okq (⟨"SegmentBox", "isHeldAhead", "(I)Z"⟩, 6) := ⟨⟨by decide +kernel, by decide +kernel⟩, List.mem_of_getElem? (i := 10) (by decide +kernel), List.mem_of_getElem? (i := 65) (by decide +kernel), List.mem_of_getElem? (i := 66) (by decide +kernel)⟩
theorem lw_p3 : lw_okq (⟨"java/lang/Throwable", "fillInStackTrace", "(I)Ljava/lang/Throwable;"⟩, 6) := ⟨⟨by decide +kernel, by decide +kernel⟩, List.mem_of_getElem? (i := 114) (by decide +kernel), List.mem_of_getElem? (i := 112) (by decide +kernel), List.mem_of_getElem? (i := 113) (by decide +kernel)⟩
theorem lw_p4 : lw_okq (⟨"SegmentBox", "takeByte", "(IB)V"⟩, 6) := ⟨⟨by decide +kernel, by decide +kernel⟩, List.mem_of_getElem? (i := 10) (by decide +kernel), List.mem_of_getElem? (i := 139) (by decide +kernel), List.mem_of_getElem? (i := 140) (by decide +kernel)⟩
theorem lw_p5 : lw_okq (⟨"SegmentBox", "isBeforeEnd", "(I)Z"⟩, 6) := ⟨⟨by decide +kernel, by decide +kernel⟩, List.mem_of_getElem? (i := 10) (by decide +kernel), List.mem_of_getElem? (i := 143) (by decide +kernel), List.mem_of_getElem? (i := 144) (by decide +kernel)⟩
theorem lw_p6 : lw_okq (⟨"SegmentBox", "moveOn", "()I"⟩, 6) := ⟨⟨by decide +kernel, by decide +kernel⟩, List.mem_of_getElem? (i := 10) (by decide +kernel), List.mem_of_getElem? (i := 147) (by decide +kernel), List.mem_of_getElem? (i := 148) (by decide +kernel)⟩
theorem lw_p7 : lw_okq (⟨"SegmentBox", "blockStarts", "()J"⟩, 6) := ⟨⟨by decide +kernel, by decide +kernel⟩, List.mem_of_getElem? (i := 10) (by decide +kernel), List.mem_of_getElem? (i := 164) (by decide +kernel), List.mem_of_getElem? (i := 165) (by decide +kernel)⟩
theorem lw_p8 : lw_okq (⟨"SegmentBox", "startOfBlock", "(I)I"⟩, 6) := ⟨⟨by decide +kernel, by decide +kernel⟩, List.mem_of_getElem? (i := 10) (by decide +kernel), List.mem_of_getElem? (i := 192) (by decide +kernel), List.mem_of_getElem? (i := 193) (by decide +kernel)⟩
theorem lw_p9 : lw_okq (⟨"SegmentBox", "lengthOfBlock", "(I)I"⟩, 6) := ⟨⟨by decide +kernel, by decide +kernel⟩, List.mem_of_getElem? (i := 10) (by decide +kernel), List.mem_of_getElem? (i := 196) (by decide +kernel), List.mem_of_getElem? (i := 197) (by decide +kernel)⟩
theorem lw_p10 : lw_okq (⟨"SegmentBoxModel", "up", "()V"⟩, 8) := ⟨⟨by decide +kernel, by decide +kernel⟩, List.mem_of_getElem? (i := 200) (by decide +kernel), List.mem_of_getElem? (i := 245) (by decide +kernel), List.mem_of_getElem? (i := 246) (by decide +kernel)⟩
theorem lw_p11 : lw_okq (⟨"SegmentBoxModel", "from", "(I)I"⟩, 8) := ⟨⟨by decide +kernel, by decide +kernel⟩, List.mem_of_getElem? (i := 200) (by decide +kernel), List.mem_of_getElem? (i := 261) (by decide +kernel), List.mem_of_getElem? (i := 262) (by decide +kernel)⟩
def lw_privs_1 : List (MethodName × Nat) := [(⟨"SegmentBox", "window", "()I"⟩, 6), (⟨"SegmentBox", "isHeldFrom", "(I)Z"⟩, 6), (⟨"SegmentBox", "isHeldAhead", "(I)Z"⟩, 6), (⟨"java/lang/Throwable", "fillInStackTrace", "(I)Ljava/lang/Throwable;"⟩, 6), (⟨"SegmentBox", "takeByte", "(IB)V"⟩, 6), (⟨"SegmentBox", "isBeforeEnd", "(I)Z"⟩, 6), (⟨"SegmentBox", "moveOn", "()I"⟩, 6), (⟨"SegmentBox", "blockStarts", "()J"⟩, 6), (⟨"SegmentBox", "startOfBlock", "(I)I"⟩, 6), (⟨"SegmentBox", "lengthOfBlock", "(I)I"⟩, 6), (⟨"SegmentBoxModel", "up", "()V"⟩, 8), (⟨"SegmentBoxModel", "from", "(I)I"⟩, 8)]
theorem lw_r1 : ∀ q ∈ lw_privs_1, lw_okq q := List.forall_mem_cons.mpr ⟨lw_p0, List.forall_mem_cons.mpr ⟨lw_p1, List.forall_mem_cons.mpr ⟨lw_p2, List.forall_mem_cons.mpr ⟨lw_p3, List.forall_mem_cons.mpr ⟨lw_p4, List.forall_mem_cons.mpr ⟨lw_p5, List.forall_mem_cons.mpr ⟨lw_p6, List.forall_mem_cons.mpr ⟨lw_p7, List.forall_mem_cons.mpr ⟨lw_p8, List.forall_mem_cons.mpr ⟨lw_p9, List.forall_mem_cons.mpr ⟨lw_p10, List.forall_mem_cons.mpr ⟨lw_p11, fun _ h => absurd h List.not_mem_nil⟩⟩⟩⟩⟩⟩⟩⟩⟩⟩⟩⟩
def lw_privs : List (MethodName × Nat) := lw_privs_1
def lw_tbl : List Cond := k2_sels lw_privs ++ tables_1
theorem lw_privs_ok : ∀ q ∈ lw_privs, lw_okq q := lw_r1
/-! ===== BEGIN words of one list among another's, by their places ===== -/
theorem goodIn_r {big : List Cond} (ws : List Cond) (ps : List Nat) (hp : ws = ps.filterMap (fun i => big[i]?)) (h : ws.all goodWord = true) : GoodIn big ws := by
  intro w hw
  have h1 := List.all_eq_true.mp h w hw
  rw [hp] at hw
  obtain ⟨i, -, hi⟩ := List.mem_filterMap.mp hw
  have hm : w ∈ big := by first | exact List.mem_of_getElem? hi | exact List.getElem?_mem hi
  exact ⟨hm, good_of_word h1⟩
theorem goodIn_app {big a b : List Cond} (ha : GoodIn big a) (hb : GoodIn big b) : GoodIn big (a ++ b) := fun w h => (List.mem_append.mp h).elim (ha w) (hb w)
theorem goodIn_ca {big a b : List Cond} {c : Cond} (ha : GoodIn big (c :: a)) (hb : GoodIn big b) : GoodIn big (c :: (a ++ b)) := fun w h => (List.mem_cons.mp h).elim (fun e => ha w (List.mem_cons.mpr (Or.inl e))) (fun h => (List.mem_append.mp h).elim (fun h => ha w (List.mem_cons.mpr (Or.inr h))) (hb w))
theorem goodIn_sub {big ws : List Cond} (hm : ∀ w ∈ ws, w ∈ big) (h : ws.all goodWord = true) : GoodIn big ws := fun w hw => ⟨hm w hw, good_of_word (List.all_eq_true.mp h w hw)⟩
/-! ===== END ===== -/

/-! ===== BEGIN exceptions that leave a method, and their catching by the caller (launches without stack traces) ===== -/
section VXA
/-! The laws vx_back, vx_callV, vx_callS, vx_callSW, vx_throw0, vx_throwS follow proofs of the library, with one case more: JvmDerived/Free/Laws.lean (Back.of_free), Shelf42/LK1.lean (callV, callS), Shelf/KitTraced.lean (throwNew0V, throwNewS). -/
/-- where a method has thrown q: the class by its name, the cell, what was written, the world -/
def vx_T (XC : String → State → State → Prop) (st : State) (q : Addr) (t : State) (mc ms : Nat) (free : Addr → Prop) : Prop :=
  ∃ (E : String) (ce : Cell) (L : List Loc), XC E st t ∧ t.heap[q]? = some ce ∧ ce.vm = .none ∧ st.vm.findClass E = some ce.cls ∧ st.WarmedH t.vm ∧ st.sameButNew ({ t with vm := st.vm } : State) L mc ms ∧ ∀ z ∈ L, free z.base
def vx_Q (Qc : Array Value → State → Outcome → State → Prop) (XC : String → State → State → Prop) (mc ms : Nat) (free : Addr → Prop) : Array Value → State → Outcome → State → Prop := fun a st o t =>
  (Qc a st o t ∧ ∃ L, FrameEnd st o t L mc ms ∧ ∀ q ∈ L, free q.base) ∨ ∃ q, o = .threw q ∧ vx_T XC st q t mc ms free
/-- a callee that returns or throws -/
def vx_Met (l : Launch) (y : MethodName) (ws : List Cond) (rm : Room) (Pc : Array Value → State → Prop) (Qc : Array Value → State → Outcome → State → Prop) (XC : String → State → State → Prop) (mc ms : Nat) (free : Addr → Prop) : Prop :=
  MetFree l y (headSpec ws rm) Pc (fun _ _ _ _ _ => True) (vx_Q Qc XC mc ms free)
def vx_Post (XC : String → State → State → Prop) (mc ms : Nat) (free : Addr → Prop) : Pt → Array Value → Addr → Pt → Prop := fun A a q B =>
  ∃ (g : JFrame) (mk : MethodId) (t : State) (L : List Loc) (E : String) (ce : Cell), B.U.heap = t.heap ∧ B.U.vm = t.vm ∧ XC E (A.U.calling g mk a) t ∧ t.heap[q]? = some ce ∧ ce.vm = .none ∧ A.U.vm.findClass E = some ce.cls ∧ B.locs = A.locs ++ L ∧ (∀ z ∈ L, free z.base) ∧ B.cells = A.cells + mc ∧ B.slots = A.slots + ms
def vx_Back (l : Launch) (R : Room) (p : Program) (e : Env) (below : List Frame) (s : State) (sargs : Array Value) (y : MethodName) (len W9 : Nat)
    (Pre : Pt → Array Value → Prop) (Post : Pt → Array Value → Option Value → Pt → Prop) (PostX : Pt → Array Value → Addr → Pt → Prop) : Prop :=
  ∀ (m : MethodId) (meth : Method) (c : Code) (A : Pt) (g : JFrame) (ig : Instr) (mk : MethodId) (a : Array Value),
    Stand p l e R s m sargs below meth c A.U A.locs A.cells A.slots → g.method = m → g.locals.size = c.maxLocals → decode c.code g.pc = .ok (ig, len) →
    2 * g.monitorRoom + (g.stack.map fun v => v.category).sum ≤ W9 → A.U.methodNamed? y = some mk → Pre A a →
    (∃ (v : Option Value) (B : Pt), Stand p l e R s m sargs below meth c B.U B.locs B.cells B.slots ∧ Post A a v B ∧
      Steps p.tables e below (doInvoke e (A.U.setTop g) [] mk a).1 (B.U.setTop { g with pc := g.pc + len, stack := v.toList ++ g.stack })) ∨
    (∃ (q : Addr) (B : Pt), Stand p l e R s m sargs below meth c B.U B.locs B.cells B.slots ∧ PostX A a q B ∧
      Steps p.tables e below (doInvoke e (A.U.setTop g) [] mk a).1 ((B.U.setTop g).pushFrame (.throwing q)))
section Payer
variable {l : Launch} {R : Room} {p : Program} {e : Env} {below : List Frame} {s : State} {sargs : Array Value} {y : MethodName} {len W9 : Nat}
theorem vx_back {ws : List Cond} {rm : Room} {Pc : Array Value → State → Prop} {Qc : Array Value → State → Outcome → State → Prop} {XC : String → State → State → Prop} {mc ms : Nat} {free : Addr → Prop} {bytes : ByteArray} {maxL : Nat} {ret : Option FieldType}
    (hM : vx_Met l y ws rm Pc Qc XC mc ms free) (hblind : FrameBlind Pc) (hrc : rm.cells = mc) (hrs : rm.slots = ms)
    (hframes : rm.frames + 1 ≤ R.frames) (hlocals : W9 + (maxL + 11) + rm.locals ≤ R.locals)
    (hws : ∀ w ∈ ws, ∀ a' U, s.WarmedH U.vm → w.before a' U = true) (hcode : Cond.code y bytes maxL ret ∈ ws) (hinit : ∀ a' U, s.WarmedH U.vm → (Cond.initialized y.cls).before a' U = true) :
    vx_Back l R p e below s sargs y len W9 (PreOf R mc ms Pc) (PostOf Qc mc ms free) (vx_Post XC mc ms free) := by
  intro m meth c A g ig mk a X hg hsize hdg hW hn hp
  have h1 : (headSpec ws rm).pre.before a A.U = true := atoms_intro fun w hw => hws w hw _ _ X.warmed
  have h2 : (Cond.code y bytes maxL ret).before a A.U = true := hws _ hcode _ _ X.warmed
  have h3 : (Cond.initialized y.cls).before a A.U = true := hinit _ _ X.warmed
  have h4 : A.cells + (headSpec ws rm).room.cells ≤ R.cells := by rw [show (headSpec ws rm).room.cells = mc from hrc]; exact hp.1
  have h5 : A.slots + (headSpec ws rm).room.slots ≤ R.slots := by rw [show (headSpec ws rm).room.slots = ms from hrs]; exact hp.2.1
  have hPc : Pc a (A.U.calling g mk a) := hblind _ _ _ _ hp.2.2
  obtain ⟨U, Ls, c0, s0⟩ := A
  dsimp only [Pt.U, Pt.locs, Pt.cells, Pt.slots] at h1 h2 h3 h4 h5 X hn hPc ⊢
  obtain ⟨methY, cY, hmY, hcY, -, hlY, -, -, -, -⟩ := Cond.code_spec hn h2
  obtain ⟨kY, hkY, -⟩ := className_of_methodNamed hn
  have hinitY : kY.init = .initialized := Cond.initialized_spec (findClass_of_methodNamed hn) hkY h3
  have h : At U g.method c below := by rw [hg]; exact X.here
  have hlocals9 : W9 + (maxL + 11) + (headSpec ws rm).room.locals ≤ R.locals := hlocals
  have happ : (headSpec ws rm).appliesLoose y e.platform (U.calling g mk a) = true :=
    Spec.appliesLoose_calling (g := g) h hdg hn hkY hinitY
      (X.room_calling (g := g) (R' := (headSpec ws rm).room) hsize hmY hcY hframes (by rw [hlY]; omega) h4 h5) h1
  obtain ⟨mid, hmid⟩ := h.above
  have hfr : (U.setTop g).frames = (.java g :: mid) ++ below := by rw [State.frames_setTop' g h.top, hmid]; rfl
  obtain ⟨o, s₂, hsteps, -, hend, hq⟩ := Steps.callFree hM p X.admits X.cas X.clock (acts := []) hfr happ hPc trivial
  have hq' : vx_Q Qc XC mc ms free a (U.calling g mk a) o s₂ := hq
  rw [State.frames_setTop' g h.top] at hend
  obtain ⟨g₀, hg0⟩ := Option.isSome_iff_exists.mp h.top
  obtain ⟨r, hr⟩ := State.topJava?_eq_some.mp hg0
  have hr' : (({ U with heap := s₂.heap, slotsUsed := s₂.slotsUsed } : State).setVm s₂.vm).frames = .java g₀ :: r := hr
  rcases hq' with ⟨hqc, L, hfe, hL⟩ | ⟨q, rfl, E, ce, L, hx, hce, hcv, hcl, hW₂, hsm, hL⟩
  · obtain ⟨⟨v, rfl⟩, hW₂, e2, q2, q3, q4, q5, q6⟩ := id hfe
    have e3 : s₂ = ({ (U.calling g mk a).setFrames s₂.frames with heap := s₂.heap, slotsUsed := s₂.slotsUsed } : State).setVm s₂.vm := by
      have : s₂ = ({ s₂ with vm := (U.calling g mk a).vm } : State).setVm s₂.vm := rfl
      rw [e2] at this
      exact this
    obtain ⟨c₂, i₂, len₂, hc₂, hd₂, hf₂⟩ := hend
    have hW' : U.WarmedH s₂.vm := hW₂
    have hcc : c₂ = c := by
      have h1 : s₂.code? g.method = U.code? g.method := by
        rw [State.code?_eq, State.code?_eq, hW'.alike.method?]
      exact Option.some.inj (hc₂.symm.trans (h1.trans h.code))
    subst hcc
    have hlen : len₂ = len := by rw [hdg] at hd₂; cases hd₂; rfl
    subst hlen
    have hs₂ : s₂ = (({ U with heap := s₂.heap, slotsUsed := s₂.slotsUsed } : State).setVm s₂.vm).setTop { g with pc := g.pc + len₂, stack := v.toList ++ g.stack } := by
      refine e3.trans ?_
      rw [hf₂, State.calling_eq h.top, State.setFrames_setFrames, State.setTop_of_frames _ hr', hr]
      rfl
    have hsame : U.sameButNew ({ U with heap := s₂.heap, slotsUsed := s₂.slotsUsed } : State) L mc ms := by
      refine ⟨?_, q2, q3, q4, q5, q6⟩
      obtain ⟨t, ht, -⟩ := State.frames_cons hr
      show ({ U with heap := s₂.heap, slotsUsed := s₂.slotsUsed } : State) = { U.setFrames U.frames with heap := s₂.heap, slotsUsed := s₂.slotsUsed }
      rw [State.setFrames_self ht]
    subst hg
    refine Or.inl ⟨v, ⟨(({ U with heap := s₂.heap, slotsUsed := s₂.slotsUsed } : State).setVm s₂.vm), Ls ++ L, c0 + mc, s0 + ms⟩,
      ⟨X.admits, X.cas, X.clock, X.frames, X.room, X.hears, X.method, X.code, (X.here.setHeapUsed s₂.heap s₂.slotsUsed).setVm hW'.alike, X.tail, State.WarmedH.trans X.warmed hW', X.limits, X.bytes, X.same.trans (hsame.setVm s.vm)⟩,
      ⟨g, mk, s₂, L, rfl, rfl, hqc, rfl, hL, rfl, rfl⟩, ?_⟩
    show Steps p.tables e below _ ((({ U with heap := s₂.heap, slotsUsed := s₂.slotsUsed } : State).setVm s₂.vm).setTop { g with pc := g.pc + len₂, stack := v.toList ++ g.stack })
    rw [← hs₂]
    exact hsteps
  · obtain ⟨e2, q2, q3, q4, q5, q6⟩ := id hsm
    have e3 : s₂ = ({ (U.calling g mk a).setFrames s₂.frames with heap := s₂.heap, slotsUsed := s₂.slotsUsed } : State).setVm s₂.vm := by
      have : s₂ = ({ s₂ with vm := (U.calling g mk a).vm } : State).setVm s₂.vm := rfl
      rw [e2] at this
      exact this
    have hf₂ : s₂.frames = .throwing q :: .java g :: U.frames.tail := hend
    have hW' : U.WarmedH s₂.vm := hW₂
    have hs₂ : s₂ = ((({ U with heap := s₂.heap, slotsUsed := s₂.slotsUsed } : State).setVm s₂.vm).setTop g).pushFrame (.throwing q) := by
      refine e3.trans ?_
      rw [hf₂, State.calling_eq h.top, State.setFrames_setFrames, State.pushFrame, State.frames_setTop _ hr', State.setTop_of_frames _ hr', State.setFrames_setFrames, hr]
      rfl
    have hsame : U.sameButNew ({ U with heap := s₂.heap, slotsUsed := s₂.slotsUsed } : State) L mc ms := by
      refine ⟨?_, q2, q3, q4, q5, q6⟩
      obtain ⟨t, ht, -⟩ := State.frames_cons hr
      show ({ U with heap := s₂.heap, slotsUsed := s₂.slotsUsed } : State) = { U.setFrames U.frames with heap := s₂.heap, slotsUsed := s₂.slotsUsed }
      rw [State.setFrames_self ht]
    subst hg
    refine Or.inr ⟨q, ⟨(({ U with heap := s₂.heap, slotsUsed := s₂.slotsUsed } : State).setVm s₂.vm), Ls ++ L, c0 + mc, s0 + ms⟩,
      ⟨X.admits, X.cas, X.clock, X.frames, X.room, X.hears, X.method, X.code, (X.here.setHeapUsed s₂.heap s₂.slotsUsed).setVm hW'.alike, X.tail, State.WarmedH.trans X.warmed hW', X.limits, X.bytes, X.same.trans (hsame.setVm s.vm)⟩,
      ⟨g, mk, s₂, L, E, ce, rfl, rfl, hx, hce, hcv, hcl, rfl, hL, rfl, rfl⟩, ?_⟩
    show Steps p.tables e below _ (((({ U with heap := s₂.heap, slotsUsed := s₂.slotsUsed } : State).setVm s₂.vm).setTop g).pushFrame (.throwing q))
    rw [← hs₂]
    exact hsteps
end Payer
section Calls
variable {p : Program} {l : Launch} {e : Env} {R : Room} {s : State} {m : MethodId} {args : Array Value} {below : List Frame} {meth : Method} {c : Code} {T : State} {locs : List Loc} {cells slots : Nat}
theorem vx_callV (X : Stand p l e R s m args below meth c T locs cells slots) (hexec : p.tables.exec = Jvm.exec) {own C : String} {index : Nat} {y : MethodName} {bytes : ByteArray} {maxL : Nat} {ret : Option FieldType}
    (hown : s.vm.findClass own = some m.cls) (hlink : (Cond.methodLink own index y).before args s = true) (hinst : (Cond.instanceMethod y).before args s = true) (hsel : (Cond.selects C y y).before args s = true)
    (hcode : (Cond.code y bytes maxL ret).before args s = true) (hy : y.cls ≠ "java/lang/invoke/MethodHandle" ∧ y.cls ≠ "java/lang/invoke/VarHandle")
    {W9 : Nat} {Pre : Pt → Array Value → Prop} {Post : Pt → Array Value → Option Value → Pt → Prop} {PostX : Pt → Array Value → Addr → Pt → Prop} (hK : vx_Back l R p e below s args y 3 W9 Pre Post PostX)
    {b : Addr} {cellB : Cell} (hcell : T.heap[b]? = some cellB) (hobj : cellB.vm.isStatics = false) (hcls : s.vm.findClass C = some cellB.cls)
    {g : JFrame} (hg : g.method = m) (hsize : g.locals.size = c.maxLocals) {argsL rest : List Value} (hlen : ∀ sig, parseMethodDescriptor y.desc = some sig → argsL.length = sig.parameters.length)
    (hstack : g.stack = argsL.reverse ++ .ref b :: rest) (hW : 2 * g.monitorRoom + (rest.map fun v => v.category).sum ≤ W9) (hdg : decode c.code g.pc = .ok (.invokevirtual index, 3))
    (hpre : ∀ vm₁, s.WarmedH vm₁ → Pre ⟨T.setVm vm₁, locs, cells, slots⟩ (Value.ref b :: argsL).toArray) :
    (∃ (v : Option Value) (vm₁ : Vm) (B : Pt), s.WarmedH vm₁ ∧ Stand p l e R s m args below meth c B.U B.locs B.cells B.slots ∧ Post ⟨T.setVm vm₁, locs, cells, slots⟩ (Value.ref b :: argsL).toArray v B ∧
      ∀ target, Steps p.tables e below (B.U.setTop { g with pc := g.pc + 3, stack := v.toList ++ rest }) target → Steps p.tables e below (T.setTop g) target) ∨
    (∃ (q : Addr) (vm₁ : Vm) (B : Pt), s.WarmedH vm₁ ∧ Stand p l e R s m args below meth c B.U B.locs B.cells B.slots ∧ PostX ⟨T.setVm vm₁, locs, cells, slots⟩ (Value.ref b :: argsL).toArray q B ∧
      Steps p.tables e below (T.setTop g) ((B.U.setTop { g with stack := rest }).pushFrame (.throwing q))) := by
  obtain ⟨mk, methM, hnamed, hmethM, hstM, habM⟩ := Cond.instanceMethod_spec hinst
  obtain ⟨methM', cM, hmethM', -, -, -, -, -, -, hsigM⟩ := Cond.code_spec hnamed hcode
  cases hmethM.symm.trans hmethM'
  obtain ⟨c2, r2, m2, q1, q2, q3, q4, kP, hkP, hkPi⟩ := Cond.selects_spec hsel
  cases hcls.symm.trans q1
  cases (State.methodFound?_of_named hnamed hy).symm.trans q2
  cases hnamed.symm.trans q3
  have hselP : selectMethod e.platform s.vm cellB.cls mk = .method mk := by rw [Launch.admits_selectMethod X.admits]; exact q4
  obtain ⟨vm₁, X₁, hstep₁⟩ := X.invokevirtual hexec hown hlink hnamed hmethM hstM hkP hkPi hy (a := b) (cell := cellB) hcell
    (fun z h => by rw [h] at hobj; cases hobj) hselP hmethM habM hkP hkPi (g := g) hg (argsL := argsL) (rest := rest) (hlen _ hsigM) hstack hdg
  rcases hK m meth c ⟨T.setVm vm₁, locs, cells, slots⟩ { g with stack := rest } (.invokevirtual index) mk (Value.ref b :: argsL).toArray X₁ hg hsize hdg hW (X₁.named hnamed) (hpre vm₁ X₁.warmed) with ⟨v, B, X', hpost, hsteps⟩ | ⟨q, B, X', hpost, hsteps⟩
  · exact Or.inl ⟨v, vm₁, B, X₁.warmed, X', hpost, fun target h => hstep₁ _ fun acts => by rw [doInvoke_state]; exact hsteps.trans h⟩
  · exact Or.inr ⟨q, vm₁, B, X₁.warmed, X', hpost, hstep₁ _ fun acts => by rw [doInvoke_state]; exact hsteps⟩
theorem vx_callS (X : Stand p l e R s m args below meth c T locs cells slots) (hexec : p.tables.exec = Jvm.exec) {own : String} {index : Nat} {y : MethodName} {bytes : ByteArray} {maxL : Nat} {ret : Option FieldType}
    (hown : s.vm.findClass own = some m.cls) (hlink : (Cond.methodLink own index y).before args s = true) (hstat : (Cond.static y).before args s = true) (hinit : (Cond.initialized y.cls).before args s = true)
    (hcode : (Cond.code y bytes maxL ret).before args s = true) (hy : y.cls ≠ "java/lang/invoke/MethodHandle" ∧ y.cls ≠ "java/lang/invoke/VarHandle")
    {W9 : Nat} {Pre : Pt → Array Value → Prop} {Post : Pt → Array Value → Option Value → Pt → Prop} {PostX : Pt → Array Value → Addr → Pt → Prop} (hK : vx_Back l R p e below s args y 3 W9 Pre Post PostX)
    {g : JFrame} (hg : g.method = m) (hsize : g.locals.size = c.maxLocals) {argsL rest : List Value} (hlen : ∀ sig, parseMethodDescriptor y.desc = some sig → argsL.length = sig.parameters.length)
    (hstack : g.stack = argsL.reverse ++ rest) (hW : 2 * g.monitorRoom + (rest.map fun v => v.category).sum ≤ W9) (hdg : decode c.code g.pc = .ok (.invokestatic index, 3))
    (hpre : ∀ vm₁, s.WarmedH vm₁ → Pre ⟨T.setVm vm₁, locs, cells, slots⟩ argsL.toArray) :
    (∃ (v : Option Value) (vm₁ : Vm) (B : Pt), s.WarmedH vm₁ ∧ Stand p l e R s m args below meth c B.U B.locs B.cells B.slots ∧ Post ⟨T.setVm vm₁, locs, cells, slots⟩ argsL.toArray v B ∧
      ∀ target, Steps p.tables e below (B.U.setTop { g with pc := g.pc + 3, stack := v.toList ++ rest }) target → Steps p.tables e below (T.setTop g) target) ∨
    (∃ (q : Addr) (vm₁ : Vm) (B : Pt), s.WarmedH vm₁ ∧ Stand p l e R s m args below meth c B.U B.locs B.cells B.slots ∧ PostX ⟨T.setVm vm₁, locs, cells, slots⟩ argsL.toArray q B ∧
      Steps p.tables e below (T.setTop g) ((B.U.setTop { g with stack := rest }).pushFrame (.throwing q))) := by
  obtain ⟨mk, hnamed⟩ := Cond.code_named hcode
  obtain ⟨methM, cM, hmethM, -, -, -, -, -, -, hsigM⟩ := Cond.code_spec hnamed hcode
  have hstatic : methM.isStatic = true := Cond.static_spec hnamed hmethM hstat
  obtain ⟨kP, hkP, -⟩ := className_of_methodNamed hnamed
  have hinitP : kP.init = .initialized := Cond.initialized_spec (findClass_of_methodNamed hnamed) hkP hinit
  obtain ⟨vm₁, X₁, hstep₁⟩ := X.invokestatic hexec hown hlink hnamed hmethM hstatic hkP hinitP hy (g := g) hg (argsL := argsL) (rest := rest) (hlen _ hsigM) hstack hdg
  rcases hK m meth c ⟨T.setVm vm₁, locs, cells, slots⟩ { g with stack := rest } (.invokestatic index) mk argsL.toArray X₁ hg hsize hdg hW (X₁.named hnamed) (hpre vm₁ X₁.warmed) with ⟨v, B, X', hpost, hsteps⟩ | ⟨q, B, X', hpost, hsteps⟩
  · exact Or.inl ⟨v, vm₁, B, X₁.warmed, X', hpost, fun target h => hstep₁ _ fun acts => by rw [doInvoke_state]; exact hsteps.trans h⟩
  · exact Or.inr ⟨q, vm₁, B, X₁.warmed, X', hpost, hstep₁ _ fun acts => by rw [doInvoke_state]; exact hsteps⟩
end Calls
theorem vx_cls {s : State} {T : State} {vm₁ : Vm} {E : String} {k : ClassId} (hW : s.WarmedH vm₁) (h : (T.setVm vm₁).vm.findClass E = some k) : s.vm.findClass E = some k := by
  have h1 : vm₁.findClass E = some k := h
  rw [hW.alike.findClass] at h1
  exact h1
/-- the method's frame g, with q thrown over it -/
def vx_W (p : Program) (l : Launch) (e : Env) (R : Room) (s : State) (m : MethodId) (args : Array Value) (below : List Frame) (meth : Method) (c : Code) (H : Heap) (locs : List Loc) (cells slots : Nat) (Q : State → Prop) (g : JFrame) (q : Addr) : Prop :=
  ∀ T : State, T.heap = H → Stand p l e R s m args below meth c T locs cells slots → ∃ t, Steps p.tables e below ((T.setTop g).pushFrame (.throwing q)) t ∧ Q t
def vx_Run (p : Program) (l : Launch) (e : Env) (R : Room) (s : State) (m : MethodId) (args : Array Value) (below : List Frame) (meth : Method) (c : Code) (H : Heap) (locs : List Loc) (cells slots mc ms : Nat) (g : JFrame) (rest : List Value) (Qa : State → Outcome → State → Prop) (XC : String → State → State → Prop) (free : Addr → Prop) : Prop :=
  ∀ T : State, T.heap = H → Stand p l e R s m args below meth c T locs cells slots →
    (∃ (v : Option Value) (st₀ t T' : State) (L : List Loc), st₀.heap = H ∧ Stand p l e R s m args below meth c T' (locs ++ L) (cells + mc) (slots + ms) ∧ (∀ q ∈ L, free q.base) ∧ T'.heap = t.heap ∧ T'.vm = t.vm ∧ Qa st₀ (.returned v) t ∧
      Goes p e below T g T' { g with pc := g.pc + 3, stack := v.toList ++ rest }) ∨
    (∃ (q : Addr) (st₀ t T' : State) (L : List Loc) (E : String) (ce : Cell), st₀.heap = H ∧ Stand p l e R s m args below meth c T' (locs ++ L) (cells + mc) (slots + ms) ∧ (∀ z ∈ L, free z.base) ∧ T'.heap = t.heap ∧ T'.vm = t.vm ∧ XC E st₀ t ∧ t.heap[q]? = some ce ∧ ce.vm = .none ∧ s.vm.findClass E = some ce.cls ∧
      Steps p.tables e below (T.setTop g) ((T'.setTop { g with stack := rest }).pushFrame (.throwing q)))
def vx_X {S : Type} (px : S → Prop) (B : String → S → State → Prop) (A : Nat → Prop) : String → State → State → Prop := fun E st t => ∃ u : S, px u ∧ B E u t ∧ va_F A st t
section Runs
variable {p : Program} {l : Launch} {e : Env} {R : Room} {s : State} {m : MethodId} {args : Array Value} {below : List Frame} {meth : Method} {c : Code} {H : Heap} {locs : List Loc} {cells slots : Nat}
variable {y : MethodName} {bytes cc : ByteArray} {maxL nL mc ms n index : Nat} {ret : Option FieldType} {ws : List Cond} {rm : Room} {Pc : Array Value → State → Prop} {Qc : Array Value → State → Outcome → State → Prop} {XC : String → State → State → Prop} {free : Addr → Prop} {Ts : List Cond} {own C : String} {b : Addr} {As rest : List Value} {g : JFrame}
theorem vx_callBack (cb : CallB R s args own index y bytes maxL ret ws rm mc ms n) (hM : vx_Met l y ws rm Pc Qc XC mc ms free) (hbl : FrameBlind Pc) : vx_Back l R p e below s args y 3 8 (PreOf R mc ms Pc) (PostOf Qc mc ms free) (vx_Post XC mc ms free) := by
  obtain ⟨hrc, hrs, hfr, hlo, hws, hcw, -, hini, -⟩ := cb
  exact vx_back (bytes := bytes) (maxL := maxL) (ret := ret) hM hbl hrc hrs hfr hlo hws hcw (fun a' U hW => word_at hW (Or.inl (by first | rfl | simp [Cond.onTables, Cond.keeps, Cond.steady])) hini)
theorem vx_runV (S : CallFix p m c cc nL s args Ts own) (hM : vx_Met l y ws rm Pc Qc XC mc ms free) (cw : CallW R s args own C index y bytes maxL ret ws rm mc ms n) (hp : PreV s H C b Pc As)
    (hg : g.method = m) (hn : As.length = n) (hsize : g.locals.size = nL) (hstack : g.stack = As.reverse ++ .ref b :: rest) (hW : 2 * g.monitorRoom + (rest.map fun v => v.category).sum ≤ 8) (hdg : decode cc g.pc = .ok (.invokevirtual index, 3)) (hf : cells + mc ≤ R.cells ∧ slots + ms ≤ R.slots) :
    vx_Run p l e R s m args below meth c H locs cells slots mc ms g rest (Qc (Value.ref b :: As).toArray) XC free := by
  have hK : vx_Back l R p e below s args y 3 8 (PreOf R mc ms Pc) (PostOf Qc mc ms free) (vx_Post XC mc ms free) := vx_callBack cw.1 hM hp.1
  obtain ⟨⟨-, -, -, -, -, -, hcode, -, hy, hlen, hl⟩, hin, hse⟩ := cw
  obtain ⟨hx, hb, hml, ho, -⟩ := S
  obtain ⟨-, ⟨cellB, hcB, hoB, hclB⟩, hPc⟩ := hp
  intro T hT X
  rcases vx_callV X hx (C := C) (bytes := bytes) (maxL := maxL) (ret := ret) ho hl hin hse hcode hy hK (by rw [hT]; exact hcB) hoB hclB hg (hsize.trans hml.symm) (argsL := As) (rest := rest) (fun sig h => hn.trans (hlen sig h)) hstack hW (by rw [hb]; exact hdg)
    (fun vm₁ hW₁ => ⟨hf.1, hf.2, hPc (T.setVm vm₁) hT hW₁⟩) with ⟨v, vm₁, ⟨U', l2, c2, s2⟩, hW₁, X', ⟨g', mk, t, L, e1, e2, hq, h1, hL, h2, h3⟩, st⟩ | ⟨q, vm₁, ⟨U', l2, c2, s2⟩, hW₁, X', ⟨g', mk, t, L, E, ce, e1, e2, hq, hce, hcv, hcl, h1, hL, h2, h3⟩, st⟩
  · dsimp only [Pt.U, Pt.locs, Pt.cells, Pt.slots] at X' e1 e2 h1 h2 h3 st
    subst h1; subst h2; subst h3
    exact Or.inl ⟨v, (T.setVm vm₁).calling g' mk (Value.ref b :: As).toArray, t, U', L, hT, X', hL, e1, e2, hq, st⟩
  · dsimp only [Pt.U, Pt.locs, Pt.cells, Pt.slots] at X' e1 e2 h1 h2 h3 st hcl
    subst h1; subst h2; subst h3
    exact Or.inr ⟨q, (T.setVm vm₁).calling g' mk (Value.ref b :: As).toArray, t, U', L, E, ce, hT, X', hL, e1, e2, hq, hce, hcv, vx_cls hW₁ hcl, st⟩
theorem vx_runS (S : CallFix p m c cc nL s args Ts own) (hM : vx_Met l y ws rm Pc Qc XC mc ms free) (cw : CallB R s args own index y bytes maxL ret ws rm mc ms n ∧ (Cond.static y).before args s = true) (hp : PreS s H Pc As)
    (hg : g.method = m) (hn : As.length = n) (hsize : g.locals.size = nL) (hstack : g.stack = As.reverse ++ rest) (hW : 2 * g.monitorRoom + (rest.map fun v => v.category).sum ≤ 8) (hdg : decode cc g.pc = .ok (.invokestatic index, 3)) (hf : cells + mc ≤ R.cells ∧ slots + ms ≤ R.slots) :
    vx_Run p l e R s m args below meth c H locs cells slots mc ms g rest (Qc As.toArray) XC free := by
  have hK : vx_Back l R p e below s args y 3 8 (PreOf R mc ms Pc) (PostOf Qc mc ms free) (vx_Post XC mc ms free) := vx_callBack cw.1 hM hp.1
  obtain ⟨⟨-, -, -, -, -, -, hcode, hini, hy, hlen, hl⟩, hstt⟩ := cw
  obtain ⟨hx, hb, hml, ho, -⟩ := S
  intro T hT X
  rcases vx_callS X hx (bytes := bytes) (maxL := maxL) (ret := ret) ho hl hstt hini hcode hy hK hg (hsize.trans hml.symm) (argsL := As) (rest := rest) (fun sig h => hn.trans (hlen sig h)) hstack hW (by rw [hb]; exact hdg)
    (fun vm₁ hW₁ => ⟨hf.1, hf.2, hp.2 (T.setVm vm₁) hT hW₁⟩) with ⟨v, vm₁, ⟨U', l2, c2, s2⟩, hW₁, X', ⟨g', mk, t, L, e1, e2, hq, h1, hL, h2, h3⟩, st⟩ | ⟨q, vm₁, ⟨U', l2, c2, s2⟩, hW₁, X', ⟨g', mk, t, L, E, ce, e1, e2, hq, hce, hcv, hcl, h1, hL, h2, h3⟩, st⟩
  · dsimp only [Pt.U, Pt.locs, Pt.cells, Pt.slots] at X' e1 e2 h1 h2 h3 st
    subst h1; subst h2; subst h3
    exact Or.inl ⟨v, (T.setVm vm₁).calling g' mk As.toArray, t, U', L, hT, X', hL, e1, e2, hq, st⟩
  · dsimp only [Pt.U, Pt.locs, Pt.cells, Pt.slots] at X' e1 e2 h1 h2 h3 st hcl
    subst h1; subst h2; subst h3
    exact Or.inr ⟨q, (T.setVm vm₁).calling g' mk As.toArray, t, U', L, E, ce, hT, X', hL, e1, e2, hq, hce, hcv, vx_cls hW₁ hcl, st⟩
end Runs
section Rows
variable {p : Program} {l : Launch} {e : Env} {R : Room} {s : State} {m : MethodId} {args : Array Value} {below : List Frame} {meth : Method} {c : Code} {H : Heap} {locs : List Loc} {cells slots : Nat} {Q : State → Prop}
variable {mc ms : Nat} {free : Addr → Prop} {A0 A1 : Nat → Prop} {H0 : Heap} {a : Array Value} {pc : Nat} {ls : Array Slot} {st0 rest : List Value}
theorem vx_keep {st₀ t T' : State} {L : List Loc} (h0 : st₀.heap = H) (e1 : T'.heap = t.heap) (hS : va_S A0 H0 H locs) (hA : ∀ q, q < H.size → A1 q → A0 q) (hf : ∀ q, free q → A0 q) (hL : ∀ q ∈ L, free q.base) (hF : va_F A1 st₀ t) :
    H.size ≤ T'.heap.size ∧ (∀ q : Nat, q < H.size → ¬ A1 q → T'.heap[q]? = H[q]?) ∧ va_S A0 H0 T'.heap (locs ++ L) := by
  obtain ⟨hz, hk⟩ := hF
  rw [h0] at hz hk
  exact ⟨by rw [e1]; exact hz, fun q h1 h2 => by rw [e1]; exact hk q h1 h2,
    ⟨Nat.le_trans hS.1 (by rw [e1]; exact hz), fun q h1 h2 => by rw [e1, hk q (Nat.lt_of_lt_of_le h1 hS.1) (fun z => h2 (hA q (Nat.lt_of_lt_of_le h1 hS.1) z))]; exact hS.2.1 q h1 h2, fun q hq => by
      rcases List.mem_append.mp hq with h | h
      · exact hS.2.2 q h
      · exact hf _ (hL q h)⟩⟩
theorem vx_calli {S SX : Type} {post : Int32 → S → Prop} {px : SX → Prop} {B : S → State → Prop} {BX : String → SX → State → Prop} {AX : Nat → Prop} (hr : vx_Run p l e R s m args below meth c H locs cells slots mc ms (F0 m pc ls st0) rest (va_Qi post B A1 a) (vx_X px BX AX) free) (hS : va_S A0 H0 H locs) (hA : ∀ q, q < H.size → A1 q → A0 q) (hf : ∀ q, free q → A0 q) (hAX : ∀ q, q < H.size → AX q → A0 q)
    (kx : ∀ (E : String) (ce : Cell) (q9 : Addr) (u : SX) (t : State) (H1 : Heap) (locs1 : List Loc), t.heap = H1 → s.vm.Alike t.vm → px u → BX E u t → H.size ≤ H1.size → (∀ q : Nat, q < H.size → ¬ AX q → H1[q]? = H[q]?) → va_S A0 H0 H1 locs1 → H1[q9]? = some ce → ce.vm = .none → s.vm.findClass E = some ce.cls → vx_W p l e R s m args below meth c H1 locs1 (cells + mc) (slots + ms) Q (F0 m pc ls rest) q9)
    (kk : ∀ (r : Int32) (u : S) (t : State) (H1 : Heap) (locs1 : List Loc), t.heap = H1 → s.vm.Alike t.vm → post r u → B u t → H.size ≤ H1.size → (∀ q : Nat, q < H.size → ¬ A1 q → H1[q]? = H[q]?) → va_S A0 H0 H1 locs1 → W p l e R s m args below meth c H1 locs1 (cells + mc) (slots + ms) Q (F0 m (pc + 3) ls (.int r :: rest))) : W p l e R s m args below meth c H locs cells slots Q (F0 m pc ls st0) := by
  intro T hT X
  rcases hr T hT X with ⟨v, st₀, t, T', L, h0, X', hL, e1, e2, ⟨⟨r, u, hv, hp, hb⟩, hF⟩, st⟩ | ⟨q, st₀, t, T', L, E, ce, h0, X', hL, e1, e2, ⟨u, hp, hb, hF⟩, hce, hcv, hcl, st⟩
  · cases hv
    obtain ⟨k1, k2, k3⟩ := vx_keep h0 e1 hS hA hf hL hF
    obtain ⟨t2, a1, b1⟩ := kk r u t T'.heap (locs ++ L) e1.symm (by rw [← e2]; exact X'.warmed.alike) hp hb k1 k2 k3 T' rfl X'
    exact ⟨t2, st t2 a1, b1⟩
  · obtain ⟨k1, k2, k3⟩ := vx_keep h0 e1 hS hAX hf hL hF
    obtain ⟨t2, a1, b1⟩ := kx E ce q u t T'.heap (locs ++ L) e1.symm (by rw [← e2]; exact X'.warmed.alike) hp hb k1 k2 k3 (by rw [e1]; exact hce) hcv hcl T' rfl X'
    exact ⟨t2, st.trans a1, b1⟩
theorem vx_calll {S SX : Type} {post : Int64 → S → Prop} {px : SX → Prop} {B : S → State → Prop} {BX : String → SX → State → Prop} {AX : Nat → Prop} (hr : vx_Run p l e R s m args below meth c H locs cells slots mc ms (F0 m pc ls st0) rest (va_Ql post B A1 a) (vx_X px BX AX) free) (hS : va_S A0 H0 H locs) (hA : ∀ q, q < H.size → A1 q → A0 q) (hf : ∀ q, free q → A0 q) (hAX : ∀ q, q < H.size → AX q → A0 q)
    (kx : ∀ (E : String) (ce : Cell) (q9 : Addr) (u : SX) (t : State) (H1 : Heap) (locs1 : List Loc), t.heap = H1 → s.vm.Alike t.vm → px u → BX E u t → H.size ≤ H1.size → (∀ q : Nat, q < H.size → ¬ AX q → H1[q]? = H[q]?) → va_S A0 H0 H1 locs1 → H1[q9]? = some ce → ce.vm = .none → s.vm.findClass E = some ce.cls → vx_W p l e R s m args below meth c H1 locs1 (cells + mc) (slots + ms) Q (F0 m pc ls rest) q9)
    (kk : ∀ (r : Int64) (u : S) (t : State) (H1 : Heap) (locs1 : List Loc), t.heap = H1 → s.vm.Alike t.vm → post r u → B u t → H.size ≤ H1.size → (∀ q : Nat, q < H.size → ¬ A1 q → H1[q]? = H[q]?) → va_S A0 H0 H1 locs1 → W p l e R s m args below meth c H1 locs1 (cells + mc) (slots + ms) Q (F0 m (pc + 3) ls (.long r :: rest))) : W p l e R s m args below meth c H locs cells slots Q (F0 m pc ls st0) := by
  intro T hT X
  rcases hr T hT X with ⟨v, st₀, t, T', L, h0, X', hL, e1, e2, ⟨⟨r, u, hv, hp, hb⟩, hF⟩, st⟩ | ⟨q, st₀, t, T', L, E, ce, h0, X', hL, e1, e2, ⟨u, hp, hb, hF⟩, hce, hcv, hcl, st⟩
  · cases hv
    obtain ⟨k1, k2, k3⟩ := vx_keep h0 e1 hS hA hf hL hF
    obtain ⟨t2, a1, b1⟩ := kk r u t T'.heap (locs ++ L) e1.symm (by rw [← e2]; exact X'.warmed.alike) hp hb k1 k2 k3 T' rfl X'
    exact ⟨t2, st t2 a1, b1⟩
  · obtain ⟨k1, k2, k3⟩ := vx_keep h0 e1 hS hAX hf hL hF
    obtain ⟨t2, a1, b1⟩ := kx E ce q u t T'.heap (locs ++ L) e1.symm (by rw [← e2]; exact X'.warmed.alike) hp hb k1 k2 k3 (by rw [e1]; exact hce) hcv hcl T' rfl X'
    exact ⟨t2, st.trans a1, b1⟩
theorem vx_callf {S SX : Type} {post : UInt32 → S → Prop} {px : SX → Prop} {B : S → State → Prop} {BX : String → SX → State → Prop} {AX : Nat → Prop} (hr : vx_Run p l e R s m args below meth c H locs cells slots mc ms (F0 m pc ls st0) rest (va_Qf post B A1 a) (vx_X px BX AX) free) (hS : va_S A0 H0 H locs) (hA : ∀ q, q < H.size → A1 q → A0 q) (hf : ∀ q, free q → A0 q) (hAX : ∀ q, q < H.size → AX q → A0 q)
    (kx : ∀ (E : String) (ce : Cell) (q9 : Addr) (u : SX) (t : State) (H1 : Heap) (locs1 : List Loc), t.heap = H1 → s.vm.Alike t.vm → px u → BX E u t → H.size ≤ H1.size → (∀ q : Nat, q < H.size → ¬ AX q → H1[q]? = H[q]?) → va_S A0 H0 H1 locs1 → H1[q9]? = some ce → ce.vm = .none → s.vm.findClass E = some ce.cls → vx_W p l e R s m args below meth c H1 locs1 (cells + mc) (slots + ms) Q (F0 m pc ls rest) q9)
    (kk : ∀ (r : UInt32) (u : S) (t : State) (H1 : Heap) (locs1 : List Loc), t.heap = H1 → s.vm.Alike t.vm → post r u → B u t → H.size ≤ H1.size → (∀ q : Nat, q < H.size → ¬ A1 q → H1[q]? = H[q]?) → va_S A0 H0 H1 locs1 → W p l e R s m args below meth c H1 locs1 (cells + mc) (slots + ms) Q (F0 m (pc + 3) ls (.float r :: rest))) : W p l e R s m args below meth c H locs cells slots Q (F0 m pc ls st0) := by
  intro T hT X
  rcases hr T hT X with ⟨v, st₀, t, T', L, h0, X', hL, e1, e2, ⟨⟨r, u, hv, hp, hb⟩, hF⟩, st⟩ | ⟨q, st₀, t, T', L, E, ce, h0, X', hL, e1, e2, ⟨u, hp, hb, hF⟩, hce, hcv, hcl, st⟩
  · cases hv
    obtain ⟨k1, k2, k3⟩ := vx_keep h0 e1 hS hA hf hL hF
    obtain ⟨t2, a1, b1⟩ := kk r u t T'.heap (locs ++ L) e1.symm (by rw [← e2]; exact X'.warmed.alike) hp hb k1 k2 k3 T' rfl X'
    exact ⟨t2, st t2 a1, b1⟩
  · obtain ⟨k1, k2, k3⟩ := vx_keep h0 e1 hS hAX hf hL hF
    obtain ⟨t2, a1, b1⟩ := kx E ce q u t T'.heap (locs ++ L) e1.symm (by rw [← e2]; exact X'.warmed.alike) hp hb k1 k2 k3 (by rw [e1]; exact hce) hcv hcl T' rfl X'
    exact ⟨t2, st.trans a1, b1⟩
theorem vx_calld {S SX : Type} {post : UInt64 → S → Prop} {px : SX → Prop} {B : S → State → Prop} {BX : String → SX → State → Prop} {AX : Nat → Prop} (hr : vx_Run p l e R s m args below meth c H locs cells slots mc ms (F0 m pc ls st0) rest (va_Qd post B A1 a) (vx_X px BX AX) free) (hS : va_S A0 H0 H locs) (hA : ∀ q, q < H.size → A1 q → A0 q) (hf : ∀ q, free q → A0 q) (hAX : ∀ q, q < H.size → AX q → A0 q)
    (kx : ∀ (E : String) (ce : Cell) (q9 : Addr) (u : SX) (t : State) (H1 : Heap) (locs1 : List Loc), t.heap = H1 → s.vm.Alike t.vm → px u → BX E u t → H.size ≤ H1.size → (∀ q : Nat, q < H.size → ¬ AX q → H1[q]? = H[q]?) → va_S A0 H0 H1 locs1 → H1[q9]? = some ce → ce.vm = .none → s.vm.findClass E = some ce.cls → vx_W p l e R s m args below meth c H1 locs1 (cells + mc) (slots + ms) Q (F0 m pc ls rest) q9)
    (kk : ∀ (r : UInt64) (u : S) (t : State) (H1 : Heap) (locs1 : List Loc), t.heap = H1 → s.vm.Alike t.vm → post r u → B u t → H.size ≤ H1.size → (∀ q : Nat, q < H.size → ¬ A1 q → H1[q]? = H[q]?) → va_S A0 H0 H1 locs1 → W p l e R s m args below meth c H1 locs1 (cells + mc) (slots + ms) Q (F0 m (pc + 3) ls (.double r :: rest))) : W p l e R s m args below meth c H locs cells slots Q (F0 m pc ls st0) := by
  intro T hT X
  rcases hr T hT X with ⟨v, st₀, t, T', L, h0, X', hL, e1, e2, ⟨⟨r, u, hv, hp, hb⟩, hF⟩, st⟩ | ⟨q, st₀, t, T', L, E, ce, h0, X', hL, e1, e2, ⟨u, hp, hb, hF⟩, hce, hcv, hcl, st⟩
  · cases hv
    obtain ⟨k1, k2, k3⟩ := vx_keep h0 e1 hS hA hf hL hF
    obtain ⟨t2, a1, b1⟩ := kk r u t T'.heap (locs ++ L) e1.symm (by rw [← e2]; exact X'.warmed.alike) hp hb k1 k2 k3 T' rfl X'
    exact ⟨t2, st t2 a1, b1⟩
  · obtain ⟨k1, k2, k3⟩ := vx_keep h0 e1 hS hAX hf hL hF
    obtain ⟨t2, a1, b1⟩ := kx E ce q u t T'.heap (locs ++ L) e1.symm (by rw [← e2]; exact X'.warmed.alike) hp hb k1 k2 k3 (by rw [e1]; exact hce) hcv hcl T' rfl X'
    exact ⟨t2, st.trans a1, b1⟩
theorem vx_callv {S SX : Type} {post : S → Prop} {px : SX → Prop} {B : S → State → Prop} {BX : String → SX → State → Prop} {AX : Nat → Prop} (hr : vx_Run p l e R s m args below meth c H locs cells slots mc ms (F0 m pc ls st0) rest (va_Qv post B A1 a) (vx_X px BX AX) free) (hS : va_S A0 H0 H locs) (hA : ∀ q, q < H.size → A1 q → A0 q) (hf : ∀ q, free q → A0 q) (hAX : ∀ q, q < H.size → AX q → A0 q)
    (kx : ∀ (E : String) (ce : Cell) (q9 : Addr) (u : SX) (t : State) (H1 : Heap) (locs1 : List Loc), t.heap = H1 → s.vm.Alike t.vm → px u → BX E u t → H.size ≤ H1.size → (∀ q : Nat, q < H.size → ¬ AX q → H1[q]? = H[q]?) → va_S A0 H0 H1 locs1 → H1[q9]? = some ce → ce.vm = .none → s.vm.findClass E = some ce.cls → vx_W p l e R s m args below meth c H1 locs1 (cells + mc) (slots + ms) Q (F0 m pc ls rest) q9)
    (kk : ∀ (u : S) (t : State) (H1 : Heap) (locs1 : List Loc), t.heap = H1 → s.vm.Alike t.vm → post u → B u t → H.size ≤ H1.size → (∀ q : Nat, q < H.size → ¬ A1 q → H1[q]? = H[q]?) → va_S A0 H0 H1 locs1 → W p l e R s m args below meth c H1 locs1 (cells + mc) (slots + ms) Q (F0 m (pc + 3) ls (rest))) : W p l e R s m args below meth c H locs cells slots Q (F0 m pc ls st0) := by
  intro T hT X
  rcases hr T hT X with ⟨v, st₀, t, T', L, h0, X', hL, e1, e2, ⟨⟨u, hv, hp, hb⟩, hF⟩, st⟩ | ⟨q, st₀, t, T', L, E, ce, h0, X', hL, e1, e2, ⟨u, hp, hb, hF⟩, hce, hcv, hcl, st⟩
  · cases hv
    obtain ⟨k1, k2, k3⟩ := vx_keep h0 e1 hS hA hf hL hF
    obtain ⟨t2, a1, b1⟩ := kk u t T'.heap (locs ++ L) e1.symm (by rw [← e2]; exact X'.warmed.alike) hp hb k1 k2 k3 T' rfl X'
    exact ⟨t2, st t2 a1, b1⟩
  · obtain ⟨k1, k2, k3⟩ := vx_keep h0 e1 hS hAX hf hL hF
    obtain ⟨t2, a1, b1⟩ := kx E ce q u t T'.heap (locs ++ L) e1.symm (by rw [← e2]; exact X'.warmed.alike) hp hb k1 k2 k3 (by rw [e1]; exact hce) hcv hcl T' rfl X'
    exact ⟨t2, st.trans a1, b1⟩
end Rows
section Ends
variable {p : Program} {l : Launch} {e : Env} {R : Room} {s : State} {m : MethodId} {args : Array Value} {below : List Frame} {meth : Method} {c : Code} {H : Heap} {locs : List Loc} {cells slots : Nat} {Q : State → Prop}
variable {mc ms : Nat} {free : Addr → Prop} {A0 A1 : Nat → Prop} {H0 : Heap} {a : Array Value} {ls : Array Slot} {st0 rest : List Value}
variable {Qc : Array Value → State → Outcome → State → Prop} {XC : String → State → State → Prop}
/-- what a body that may throw owes at its end -/
def vx_MQ (below : List Frame) (Qc : Array Value → State → Outcome → State → Prop) (XC : String → State → State → Prop) (a : Array Value) (s : State) (mc ms : Nat) (free : Addr → Prop) : State → Prop := fun t =>
  ∃ o, t.status = .running ∧ Ended t below o ∧ vx_Q Qc XC mc ms free a s o t
theorem vx_ret {g : JFrame} {mc ms : Nat} (k : W p l e R s m args below meth c H locs cells slots (MQ below Qc args s mc ms free) g) : W p l e R s m args below meth c H locs cells slots (vx_MQ below Qc XC args s mc ms free) g := by
  intro T hT X
  obtain ⟨t, a1, o, b1, b2, b3, b4⟩ := k T hT X
  exact ⟨t, a1, o, b1, b2, Or.inl ⟨b3, b4⟩⟩
/-- not caught here: it goes on to the caller -/
theorem vx_widen {g : JFrame} {q : Addr} {k n : Nat} (h1 : cells ≤ k) (h2 : slots ≤ n) (kk : vx_W p l e R s m args below meth c H locs k n Q g q) : vx_W p l e R s m args below meth c H locs cells slots Q g q := fun T hT X => kk T hT (stand_widen X h1 h2)
theorem vx_out {pc : Nat} {E : String} {ce : Cell} {q : Addr} {mc ms : Nat} (hout : ∀ x ∈ c.exceptionTable.toList, covers x pc = false) (hlocks : meth.locks = false) (hcell : H[q]? = some ce) (hv : ce.vm = .none) (hcl : s.vm.findClass E = some ce.cls)
    (hx : ∀ t : State, t.heap = H → s.vm.Alike t.vm → XC E s t) (hf : ∀ z ∈ locs, free z.base) (hc : cells ≤ mc) (hs : slots ≤ ms) :
    vx_W p l e R s m args below meth c H locs cells slots (vx_MQ below Qc XC args s mc ms free) (F0 m pc ls rest) q := by
  intro T hT X
  obtain ⟨st1, hrun, hend, hW, hsm⟩ := X.leaveThrown q (g := F0 m pc ls rest) rfl rfl rfl hout hlocks
  have hcell9 : (T.setFrames (.throwing q :: below)).heap[q]? = some ce := by
    show T.heap[q]? = some ce
    rw [hT]; exact hcell
  exact ⟨_, st1, .threw q, hrun, hend, Or.inr ⟨q, rfl, E, ce, locs, hx _ hT hW.alike, hcell9, hv, hcl, hW, hsm.mono hc hs, hf⟩⟩
theorem vx_frame {U : State} {k n : Nat} (h : s.sameButNew ({ U with vm := s.vm } : State) locs k n) : s.heap.size ≤ U.heap.size ∧ ∀ q : Nat, q < s.heap.size → (∀ z ∈ locs, z.base ≠ q) → U.heap[q]? = s.heap[q]? := by
  obtain ⟨-, h2, -, -, -, h6⟩ := h
  refine ⟨h2, fun q hq hz => ?_⟩
  obtain ⟨c9, e1, e2, e3, e4⟩ := h6 q _ (Array.getElem?_eq_getElem hq)
  have hs : c9.slots = (s.heap[q]).slots := Array.ext_getElem? fun i => e4 i fun hm => hz _ hm rfl
  have h9 : c9 = s.heap[q] := by
    rw [hs] at e2
    exact e2
  have e5 : U.heap[q]? = some c9 := e1
  rw [e5, h9, Array.getElem?_eq_getElem hq]
/-- the words of a throw but the four that speak of the heap -/
def vx_no (w : Cond) : Bool := decide (w ≠ .isRef (.static Bundle.tN "UNASSIGNED_STACK" Bundle.steD)) && decide (w ≠ .isRef (.static Bundle.tN "SUPPRESSED_SENTINEL" Bundle.listD)) && decide (w ≠ .laysStatic Bundle.tN "UNASSIGNED_STACK" Bundle.steD) && decide (w ≠ .laysStatic Bundle.tN "SUPPRESSED_SENTINEL" Bundle.listD)
def vx_at0 (own : String) (ic : Nat) (X : String) (names : List String) : List Cond := (Bundle.ownAtoms0 own ic X names).filter vx_no
def vx_atS (own : String) (ic : Nat) (X : String) (names : List String) : List Cond := (Bundle.ownAtoms own ic X names).filter vx_no
/-- a word that the tables alone decide, or a good one -/
def vx_ot (w : Cond) : Bool := w.onTables || goodWord w
theorem vx_ot_at {args a' : Array Value} {s U : State} {w : Cond} (hW : s.WarmedH U.vm) (hvm : s.vm = U.vm) (hg : vx_ot w = true) (h : w.before args s = true) : w.before a' U = true := by
  simp only [vx_ot, Bool.or_eq_true] at hg
  rcases hg with hg | hg
  · exact va_tabs hg hvm h
  · exact word_at hW (good_of_word hg) h
/-- a list's words: the good ones out of the method's own list, the others by premises of their own -/
theorem vx_hat {args : Array Value} {s : State} {L B : List Cond} (h1 : ∀ w ∈ L.filter goodWord, w.before args s = true) (h2 : ∀ w ∈ L.filter (fun w => !goodWord w), w ∈ B) (h3 : ∀ w ∈ B, w.before args s = true) : ∀ w ∈ L, w.before args s = true := by
  intro w hw
  by_cases g : goodWord w = true
  · exact h1 w (List.mem_filter.mpr ⟨hw, g⟩)
  · refine h3 w (h2 w (List.mem_filter.mpr ⟨hw, ?_⟩))
    show (!goodWord w) = true
    cases hgw : goodWord w
    · rfl
    · exact absurd hgw g
theorem vx_c {args : Array Value} {s : State} {w : Cond} {B : List Cond} (h : w.before args s = true) (t : ∀ w ∈ B, w.before args s = true) : ∀ w' ∈ w :: B, w'.before args s = true := fun w' h' => (List.mem_cons.mp h').elim (fun e => by rw [e]; exact h) (t w')
theorem vx_n {args : Array Value} {s : State} : ∀ w ∈ ([] : List Cond), w.before args s = true := fun _ h => nomatch h
theorem vx_own {args : Array Value} {s : State} {L : List Cond} (h1 : ∀ w ∈ L.filter vx_no, w.before args s = true)
    (hU : (Cond.isRef (.static Bundle.tN "UNASSIGNED_STACK" Bundle.steD)).before args s = true) (hN : (Cond.isRef (.static Bundle.tN "SUPPRESSED_SENTINEL" Bundle.listD)).before args s = true)
    (lU : (Cond.laysStatic Bundle.tN "UNASSIGNED_STACK" Bundle.steD).before args s = true) (lN : (Cond.laysStatic Bundle.tN "SUPPRESSED_SENTINEL" Bundle.listD).before args s = true) : ∀ w ∈ L, w.before args s = true := by
  intro w hw
  by_cases e1 : w = .isRef (.static Bundle.tN "UNASSIGNED_STACK" Bundle.steD)
  · rw [e1]; exact hU
  · by_cases e2 : w = .isRef (.static Bundle.tN "SUPPRESSED_SENTINEL" Bundle.listD)
    · rw [e2]; exact hN
    · by_cases e3 : w = .laysStatic Bundle.tN "UNASSIGNED_STACK" Bundle.steD
      · rw [e3]; exact lU
      · by_cases e4 : w = .laysStatic Bundle.tN "SUPPRESSED_SENTINEL" Bundle.listD
        · rw [e4]; exact lN
        · exact h1 w (List.mem_filter.mpr ⟨hw, by unfold vx_no; rw [decide_eq_true e1, decide_eq_true e2, decide_eq_true e3, decide_eq_true e4]; rfl⟩)
/-- where a static field lies, its class's statics cell in H -/
def vx_L (C n d : String) (A : Nat → Prop) (U : State) (H : Heap) : Prop := ∃ (c : ClassId) (k : Class) (i : Nat) (f : Field) (a : Nat) (cell : Cell), U.vm.findClass C = some c ∧ U.fieldFound? C n d = some (c, k, i, f) ∧ f.isStatic = true ∧ k.statics = some a ∧ H[a]? = some cell ∧ cell.vm.isStatics = true ∧ cell.cls = c ∧ f.slot < cell.slots.size ∧ k.staticTypes[f.slot]? = some f.type ∧ ¬ A a
theorem vx_L.moved {C n d : String} {A : Nat → Prop} {u U : State} {H : Heap} (hvm : u.vm.Alike U.vm) (h : vx_L C n d A u H) : vx_L C n d A U H := by
  obtain ⟨c, k, i, f, a, cell, h1, h2, h3, h4, h5, h6, h7, h8, h9, h10⟩ := h
  obtain ⟨k', hi', he⟩ := State.fieldFound?_setVm hvm h2
  exact ⟨c, k', i, f, a, cell, by rw [hvm.findClass]; exact h1, hi', h3, by rw [he]; exact h4, h5, h6, h7, h8, by rw [he]; exact h9, h10⟩
theorem vx_L.kept {C n d : String} {A : Nat → Prop} {U : State} {H H1 : Heap} (h : vx_L C n d A U H) (hq : ∀ a : Nat, a < H.size → ¬ A a → H1[a]? = H[a]?) : vx_L C n d A U H1 := by
  obtain ⟨c, k, i, f, a, cell, h1, h2, h3, h4, h5, h6, h7, h8, h9, h10⟩ := h
  exact ⟨c, k, i, f, a, cell, h1, h2, h3, h4, by rw [hq a (Array.getElem?_eq_some_iff.mp h5).1 h10]; exact h5, h6, h7, h8, h9, h10⟩
theorem vx_L.narrow {C n d : String} {A B : Nat → Prop} {U : State} {H : Heap} (h : vx_L C n d A U H) (hAB : ∀ q, B q → A q) : vx_L C n d B U H := by
  obtain ⟨c, k, i, f, a, cell, h1, h2, h3, h4, h5, h6, h7, h8, h9, h10⟩ := h
  exact ⟨c, k, i, f, a, cell, h1, h2, h3, h4, h5, h6, h7, h8, h9, fun z => h10 (hAB _ z)⟩
theorem vx_L.word {C n d : String} {A : Nat → Prop} {s : State} {args : Array Value} (h : vx_L C n d A s s.heap) : (Cond.laysStatic C n d).before args s = true := by
  obtain ⟨c, k, i, f, a, cell, h1, h2, h3, h4, h5, h6, h7, h8, h9, -⟩ := h
  show (Cond.laysStatic C n d).holds args s none s [] = true
  exact Cond.laysStatic_of h1 h2 h3 h4 h5 h6 h7 h8 h9
/-- .. and what it holds: null or some reference -/
def vx_Zq (C n d : String) (A : Nat → Prop) (U : State) (H : Heap) : Prop := va_Zq C n d A U H ∧ vx_L C n d A U H
theorem vx_Zq.moved {C n d : String} {A : Nat → Prop} {u U : State} {H : Heap} (hvm : u.vm.Alike U.vm) (h : vx_Zq C n d A u H) : vx_Zq C n d A U H := ⟨va_Zq.moved hvm h.1, vx_L.moved hvm h.2⟩
theorem vx_Zq.kept {C n d : String} {A : Nat → Prop} {U : State} {H H1 : Heap} (h : vx_Zq C n d A U H) (hq : ∀ a : Nat, a < H.size → ¬ A a → H1[a]? = H[a]?) : vx_Zq C n d A U H1 := ⟨va_Zq.kept h.1 hq, vx_L.kept h.2 hq⟩
theorem vx_Zq.narrow {C n d : String} {A B : Nat → Prop} {U : State} {H : Heap} (h : vx_Zq C n d A U H) (hAB : ∀ q, B q → A q) : vx_Zq C n d B U H := ⟨va_Zq.narrow h.1 hAB, vx_L.narrow h.2 hAB⟩
theorem vx_Zqof {args : Array Value} {s : State} {C n d : String} {A : Nat → Prop} (hl : (Cond.laysStatic C n d).before args s = true) (hini : (Cond.initialized C).before args s = true) (h : (Cond.isRef (.static C n d)).before args s = true) (hA : ∀ a : Nat, a < s.heap.size → ¬ A a) : vx_Zq C n d A s s.heap := by
  refine ⟨va_Zqof hl hini h hA, ?_⟩
  obtain ⟨c, k, i, f, a, cell, h1, h2, h3, h4, h5, h6, h7, h8, h9⟩ := Cond.laysStatic_spec hl
  exact ⟨c, k, i, f, a, cell, h1, h2, h3, h4, h5, h6, h7, h8, h9, hA a (Array.getElem?_eq_some_iff.mp h5).1⟩
theorem vx_isRef {C n d : String} {v : Value} {A : Nat → Prop} {s : State} {args : Array Value} (h : va_Z C n d v A s s.heap) (hv : v.isRef = true) : (Cond.isRef (.static C n d)).before args s = true := by
  obtain ⟨cf, kf, fi, f, a, cell, h1, h2, h3, h4, h5, h6, h7, -⟩ := h
  have he : (Term.static C n d).eval args s none [] s = some v := by
    simp [Term.eval, State.fieldNamed?, h1, h2, h4, h5, h6, h7]
  simp only [Cond.before, Cond.holds, Cond.value, he]
  cases v <;> simp_all [Value.isRef]
theorem vx_isRefq {C n d : String} {A : Nat → Prop} {s : State} {args : Array Value} (h : va_Zq C n d A s s.heap) : (Cond.isRef (.static C n d)).before args s = true := by
  rcases h with h | ⟨t, h⟩
  · exact vx_isRef h rfl
  · exact vx_isRef h rfl
/-- the same frame, seen from here: as if the method were called anew in this heap -/
theorem vx_rebase {T : State} (X : Stand p l e R s m args below meth c T locs cells slots) {R' : Room} (hf : R'.frames ≤ R.frames) (hl : R'.locals ≤ R.locals) (hc : cells + R'.cells ≤ R.cells) (hs : slots + R'.slots ≤ R.slots) :
    Stand p l e R' ((T.setVm s.vm).setFrames (.invoking m args :: below)) m args below meth c T [] 0 0 := by
  have htop : (T.setVm s.vm).topJava?.isSome := X.here.top
  have hF : ((T.setVm s.vm).setFrames (.invoking m args :: below)).frames = .invoking m args :: below := State.frames_setFrames _ (State.cur_lt_of_top htop)
  obtain ⟨g₀, hg0⟩ := Option.isSome_iff_exists.mp htop
  obtain ⟨r, hr⟩ := State.topJava?_eq_some.mp hg0
  have hl9 : e.platform.stackLimits (T.setVm s.vm).me = e.platform.stackLimits s.me := X.limits
  have hb9 : (T.setVm s.vm).me.stackBytes = s.me.stackBytes := X.bytes
  refine ⟨X.admits, X.cas, X.clock, hF, ?_, X.hears, X.method, X.code, X.here, X.tail, X.warmed, ?_, ?_, ?_⟩
  · have h := X.room
    have hU : ((T.setVm s.vm).setFrames (.invoking m args :: below)).localsInUse = s.localsInUse := by
      rw [State.localsInUse_invoking hF (meth := meth) (c := c) X.method X.code, State.localsInUse_invoking X.frames X.method X.code]
    simp only [State.hasRoom, Bool.and_eq_true, decide_eq_true_eq] at h ⊢
    obtain ⟨⟨⟨⟨h1, h2, h3, h4, h5, h6⟩, h7⟩, h8⟩, h9⟩ := h
    rw [X.frames, List.length_cons] at h2 h3
    have q1 := X.heapSize
    have q2 := X.used
    simp only [hF, hU, List.length_cons, State.stackLimits_setFrames, State.stackBytes_setFrames, hl9, hb9]
    refine ⟨⟨⟨⟨by omega, by omega, by omega, by omega, by omega, h6⟩, ?_⟩, ?_⟩, X.book⟩
    · show T.heap.size + R'.cells ≤ e.platform.maxCells
      omega
    · show T.slotsUsed + R'.slots ≤ e.platform.maxSlots
      omega
  · rw [State.stackLimits_setFrames]; rfl
  · rw [State.stackBytes_setFrames]; rfl
  · refine ⟨?_, Nat.le_refl _, Nat.le_refl _, ?_, ?_, fun a c9 h9 => ⟨c9, h9, rfl, rfl, fun _ _ => rfl⟩⟩
    · obtain ⟨t, ht, -⟩ := State.frames_cons hr
      show T.setVm s.vm = { ((T.setVm s.vm).setFrames (.invoking m args :: below)).setFrames (T.setVm s.vm).frames with heap := T.heap, slotsUsed := T.slotsUsed }
      rw [State.setFrames_setFrames, State.setFrames_self ht]
      rfl
    · show T.slotsUsed = T.slotsUsed + ((T.heap.toList.drop T.heap.size).map (·.slots.size)).sum
      rw [List.drop_eq_nil_of_le (Nat.le_of_eq Array.length_toList)]
      rfl
    · show ((T.heap.toList.drop T.heap.size).map (·.slots.size)).sum ≤ 0
      rw [List.drop_eq_nil_of_le (Nat.le_of_eq Array.length_toList)]
      exact Nat.le_refl _
/-- 'throw new E()': new; dup; invokespecial; athrow -/
theorem vx_throw0 {cc : ByteArray} {pc : Nat} (hexec : p.tables.exec = Jvm.exec) (hb : c.code = cc) (hl : l.stackTraces = false) {own cls : String} {names : List String} {ik ic mc ms : Nat} {A : Nat → Prop}
    (hown : s.vm.findClass own = some m.cls) (hcls : Bundle.fit cls = true) (hnames : ∀ n ∈ names, Bundle.fit n = true)
    (hk : (Cond.classLink own ik cls).before args s = true) (hini : (Cond.initialized cls).before args s = true) (hat : ∀ w ∈ vx_at0 own ic cls names, w.before args s = true)
    (hgood : ∀ w ∈ Cond.classLink own ik cls :: Cond.initialized cls :: vx_at0 own ic cls names, vx_ot w = true)
    (hU : vx_Zq Bundle.tN "UNASSIGNED_STACK" Bundle.steD A s s.heap) (hN : vx_Zq Bundle.tN "SUPPRESSED_SENTINEL" Bundle.listD A s s.heap) (hS : va_S A s.heap H locs) (hsize : ls.size = c.maxLocals)
    (d0 : decode cc pc = .ok (.new ik, 3)) (d3 : decode cc (pc + 3) = .ok (.dup, 1)) (d4 : decode cc (pc + 4) = .ok (.invokespecial ic, 3)) (d7 : decode cc (pc + 7) = .ok (.athrow, 1))
    (hout : ∀ x ∈ c.exceptionTable.toList, covers x (pc + 7) = false)
    (hRframes : names.length + 3 < R.frames) (hRlocals : (rest.map fun v => v.category).sum + (13 * (names.length + 1) + 42) ≤ R.locals) (hRcells : cells + 1 ≤ R.cells) (hRslots : slots + 6 ≤ R.slots) (hlocks : meth.locks = false)
    (hx : ∀ t : State, s.vm.Alike t.vm → H.size ≤ t.heap.size → (∀ q : Nat, q < H.size → t.heap[q]? = H[q]?) → XC cls s t)
    (hf : ∀ z ∈ locs, free z.base) (hc : cells + 1 ≤ mc) (hs : slots + 6 ≤ ms) :
    W p l e R s m args below meth c H locs cells slots (vx_MQ below Qc XC args s mc ms free) (F0 m pc ls rest) := by
  intro T hT X
  have htr : e.platform.stackTraces = false := (show e.platform.stackTraces = l.stackTraces by rw [X.admits.platform]).trans hl
  have Y := vx_rebase X (R' := { frames := R.frames, locals := R.locals, cells := 1, slots := 6 }) (Nat.le_refl _) (Nat.le_refl _) hRcells hRslots
  obtain ⟨s', hA⟩ : ∃ z, z = (T.setVm s.vm).setFrames (.invoking m args :: below) := ⟨_, rfl⟩
  rw [← hA] at Y
  have hvm : s'.vm = s.vm := by rw [hA]; rfl
  have hhp : s'.heap = H := by rw [hA]; exact hT
  have hW0 : s.WarmedH s'.vm := by rw [hvm]; exact State.WarmedH.refl s
  have hat' : ∀ w ∈ vx_at0 own ic cls names, w.before args s' = true := fun w hw => vx_ot_at hW0 hvm.symm (hgood w (List.mem_cons_of_mem _ (List.mem_cons_of_mem _ hw))) (hat w hw)
  have hk' : (Cond.classLink own ik cls).before args s' = true := vx_ot_at hW0 hvm.symm (hgood _ List.mem_cons_self) hk
  have hini' : (Cond.initialized cls).before args s' = true := vx_ot_at hW0 hvm.symm (hgood _ (List.mem_cons_of_mem _ List.mem_cons_self)) hini
  have hU' : vx_Zq Bundle.tN "UNASSIGNED_STACK" Bundle.steD A s' s'.heap := by rw [hhp]; exact vx_Zq.moved hW0.alike (hU.kept hS.2.1)
  have hN' : vx_Zq Bundle.tN "SUPPRESSED_SENTINEL" Bundle.listD A s' s'.heap := by rw [hhp]; exact vx_Zq.moved hW0.alike (hN.kept hS.2.1)
  have h : ∀ w ∈ Bundle.ownAtoms0 own ic cls names, w.before args s' = true := vx_own hat' (vx_isRefq hU'.1) (vx_isRefq hN'.1) hU'.2.word hN'.2.word
  have hown' : s'.vm.findClass own = some m.cls := by rw [hvm]; exact hown
  have hins : (Cond.instantiable cls 6).before args s' = true := h _ (by simp [Bundle.ownAtoms0])
  obtain ⟨vm₁, cX, kX, hfX, hkX, -, -, X₁, st1⟩ := Y.newCold hexec (own := own) (C := cls) (index := ik) (n := 6) hown' hk' hins hini'
    (g := F0 m pc ls rest) rfl (by rw [hb]; exact d0) (Nat.le_refl _) (Nat.le_refl _)
  generalize hT1 : (T.setVm vm₁).pushCell { cls := cX, slots := kX.instanceTypes.map defaultValue, vm := .none } = T1 at X₁ st1
  have hcat : (Value.ref T.heap.size).category = 1 := rfl
  have hcellA : T1.heap[T.heap.size]? = some (freshCell cX kX) := by rw [← hT1]; exact State.heap_pushCell_size _ _
  have d3' : decode c.code (pc + 3) = .ok (.dup, 1) := by rw [hb]; exact d3
  obtain ⟨U, hsteps, hrun, hend, hW, hsame, ce, hce, hO⟩ := X₁.ctorThrow0 hexec htr (own := own) (cls := cls) (names := names) (ic := ic) hown' hcls hnames h (fun x hx => nomatch hx) hfX hkX hcellA (by rw [hhp, hT]; exact Nat.le_refl _)
    (g := { method := m, pc := pc + 4, locals := ls, stack := .ref T.heap.size :: .ref T.heap.size :: rest, locked := none }) rfl hsize rfl rfl (rest := rest) rfl
    (by rw [hb]; exact d4) (by rw [hb]; exact d7) hout hRframes (by simp only [List.map_cons, List.sum_cons, hcat]; omega) hlocks
  obtain ⟨f1, f2⟩ := vx_frame hsame
  rw [hhp] at f1 f2
  have hWs : s.WarmedH U.vm := State.WarmedH.trans hW0 hW
  have hcl : s.vm.findClass cls = some ce.cls := by
    have h9 := hO.cls
    rw [hvm] at h9
    exact h9
  have hall : s.sameButNew ({ U with vm := s.vm } : State) locs mc ms := by
    subst hA
    obtain ⟨e1, e2⟩ := hsame
    rw [State.setFrames_setFrames] at e1
    have h2 : (T.setVm s.vm).sameButNew ({ U with vm := s.vm } : State) [] (0 + 1) (0 + 6) := ⟨e1, e2⟩
    have h3 := X.same.trans h2
    rw [List.append_nil] at h3
    exact h3.mono hc hs
  refine ⟨U, ?_, .threw T.heap.size, hrun, hend, Or.inr ⟨T.heap.size, rfl, cls, ce, locs, hx U hWs.alike f1 (fun q hq => f2 q hq (fun z hz => nomatch hz)), hce, hO.vm, hcl, hWs, hall, hf⟩⟩
  refine st1 _ ?_
  show Steps p.tables e below (T1.setTop { method := m, pc := pc + 3, locals := ls, stack := .ref T.heap.size :: rest, locked := none }) _
  jvm_step X₁.here [X₁.here.top, hexec, d3', Value.category]
  exact hsteps
/-- 'throw new E("text")': new; dup; ldc; invokespecial; athrow -/
theorem vx_throwS {cc : ByteArray} {pc : Nat} (hexec : p.tables.exec = Jvm.exec) (hb : c.code = cc) (hl : l.stackTraces = false) {own cls text : String} {names : List String} {ik is ic mc ms sa : Nat} {A : Nat → Prop}
    (hown : s.vm.findClass own = some m.cls) (hcls : Bundle.fit cls = true) (hnames : ∀ n ∈ names, Bundle.fit n = true)
    (hk : (Cond.classLink own ik cls).before args s = true) (hini : (Cond.initialized cls).before args s = true) (hstr : vk_R own is text sa s) (hat : ∀ w ∈ vx_atS own ic cls names, w.before args s = true)
    (hgood : ∀ w ∈ Cond.classLink own ik cls :: Cond.initialized cls :: vx_atS own ic cls names, vx_ot w = true)
    (hU : vx_Zq Bundle.tN "UNASSIGNED_STACK" Bundle.steD A s s.heap) (hN : vx_Zq Bundle.tN "SUPPRESSED_SENTINEL" Bundle.listD A s s.heap) (hS : va_S A s.heap H locs) (hsize : ls.size = c.maxLocals)
    (d0 : decode cc pc = .ok (.new ik, 3)) (d3 : decode cc (pc + 3) = .ok (.dup, 1)) (d4 : decode cc (pc + 4) = .ok (.ldc is, 2)) (d6 : decode cc (pc + 6) = .ok (.invokespecial ic, 3)) (d9 : decode cc (pc + 9) = .ok (.athrow, 1))
    (hout : ∀ x ∈ c.exceptionTable.toList, covers x (pc + 9) = false)
    (hRframes : names.length + 3 < R.frames) (hRlocals : (rest.map fun v => v.category).sum + (13 * (names.length + 1) + 43) ≤ R.locals) (hRcells : cells + 1 ≤ R.cells) (hRslots : slots + 6 ≤ R.slots) (hlocks : meth.locks = false)
    (hx : ∀ t : State, s.vm.Alike t.vm → H.size ≤ t.heap.size → (∀ q : Nat, q < H.size → t.heap[q]? = H[q]?) → XC cls s t)
    (hf : ∀ z ∈ locs, free z.base) (hc : cells + 1 ≤ mc) (hs : slots + 6 ≤ ms) :
    W p l e R s m args below meth c H locs cells slots (vx_MQ below Qc XC args s mc ms free) (F0 m pc ls rest) := by
  intro T hT X
  have htr : e.platform.stackTraces = false := (show e.platform.stackTraces = l.stackTraces by rw [X.admits.platform]).trans hl
  have Y := vx_rebase X (R' := { frames := R.frames, locals := R.locals, cells := 1, slots := 6 }) (Nat.le_refl _) (Nat.le_refl _) hRcells hRslots
  obtain ⟨s', hA⟩ : ∃ z, z = (T.setVm s.vm).setFrames (.invoking m args :: below) := ⟨_, rfl⟩
  rw [← hA] at Y
  have hvm : s'.vm = s.vm := by rw [hA]; rfl
  have hhp : s'.heap = H := by rw [hA]; exact hT
  have hW0 : s.WarmedH s'.vm := by rw [hvm]; exact State.WarmedH.refl s
  have hat' : ∀ w ∈ vx_atS own ic cls names, w.before args s' = true := fun w hw => vx_ot_at hW0 hvm.symm (hgood w (List.mem_cons_of_mem _ (List.mem_cons_of_mem _ hw))) (hat w hw)
  have hk' : (Cond.classLink own ik cls).before args s' = true := vx_ot_at hW0 hvm.symm (hgood _ List.mem_cons_self) hk
  have hini' : (Cond.initialized cls).before args s' = true := vx_ot_at hW0 hvm.symm (hgood _ (List.mem_cons_of_mem _ List.mem_cons_self)) hini
  have hU' : vx_Zq Bundle.tN "UNASSIGNED_STACK" Bundle.steD A s' s'.heap := by rw [hhp]; exact vx_Zq.moved hW0.alike (hU.kept hS.2.1)
  have hN' : vx_Zq Bundle.tN "SUPPRESSED_SENTINEL" Bundle.listD A s' s'.heap := by rw [hhp]; exact vx_Zq.moved hW0.alike (hN.kept hS.2.1)
  have h : ∀ w ∈ Bundle.ownAtoms own ic cls names, w.before args s' = true := vx_own hat' (vx_isRefq hU'.1) (vx_isRefq hN'.1) hU'.2.word hN'.2.word
  have hown' : s'.vm.findClass own = some m.cls := by rw [hvm]; exact hown
  have hins : (Cond.instantiable cls 6).before args s' = true := h _ (by simp [Bundle.ownAtoms])
  obtain ⟨vm₁, cX, kX, hfX, hkX, -, -, X₁, st1⟩ := Y.newCold hexec (own := own) (C := cls) (index := ik) (n := 6) hown' hk' hins hini'
    (g := F0 m pc ls rest) rfl (by rw [hb]; exact d0) (Nat.le_refl _) (Nat.le_refl _)
  generalize hT1 : (T.setVm vm₁).pushCell { cls := cX, slots := kX.instanceTypes.map defaultValue, vm := .none } = T1 at X₁ st1
  have hcat : (Value.ref T.heap.size).category = 1 := rfl
  have hcellA : T1.heap[T.heap.size]? = some (freshCell cX kX) := by rw [← hT1]; exact State.heap_pushCell_size _ _
  have d3' : decode c.code (pc + 3) = .ok (.dup, 1) := by rw [hb]; exact d3
  have d4' : decode c.code (pc + 4) = .ok (.ldc is, 2) := by rw [hb]; exact d4
  have hstr' : vk_R own is text sa s' := vk_R.warm hW0 hstr
  obtain ⟨U, hsteps, hrun, hend, hW, hsame, ce, hce, hO⟩ := X₁.ctorThrowS hexec htr (own := own) (cls := cls) (names := names) (ic := ic) hown' hcls hnames h (fun x hx => nomatch hx) hfX hkX hcellA (by rw [hhp, hT]; exact Nat.le_refl _) (msg := .ref sa) rfl
    (g := { method := m, pc := pc + 6, locals := ls, stack := .ref sa :: .ref T.heap.size :: .ref T.heap.size :: rest, locked := none }) rfl hsize rfl rfl (rest := rest) rfl
    (by rw [hb]; exact d6) (by rw [hb]; exact d9) hout hRframes (by simp only [List.map_cons, List.sum_cons, hcat]; omega) hlocks
  obtain ⟨f1, f2⟩ := vx_frame hsame
  rw [hhp] at f1 f2
  have hWs : s.WarmedH U.vm := State.WarmedH.trans hW0 hW
  have hcl : s.vm.findClass cls = some ce.cls := by
    have h9 := hO.cls
    rw [hvm] at h9
    exact h9
  have hall : s.sameButNew ({ U with vm := s.vm } : State) locs mc ms := by
    subst hA
    obtain ⟨e1, e2⟩ := hsame
    rw [State.setFrames_setFrames] at e1
    have h2 : (T.setVm s.vm).sameButNew ({ U with vm := s.vm } : State) [] (0 + 1) (0 + 6) := ⟨e1, e2⟩
    have h3 := X.same.trans h2
    rw [List.append_nil] at h3
    exact h3.mono hc hs
  refine ⟨U, ?_, .threw T.heap.size, hrun, hend, Or.inr ⟨T.heap.size, rfl, cls, ce, locs, hx U hWs.alike f1 (fun q hq => f2 q hq (fun z hz => nomatch hz)), hce, hO.vm, hcl, hWs, hall, hf⟩⟩
  refine st1 _ ?_
  show Steps p.tables e below (T1.setTop { method := m, pc := pc + 3, locals := ls, stack := .ref T.heap.size :: rest, locked := none }) _
  jvm_step X₁.here [X₁.here.top, hexec, d3', Value.category]
  exact X₁.ldcString hexec (own := own) (text := text) (index := is) (a := sa) hown' hstr'.1 hstr'.2
    (g := { method := m, pc := pc + 4, locals := ls, stack := .ref T.heap.size :: .ref T.heap.size :: rest, locked := none }) rfl d4' _ hsteps
/-- 'throw new E("text")', the text by a wide index -/
theorem vx_throwSW {cc : ByteArray} {pc : Nat} (hexec : p.tables.exec = Jvm.exec) (hb : c.code = cc) (hl : l.stackTraces = false) {own cls text : String} {names : List String} {ik is ic mc ms sa : Nat} {A : Nat → Prop}
    (hown : s.vm.findClass own = some m.cls) (hcls : Bundle.fit cls = true) (hnames : ∀ n ∈ names, Bundle.fit n = true)
    (hk : (Cond.classLink own ik cls).before args s = true) (hini : (Cond.initialized cls).before args s = true) (hstr : vk_R own is text sa s) (hat : ∀ w ∈ vx_atS own ic cls names, w.before args s = true)
    (hgood : ∀ w ∈ Cond.classLink own ik cls :: Cond.initialized cls :: vx_atS own ic cls names, vx_ot w = true)
    (hU : vx_Zq Bundle.tN "UNASSIGNED_STACK" Bundle.steD A s s.heap) (hN : vx_Zq Bundle.tN "SUPPRESSED_SENTINEL" Bundle.listD A s s.heap) (hS : va_S A s.heap H locs) (hsize : ls.size = c.maxLocals)
    (d0 : decode cc pc = .ok (.new ik, 3)) (d3 : decode cc (pc + 3) = .ok (.dup, 1)) (d4 : decode cc (pc + 4) = .ok (.ldc_w is, 3)) (d7 : decode cc (pc + 7) = .ok (.invokespecial ic, 3)) (d10 : decode cc (pc + 10) = .ok (.athrow, 1))
    (hout : ∀ x ∈ c.exceptionTable.toList, covers x (pc + 10) = false)
    (hRframes : names.length + 3 < R.frames) (hRlocals : (rest.map fun v => v.category).sum + (13 * (names.length + 1) + 43) ≤ R.locals) (hRcells : cells + 1 ≤ R.cells) (hRslots : slots + 6 ≤ R.slots) (hlocks : meth.locks = false)
    (hx : ∀ t : State, s.vm.Alike t.vm → H.size ≤ t.heap.size → (∀ q : Nat, q < H.size → t.heap[q]? = H[q]?) → XC cls s t)
    (hf : ∀ z ∈ locs, free z.base) (hc : cells + 1 ≤ mc) (hs : slots + 6 ≤ ms) :
    W p l e R s m args below meth c H locs cells slots (vx_MQ below Qc XC args s mc ms free) (F0 m pc ls rest) := by
  intro T hT X
  have htr : e.platform.stackTraces = false := (show e.platform.stackTraces = l.stackTraces by rw [X.admits.platform]).trans hl
  have Y := vx_rebase X (R' := { frames := R.frames, locals := R.locals, cells := 1, slots := 6 }) (Nat.le_refl _) (Nat.le_refl _) hRcells hRslots
  obtain ⟨s', hA⟩ : ∃ z, z = (T.setVm s.vm).setFrames (.invoking m args :: below) := ⟨_, rfl⟩
  rw [← hA] at Y
  have hvm : s'.vm = s.vm := by rw [hA]; rfl
  have hhp : s'.heap = H := by rw [hA]; exact hT
  have hW0 : s.WarmedH s'.vm := by rw [hvm]; exact State.WarmedH.refl s
  have hat' : ∀ w ∈ vx_atS own ic cls names, w.before args s' = true := fun w hw => vx_ot_at hW0 hvm.symm (hgood w (List.mem_cons_of_mem _ (List.mem_cons_of_mem _ hw))) (hat w hw)
  have hk' : (Cond.classLink own ik cls).before args s' = true := vx_ot_at hW0 hvm.symm (hgood _ List.mem_cons_self) hk
  have hini' : (Cond.initialized cls).before args s' = true := vx_ot_at hW0 hvm.symm (hgood _ (List.mem_cons_of_mem _ List.mem_cons_self)) hini
  have hU' : vx_Zq Bundle.tN "UNASSIGNED_STACK" Bundle.steD A s' s'.heap := by rw [hhp]; exact vx_Zq.moved hW0.alike (hU.kept hS.2.1)
  have hN' : vx_Zq Bundle.tN "SUPPRESSED_SENTINEL" Bundle.listD A s' s'.heap := by rw [hhp]; exact vx_Zq.moved hW0.alike (hN.kept hS.2.1)
  have h : ∀ w ∈ Bundle.ownAtoms own ic cls names, w.before args s' = true := vx_own hat' (vx_isRefq hU'.1) (vx_isRefq hN'.1) hU'.2.word hN'.2.word
  have hown' : s'.vm.findClass own = some m.cls := by rw [hvm]; exact hown
  have hins : (Cond.instantiable cls 6).before args s' = true := h _ (by simp [Bundle.ownAtoms])
  obtain ⟨vm₁, cX, kX, hfX, hkX, -, -, X₁, st1⟩ := Y.newCold hexec (own := own) (C := cls) (index := ik) (n := 6) hown' hk' hins hini'
    (g := F0 m pc ls rest) rfl (by rw [hb]; exact d0) (Nat.le_refl _) (Nat.le_refl _)
  generalize hT1 : (T.setVm vm₁).pushCell { cls := cX, slots := kX.instanceTypes.map defaultValue, vm := .none } = T1 at X₁ st1
  have hcat : (Value.ref T.heap.size).category = 1 := rfl
  have hcellA : T1.heap[T.heap.size]? = some (freshCell cX kX) := by rw [← hT1]; exact State.heap_pushCell_size _ _
  have d3' : decode c.code (pc + 3) = .ok (.dup, 1) := by rw [hb]; exact d3
  have d4' : decode c.code (pc + 4) = .ok (.ldc_w is, 3) := by rw [hb]; exact d4
  have hstr' : vk_R own is text sa s' := vk_R.warm hW0 hstr
  obtain ⟨U, hsteps, hrun, hend, hW, hsame, ce, hce, hO⟩ := X₁.ctorThrowS hexec htr (own := own) (cls := cls) (names := names) (ic := ic) hown' hcls hnames h (fun x hx => nomatch hx) hfX hkX hcellA (by rw [hhp, hT]; exact Nat.le_refl _) (msg := .ref sa) rfl
    (g := { method := m, pc := pc + 7, locals := ls, stack := .ref sa :: .ref T.heap.size :: .ref T.heap.size :: rest, locked := none }) rfl hsize rfl rfl (rest := rest) rfl
    (by rw [hb]; exact d7) (by rw [hb]; exact d10) hout hRframes (by simp only [List.map_cons, List.sum_cons, hcat]; omega) hlocks
  obtain ⟨f1, f2⟩ := vx_frame hsame
  rw [hhp] at f1 f2
  have hWs : s.WarmedH U.vm := State.WarmedH.trans hW0 hW
  have hcl : s.vm.findClass cls = some ce.cls := by
    have h9 := hO.cls
    rw [hvm] at h9
    exact h9
  have hall : s.sameButNew ({ U with vm := s.vm } : State) locs mc ms := by
    subst hA
    obtain ⟨e1, e2⟩ := hsame
    rw [State.setFrames_setFrames] at e1
    have h2 : (T.setVm s.vm).sameButNew ({ U with vm := s.vm } : State) [] (0 + 1) (0 + 6) := ⟨e1, e2⟩
    have h3 := X.same.trans h2
    rw [List.append_nil] at h3
    exact h3.mono hc hs
  refine ⟨U, ?_, .threw T.heap.size, hrun, hend, Or.inr ⟨T.heap.size, rfl, cls, ce, locs, hx U hWs.alike f1 (fun q hq => f2 q hq (fun z hz => nomatch hz)), hce, hO.vm, hcl, hWs, hall, hf⟩⟩
  refine st1 _ ?_
  show Steps p.tables e below (T1.setTop { method := m, pc := pc + 3, locals := ls, stack := .ref T.heap.size :: rest, locked := none }) _
  jvm_step X₁.here [X₁.here.top, hexec, d3', Value.category]
  exact X₁.ldcStringW hexec (own := own) (text := text) (index := is) (a := sa) hown' hstr'.1 hstr'.2
    (g := { method := m, pc := pc + 4, locals := ls, stack := .ref T.heap.size :: .ref T.heap.size :: rest, locked := none }) rfl d4' _ hsteps
end Ends
section Bodies
variable {l : Launch}
theorem vx_ofW {y : MethodName} {ws ws' : List Cond} {rm : Room} {Pc : Array Value → State → Prop} {Qc : Array Value → State → Outcome → State → Prop} {XC : String → State → State → Prop} {mc ms : Nat} {free : Addr → Prop} {cc : ByteArray} {maxL : Nat} {ret : Option FieldType}
    (hy : plainName y.cls = true) (hw : ws = Cond.code y cc maxL ret :: ws')
    (body : ∀ p e s m args below meth c s₁, BodyLoose p l y (headSpec ws rm) cc maxL ret e s m args below meth c s₁ → c.maxLocals = maxL → (∀ x ∈ c.exceptionTable.toList, False) → Pc args s →
      W p l e (headSpec ws rm).room s m args below meth c s.heap [] 0 0 (vx_MQ below Qc XC args s mc ms free) (entryFrame m args maxL)) : vx_Met l y ws rm Pc Qc XC mc ms free := by
  refine MetFree.of_bodyS (code := cc) (maxLocals := maxL) (ret := ret) hy ?_ ?_
  · intro args s m h hn
    obtain ⟨meth, c, h1, h2, h3, h4, h5, h6, -, -⟩ := Cond.code_spec hn (atoms_spec (ws := ws) h _ (by rw [hw]; exact List.mem_cons_self))
    exact ⟨meth, c, h1, h2, h3, h4, h5, h6⟩
  · intro p e s m args below meth c s₁ B hml hP _
    have hh0 : s₁.heap = s.heap := by rw [B.state]; rfl
    have ht : ∀ x ∈ c.exceptionTable.toList, False := by
      obtain ⟨meth9, c9, h1, h2, -, -, -, -, h7, -⟩ := Cond.code_spec B.named (atoms_spec (ws := ws) B.pre _ (by rw [hw]; exact List.mem_cons_self))
      cases Option.some.inj (h1.symm.trans B.method)
      cases Option.some.inj (h2.symm.trans (Stand.of_body B).code)
      intro x hx
      rw [Array.isEmpty_iff.mp h7] at hx
      cases hx
    obtain ⟨t, a1, o, b1, b2, b3⟩ := body p e s m args below meth c s₁ B hml ht hP s₁ hh0 (Stand.of_body B)
    exact ⟨t, o, a1, b1, b2, b3⟩
/-- the table of a body with handlers -/
theorem vx_table {p : Program} {x y : MethodName} {S : Spec} {cc bytes : ByteArray} {maxL maxL' : Nat} {ret ret' : Option FieldType} {e : Env} {s s₁ : State} {m : MethodId} {args : Array Value} {below : List Frame} {meth : Method} {c : Code} {hh : List (Nat × Nat × Nat × Nat)}
    (B : BodyLoose p l y S cc maxL ret e s m args below meth c s₁) (h : (Cond.codeWith y bytes maxL' ret' hh).before args s = true) : c.exceptionTable.toList = tableOf hh := by
  obtain ⟨m9, meth9, c9, hn9, h1, h2, -, -, h6, -⟩ := Cond.codeWith_spec h
  cases Option.some.inj (hn9.symm.trans B.named)
  cases Option.some.inj (h1.symm.trans B.method)
  cases Option.some.inj (h2.symm.trans (Stand.of_body B).code)
  rw [← h6, table_eq]
end Bodies
end VXA
/-! ===== END ===== -/
/-! ===== BEGIN a static call of a method with an exception table ===== -/
section VXS
variable {p : Program} {l : Launch} {e : Env} {R : Room} {s : State} {m : MethodId} {args : Array Value} {below : List Frame} {meth : Method} {c : Code} {T : State} {H : Heap} {locs : List Loc} {cells slots : Nat}
abbrev vx_CSW (R : Room) (s : State) (args : Array Value) (own : String) (index : Nat) (y : MethodName) (bytes : ByteArray) (maxL : Nat) (ret : Option FieldType) (hh : List (Nat × Nat × Nat × Nat)) (ws : List Cond) (rm : Room) (mc ms n : Nat) : Prop :=
  (rm.cells = mc ∧ rm.slots = ms ∧ rm.frames + 1 ≤ R.frames ∧ 8 + (maxL + 11) + rm.locals ≤ R.locals ∧ (∀ w ∈ ws, ∀ (a' : Array Value) (U : State), s.WarmedH U.vm → w.before a' U = true) ∧ Cond.codeWith y bytes maxL ret hh ∈ ws) ∧
  (Cond.codeWith y bytes maxL ret hh).before args s = true ∧ (Cond.initialized y.cls).before args s = true ∧ (y.cls ≠ "java/lang/invoke/MethodHandle" ∧ y.cls ≠ "java/lang/invoke/VarHandle") ∧
  (∀ sig, parseMethodDescriptor y.desc = some sig → n = sig.parameters.length) ∧ (Cond.methodLink own index y).before args s = true ∧ (Cond.static y).before args s = true
theorem vx_cwSW {own : String} {index maxL mc ms : Nat} {y : MethodName} {bytes : ByteArray} {ret : Option FieldType} {hh : List (Nat × Nat × Nat × Nat)} {Ts ws ws' : List Cond} {rm : Room} (n : Nat) (ht : ∀ w ∈ Ts, w.before args s = true) (hT : GoodIn Ts (va_wsS own index y ws)) (hw : ws = Cond.codeWith y bytes maxL ret hh :: ws') (hrc : rm.cells = mc) (hrs : rm.slots = ms)
    (hd : y.cls ≠ "java/lang/invoke/MethodHandle" ∧ y.cls ≠ "java/lang/invoke/VarHandle" ∧ (parseMethodDescriptor y.desc).map (fun d => d.parameters.length) = some n) (hR : rm.frames + 1 ≤ R.frames ∧ 8 + (maxL + 11) + rm.locals ≤ R.locals) :
    vx_CSW R s args own index y bytes maxL ret hh ws rm mc ms n := by
  have ok : ∀ w ∈ va_wsS own index y ws, w.before args s = true := fun w h => ht w (hT w h).1
  have hG : GoodIn Ts ws := fun w h => hT w (by unfold va_wsS; exact List.mem_append_right _ h)
  have hc : Cond.codeWith y bytes maxL ret hh ∈ ws := by rw [hw]; exact List.mem_cons_self
  refine ⟨⟨hrc, hrs, hR.1, hR.2, pay_in ht hG, hc⟩, ht _ (hG _ hc).1, ok _ (by simp [va_wsS]), ⟨hd.1, hd.2.1⟩, fun sig h => ?_, ok _ (by simp [va_wsS]), ok _ (by simp [va_wsS])⟩
  have h2 := hd.2.2
  rw [h] at h2
  exact (Option.some.inj h2).symm
theorem vx_callSW (X : Stand p l e R s m args below meth c T locs cells slots) (hexec : p.tables.exec = Jvm.exec) {own : String} {index : Nat} {y : MethodName} {bytes : ByteArray} {maxL : Nat} {ret : Option FieldType} {hh : List (Nat × Nat × Nat × Nat)}
    (hown : s.vm.findClass own = some m.cls) (hlink : (Cond.methodLink own index y).before args s = true) (hstat : (Cond.static y).before args s = true) (hinit : (Cond.initialized y.cls).before args s = true)
    (hcode : (Cond.codeWith y bytes maxL ret hh).before args s = true) (hy : y.cls ≠ "java/lang/invoke/MethodHandle" ∧ y.cls ≠ "java/lang/invoke/VarHandle")
    {W9 : Nat} {Pre : Pt → Array Value → Prop} {Post : Pt → Array Value → Option Value → Pt → Prop} (hK : Back l R p e below s args y 3 W9 Pre Post)
    {g : JFrame} (hg : g.method = m) (hsize : g.locals.size = c.maxLocals) {argsL rest : List Value} (hlen : ∀ sig, parseMethodDescriptor y.desc = some sig → argsL.length = sig.parameters.length)
    (hstack : g.stack = argsL.reverse ++ rest) (hW : 2 * g.monitorRoom + (rest.map fun v => v.category).sum ≤ W9) (hdg : decode c.code g.pc = .ok (.invokestatic index, 3))
    (hpre : ∀ vm₁, s.WarmedH vm₁ → Pre ⟨T.setVm vm₁, locs, cells, slots⟩ argsL.toArray) :
    ∃ (v : Option Value) (vm₁ : Vm) (B : Pt), s.WarmedH vm₁ ∧ Stand p l e R s m args below meth c B.U B.locs B.cells B.slots ∧ Post ⟨T.setVm vm₁, locs, cells, slots⟩ argsL.toArray v B ∧
      ∀ target, Steps p.tables e below (B.U.setTop { g with pc := g.pc + 3, stack := v.toList ++ rest }) target → Steps p.tables e below (T.setTop g) target := by
  obtain ⟨mk, methM, cM, hnamed, hmethM, -, -, -, -, -, -, hsigM⟩ := Cond.codeWith_spec hcode
  have hstatic : methM.isStatic = true := Cond.static_spec hnamed hmethM hstat
  obtain ⟨kP, hkP, -⟩ := className_of_methodNamed hnamed
  have hinitP : kP.init = .initialized := Cond.initialized_spec (findClass_of_methodNamed hnamed) hkP hinit
  obtain ⟨vm₁, X₁, hstep₁⟩ := X.invokestatic hexec hown hlink hnamed hmethM hstatic hkP hinitP hy (g := g) hg (argsL := argsL) (rest := rest) (hlen _ hsigM) hstack hdg
  obtain ⟨v, B, X', hpost, hsteps⟩ := hK m meth c ⟨T.setVm vm₁, locs, cells, slots⟩ { g with stack := rest } (.invokestatic index) mk argsL.toArray X₁ hg hsize hdg hW (X₁.named hnamed) (hpre vm₁ X₁.warmed)
  exact ⟨v, vm₁, B, X₁.warmed, X', hpost, fun target h => hstep₁ _ fun acts => by rw [doInvoke_state]; exact hsteps.trans h⟩
theorem vx_runSW {y : MethodName} {bytes cc : ByteArray} {maxL nL mc ms n index : Nat} {ret : Option FieldType} {hh : List (Nat × Nat × Nat × Nat)} {ws : List Cond} {rm : Room} {Pc : Array Value → State → Prop} {Qc : Array Value → State → Outcome → State → Prop} {free : Addr → Prop} {Ts : List Cond} {own : String} {As rest : List Value} {g : JFrame}
    (S : CallFix p m c cc nL s args Ts own) (hM : Met l y ws rm Pc Qc mc ms free) (cw : vx_CSW R s args own index y bytes maxL ret hh ws rm mc ms n) (hp : PreS s H Pc As)
    (hg : g.method = m) (hn : As.length = n) (hsize : g.locals.size = nL) (hstack : g.stack = As.reverse ++ rest) (hW : 2 * g.monitorRoom + (rest.map fun v => v.category).sum ≤ 8) (hdg : decode cc g.pc = .ok (.invokestatic index, 3)) (hf : cells + mc ≤ R.cells ∧ slots + ms ≤ R.slots) :
    va_Run p l e R s m args below meth c H locs cells slots mc ms g rest (Qc As.toArray) (free) := by
  obtain ⟨⟨hrc, hrs, hfr, hlo, hws, hcw⟩, hcode, hini, hy, hlen, hl, hstt⟩ := cw
  have hK : Back l R p e below s args y 3 8 (PreOf R mc ms Pc) (PostOf Qc mc ms free) := va_backW (hh := hh) (bytes := bytes) (maxL := maxL) (ret := ret) hM hp.1 hrc hrs hfr hlo hws hcw (fun a' U hW => word_at hW (Or.inl (by first | rfl | simp [Cond.onTables, Cond.keeps, Cond.steady])) hini)
  obtain ⟨hx, hb, hml, ho, -⟩ := S
  intro T hT X
  obtain ⟨v, vm₁, ⟨U', l2, c2, s2⟩, hW₁, X', ⟨g', mk, t, L, e1, e2, hq, h1, hL, h2, h3⟩, st⟩ := vx_callSW X hx (hh := hh) (bytes := bytes) (maxL := maxL) (ret := ret) ho hl hstt hini hcode hy hK hg (hsize.trans hml.symm) (argsL := As) (rest := rest) (fun sig h => hn.trans (hlen sig h)) hstack hW (by rw [hb]; exact hdg)
    (fun vm₁ hW₁ => ⟨hf.1, hf.2, hp.2 (T.setVm vm₁) hT hW₁⟩)
  dsimp only [Pt.U, Pt.locs, Pt.cells, Pt.slots] at X' e1 e2 h1 h2 h3 st
  subst h1; subst h2; subst h3
  exact ⟨v, (T.setVm vm₁).calling g' mk As.toArray, t, U', L, hT, X', hL, e1, e2, hq, st⟩
/-- a thing of a world lies in the heap -/
theorem vx_lt {D : va_G} {cl : List vw_C} {ws : va_W} {H1 : Heap} (h : va_P D cl ws H1) {k : Nat} {q : Nat × va_E} (hk : ws[k]? = some q) : q.1 < H1.size := (h k q hk).lt
end VXS
/-! ===== END ===== -/
/-! ===== BEGIN methods with a table of their own: called by a name, returning or throwing ===== -/
section VXH
/-! vx_backW, vx_callVX, vx_callSX, vx_callVW, vx_runVW, vx_runVX, vx_runSX, vx_ofWH follow the same proofs as their sisters above (Free/Laws.lean, Shelf42/LK1.lean); vx_outP calls Shelf42/NT130.lean (outThrough). -/
section
variable {l : Launch} {R : Room} {p : Program} {e : Env} {below : List Frame} {s : State} {sargs : Array Value} {y : MethodName} {len W9 : Nat}
theorem vx_backW {ws : List Cond} {rm : Room} {Pc : Array Value → State → Prop} {Qc : Array Value → State → Outcome → State → Prop} {XC : String → State → State → Prop} {mc ms : Nat} {free : Addr → Prop} {bytes : ByteArray} {maxL : Nat} {ret : Option FieldType} {hh : List (Nat × Nat × Nat × Nat)}
    (hM : vx_Met l y ws rm Pc Qc XC mc ms free) (hblind : FrameBlind Pc) (hrc : rm.cells = mc) (hrs : rm.slots = ms)
    (hframes : rm.frames + 1 ≤ R.frames) (hlocals : W9 + (maxL + 11) + rm.locals ≤ R.locals)
    (hws : ∀ w ∈ ws, ∀ a' U, s.WarmedH U.vm → w.before a' U = true) (hcode : Cond.codeWith y bytes maxL ret hh ∈ ws) (hinit : ∀ a' U, s.WarmedH U.vm → (Cond.initialized y.cls).before a' U = true) :
    vx_Back l R p e below s sargs y len W9 (PreOf R mc ms Pc) (PostOf Qc mc ms free) (vx_Post XC mc ms free) := by
  intro m meth c A g ig mk a X hg hsize hdg hW hn hp
  have h1 : (headSpec ws rm).pre.before a A.U = true := atoms_intro fun w hw => hws w hw _ _ X.warmed
  have h2 : (Cond.codeWith y bytes maxL ret hh).before a A.U = true := hws _ hcode _ _ X.warmed
  have h3 : (Cond.initialized y.cls).before a A.U = true := hinit _ _ X.warmed
  have h4 : A.cells + (headSpec ws rm).room.cells ≤ R.cells := by rw [show (headSpec ws rm).room.cells = mc from hrc]; exact hp.1
  have h5 : A.slots + (headSpec ws rm).room.slots ≤ R.slots := by rw [show (headSpec ws rm).room.slots = ms from hrs]; exact hp.2.1
  have hPc : Pc a (A.U.calling g mk a) := hblind _ _ _ _ hp.2.2
  obtain ⟨U, Ls, c0, s0⟩ := A
  dsimp only [Pt.U, Pt.locs, Pt.cells, Pt.slots] at h1 h2 h3 h4 h5 X hn hPc ⊢
  obtain ⟨m9, methY, cY, hn9, hmY, hcY, -, hlY, -⟩ := Cond.codeWith_spec h2
  cases Option.some.inj (hn9.symm.trans hn)
  obtain ⟨kY, hkY, -⟩ := className_of_methodNamed hn
  have hinitY : kY.init = .initialized := Cond.initialized_spec (findClass_of_methodNamed hn) hkY h3
  have h : At U g.method c below := by rw [hg]; exact X.here
  have hlocals9 : W9 + (maxL + 11) + (headSpec ws rm).room.locals ≤ R.locals := hlocals
  have happ : (headSpec ws rm).appliesLoose y e.platform (U.calling g mk a) = true :=
    Spec.appliesLoose_calling (g := g) h hdg hn hkY hinitY
      (X.room_calling (g := g) (R' := (headSpec ws rm).room) hsize hmY hcY hframes (by rw [hlY]; omega) h4 h5) h1
  obtain ⟨mid, hmid⟩ := h.above
  have hfr : (U.setTop g).frames = (.java g :: mid) ++ below := by rw [State.frames_setTop' g h.top, hmid]; rfl
  obtain ⟨o, s₂, hsteps, -, hend, hq⟩ := Steps.callFree hM p X.admits X.cas X.clock (acts := []) hfr happ hPc trivial
  have hq' : vx_Q Qc XC mc ms free a (U.calling g mk a) o s₂ := hq
  rw [State.frames_setTop' g h.top] at hend
  obtain ⟨g₀, hg0⟩ := Option.isSome_iff_exists.mp h.top
  obtain ⟨r, hr⟩ := State.topJava?_eq_some.mp hg0
  have hr' : (({ U with heap := s₂.heap, slotsUsed := s₂.slotsUsed } : State).setVm s₂.vm).frames = .java g₀ :: r := hr
  rcases hq' with ⟨hqc, L, hfe, hL⟩ | ⟨q, rfl, E, ce, L, hx, hce, hcv, hcl, hW₂, hsm, hL⟩
  · obtain ⟨⟨v, rfl⟩, hW₂, e2, q2, q3, q4, q5, q6⟩ := id hfe
    have e3 : s₂ = ({ (U.calling g mk a).setFrames s₂.frames with heap := s₂.heap, slotsUsed := s₂.slotsUsed } : State).setVm s₂.vm := by
      have : s₂ = ({ s₂ with vm := (U.calling g mk a).vm } : State).setVm s₂.vm := rfl
      rw [e2] at this
      exact this
    obtain ⟨c₂, i₂, len₂, hc₂, hd₂, hf₂⟩ := hend
    have hW' : U.WarmedH s₂.vm := hW₂
    have hcc : c₂ = c := by
      have h1 : s₂.code? g.method = U.code? g.method := by
        rw [State.code?_eq, State.code?_eq, hW'.alike.method?]
      exact Option.some.inj (hc₂.symm.trans (h1.trans h.code))
    subst hcc
    have hlen : len₂ = len := by rw [hdg] at hd₂; cases hd₂; rfl
    subst hlen
    have hs₂ : s₂ = (({ U with heap := s₂.heap, slotsUsed := s₂.slotsUsed } : State).setVm s₂.vm).setTop { g with pc := g.pc + len₂, stack := v.toList ++ g.stack } := by
      refine e3.trans ?_
      rw [hf₂, State.calling_eq h.top, State.setFrames_setFrames, State.setTop_of_frames _ hr', hr]
      rfl
    have hsame : U.sameButNew ({ U with heap := s₂.heap, slotsUsed := s₂.slotsUsed } : State) L mc ms := by
      refine ⟨?_, q2, q3, q4, q5, q6⟩
      obtain ⟨t, ht, -⟩ := State.frames_cons hr
      show ({ U with heap := s₂.heap, slotsUsed := s₂.slotsUsed } : State) = { U.setFrames U.frames with heap := s₂.heap, slotsUsed := s₂.slotsUsed }
      rw [State.setFrames_self ht]
    subst hg
    refine Or.inl ⟨v, ⟨(({ U with heap := s₂.heap, slotsUsed := s₂.slotsUsed } : State).setVm s₂.vm), Ls ++ L, c0 + mc, s0 + ms⟩,
      ⟨X.admits, X.cas, X.clock, X.frames, X.room, X.hears, X.method, X.code, (X.here.setHeapUsed s₂.heap s₂.slotsUsed).setVm hW'.alike, X.tail, State.WarmedH.trans X.warmed hW', X.limits, X.bytes, X.same.trans (hsame.setVm s.vm)⟩,
      ⟨g, mk, s₂, L, rfl, rfl, hqc, rfl, hL, rfl, rfl⟩, ?_⟩
    show Steps p.tables e below _ ((({ U with heap := s₂.heap, slotsUsed := s₂.slotsUsed } : State).setVm s₂.vm).setTop { g with pc := g.pc + len₂, stack := v.toList ++ g.stack })
    rw [← hs₂]
    exact hsteps
  · obtain ⟨e2, q2, q3, q4, q5, q6⟩ := id hsm
    have e3 : s₂ = ({ (U.calling g mk a).setFrames s₂.frames with heap := s₂.heap, slotsUsed := s₂.slotsUsed } : State).setVm s₂.vm := by
      have : s₂ = ({ s₂ with vm := (U.calling g mk a).vm } : State).setVm s₂.vm := rfl
      rw [e2] at this
      exact this
    have hf₂ : s₂.frames = .throwing q :: .java g :: U.frames.tail := hend
    have hW' : U.WarmedH s₂.vm := hW₂
    have hs₂ : s₂ = ((({ U with heap := s₂.heap, slotsUsed := s₂.slotsUsed } : State).setVm s₂.vm).setTop g).pushFrame (.throwing q) := by
      refine e3.trans ?_
      rw [hf₂, State.calling_eq h.top, State.setFrames_setFrames, State.pushFrame, State.frames_setTop _ hr', State.setTop_of_frames _ hr', State.setFrames_setFrames, hr]
      rfl
    have hsame : U.sameButNew ({ U with heap := s₂.heap, slotsUsed := s₂.slotsUsed } : State) L mc ms := by
      refine ⟨?_, q2, q3, q4, q5, q6⟩
      obtain ⟨t, ht, -⟩ := State.frames_cons hr
      show ({ U with heap := s₂.heap, slotsUsed := s₂.slotsUsed } : State) = { U.setFrames U.frames with heap := s₂.heap, slotsUsed := s₂.slotsUsed }
      rw [State.setFrames_self ht]
    subst hg
    refine Or.inr ⟨q, ⟨(({ U with heap := s₂.heap, slotsUsed := s₂.slotsUsed } : State).setVm s₂.vm), Ls ++ L, c0 + mc, s0 + ms⟩,
      ⟨X.admits, X.cas, X.clock, X.frames, X.room, X.hears, X.method, X.code, (X.here.setHeapUsed s₂.heap s₂.slotsUsed).setVm hW'.alike, X.tail, State.WarmedH.trans X.warmed hW', X.limits, X.bytes, X.same.trans (hsame.setVm s.vm)⟩,
      ⟨g, mk, s₂, L, E, ce, rfl, rfl, hx, hce, hcv, hcl, rfl, hL, rfl, rfl⟩, ?_⟩
    show Steps p.tables e below _ (((({ U with heap := s₂.heap, slotsUsed := s₂.slotsUsed } : State).setVm s₂.vm).setTop g).pushFrame (.throwing q))
    rw [← hs₂]
    exact hsteps
end
variable {p : Program} {l : Launch} {e : Env} {R : Room} {s : State} {m : MethodId} {args : Array Value} {below : List Frame} {meth : Method} {c : Code} {T : State} {H : Heap} {locs : List Loc} {cells slots : Nat}
theorem vx_callVX (X : Stand p l e R s m args below meth c T locs cells slots) (hexec : p.tables.exec = Jvm.exec) {own C : String} {index : Nat} {y : MethodName} {bytes : ByteArray} {maxL : Nat} {ret : Option FieldType} {hh : List (Nat × Nat × Nat × Nat)}
    (hown : s.vm.findClass own = some m.cls) (hlink : (Cond.methodLink own index y).before args s = true) (hinst : (Cond.instanceMethod y).before args s = true) (hsel : (Cond.selects C y y).before args s = true)
    (hcode : (Cond.codeWith y bytes maxL ret hh).before args s = true) (hy : y.cls ≠ "java/lang/invoke/MethodHandle" ∧ y.cls ≠ "java/lang/invoke/VarHandle")
    {W9 : Nat} {Pre : Pt → Array Value → Prop} {Post : Pt → Array Value → Option Value → Pt → Prop} {PostX : Pt → Array Value → Addr → Pt → Prop} (hK : vx_Back l R p e below s args y 3 W9 Pre Post PostX)
    {b : Addr} {cellB : Cell} (hcell : T.heap[b]? = some cellB) (hobj : cellB.vm.isStatics = false) (hcls : s.vm.findClass C = some cellB.cls)
    {g : JFrame} (hg : g.method = m) (hsize : g.locals.size = c.maxLocals) {argsL rest : List Value} (hlen : ∀ sig, parseMethodDescriptor y.desc = some sig → argsL.length = sig.parameters.length)
    (hstack : g.stack = argsL.reverse ++ .ref b :: rest) (hW : 2 * g.monitorRoom + (rest.map fun v => v.category).sum ≤ W9) (hdg : decode c.code g.pc = .ok (.invokevirtual index, 3))
    (hpre : ∀ vm₁, s.WarmedH vm₁ → Pre ⟨T.setVm vm₁, locs, cells, slots⟩ (Value.ref b :: argsL).toArray) :
    (∃ (v : Option Value) (vm₁ : Vm) (B : Pt), s.WarmedH vm₁ ∧ Stand p l e R s m args below meth c B.U B.locs B.cells B.slots ∧ Post ⟨T.setVm vm₁, locs, cells, slots⟩ (Value.ref b :: argsL).toArray v B ∧
      ∀ target, Steps p.tables e below (B.U.setTop { g with pc := g.pc + 3, stack := v.toList ++ rest }) target → Steps p.tables e below (T.setTop g) target) ∨
    (∃ (q : Addr) (vm₁ : Vm) (B : Pt), s.WarmedH vm₁ ∧ Stand p l e R s m args below meth c B.U B.locs B.cells B.slots ∧ PostX ⟨T.setVm vm₁, locs, cells, slots⟩ (Value.ref b :: argsL).toArray q B ∧
      Steps p.tables e below (T.setTop g) ((B.U.setTop { g with stack := rest }).pushFrame (.throwing q))) := by
  obtain ⟨mk, methM, hnamed, hmethM, hstM, habM⟩ := Cond.instanceMethod_spec hinst
  obtain ⟨m8, methM', cM, hn8, hmethM', -, -, -, -, -, -, hsigM⟩ := Cond.codeWith_spec hcode
  cases Option.some.inj (hn8.symm.trans hnamed)
  cases hmethM.symm.trans hmethM'
  obtain ⟨c2, r2, m2, q1, q2, q3, q4, kP, hkP, hkPi⟩ := Cond.selects_spec hsel
  cases hcls.symm.trans q1
  cases (State.methodFound?_of_named hnamed hy).symm.trans q2
  cases hnamed.symm.trans q3
  have hselP : selectMethod e.platform s.vm cellB.cls mk = .method mk := by rw [Launch.admits_selectMethod X.admits]; exact q4
  obtain ⟨vm₁, X₁, hstep₁⟩ := X.invokevirtual hexec hown hlink hnamed hmethM hstM hkP hkPi hy (a := b) (cell := cellB) hcell
    (fun z h => by rw [h] at hobj; cases hobj) hselP hmethM habM hkP hkPi (g := g) hg (argsL := argsL) (rest := rest) (hlen _ hsigM) hstack hdg
  rcases hK m meth c ⟨T.setVm vm₁, locs, cells, slots⟩ { g with stack := rest } (.invokevirtual index) mk (Value.ref b :: argsL).toArray X₁ hg hsize hdg hW (X₁.named hnamed) (hpre vm₁ X₁.warmed) with ⟨v, B, X', hpost, hsteps⟩ | ⟨q, B, X', hpost, hsteps⟩
  · exact Or.inl ⟨v, vm₁, B, X₁.warmed, X', hpost, fun target h => hstep₁ _ fun acts => by rw [doInvoke_state]; exact hsteps.trans h⟩
  · exact Or.inr ⟨q, vm₁, B, X₁.warmed, X', hpost, hstep₁ _ fun acts => by rw [doInvoke_state]; exact hsteps⟩
theorem vx_callSX (X : Stand p l e R s m args below meth c T locs cells slots) (hexec : p.tables.exec = Jvm.exec) {own : String} {index : Nat} {y : MethodName} {bytes : ByteArray} {maxL : Nat} {ret : Option FieldType} {hh : List (Nat × Nat × Nat × Nat)}
    (hown : s.vm.findClass own = some m.cls) (hlink : (Cond.methodLink own index y).before args s = true) (hstat : (Cond.static y).before args s = true) (hinit : (Cond.initialized y.cls).before args s = true)
    (hcode : (Cond.codeWith y bytes maxL ret hh).before args s = true) (hy : y.cls ≠ "java/lang/invoke/MethodHandle" ∧ y.cls ≠ "java/lang/invoke/VarHandle")
    {W9 : Nat} {Pre : Pt → Array Value → Prop} {Post : Pt → Array Value → Option Value → Pt → Prop} {PostX : Pt → Array Value → Addr → Pt → Prop} (hK : vx_Back l R p e below s args y 3 W9 Pre Post PostX)
    {g : JFrame} (hg : g.method = m) (hsize : g.locals.size = c.maxLocals) {argsL rest : List Value} (hlen : ∀ sig, parseMethodDescriptor y.desc = some sig → argsL.length = sig.parameters.length)
    (hstack : g.stack = argsL.reverse ++ rest) (hW : 2 * g.monitorRoom + (rest.map fun v => v.category).sum ≤ W9) (hdg : decode c.code g.pc = .ok (.invokestatic index, 3))
    (hpre : ∀ vm₁, s.WarmedH vm₁ → Pre ⟨T.setVm vm₁, locs, cells, slots⟩ argsL.toArray) :
    (∃ (v : Option Value) (vm₁ : Vm) (B : Pt), s.WarmedH vm₁ ∧ Stand p l e R s m args below meth c B.U B.locs B.cells B.slots ∧ Post ⟨T.setVm vm₁, locs, cells, slots⟩ argsL.toArray v B ∧
      ∀ target, Steps p.tables e below (B.U.setTop { g with pc := g.pc + 3, stack := v.toList ++ rest }) target → Steps p.tables e below (T.setTop g) target) ∨
    (∃ (q : Addr) (vm₁ : Vm) (B : Pt), s.WarmedH vm₁ ∧ Stand p l e R s m args below meth c B.U B.locs B.cells B.slots ∧ PostX ⟨T.setVm vm₁, locs, cells, slots⟩ argsL.toArray q B ∧
      Steps p.tables e below (T.setTop g) ((B.U.setTop { g with stack := rest }).pushFrame (.throwing q))) := by
  obtain ⟨mk, methM, cM, hnamed, hmethM, -, -, -, -, -, -, hsigM⟩ := Cond.codeWith_spec hcode
  have hstatic : methM.isStatic = true := Cond.static_spec hnamed hmethM hstat
  obtain ⟨kP, hkP, -⟩ := className_of_methodNamed hnamed
  have hinitP : kP.init = .initialized := Cond.initialized_spec (findClass_of_methodNamed hnamed) hkP hinit
  obtain ⟨vm₁, X₁, hstep₁⟩ := X.invokestatic hexec hown hlink hnamed hmethM hstatic hkP hinitP hy (g := g) hg (argsL := argsL) (rest := rest) (hlen _ hsigM) hstack hdg
  rcases hK m meth c ⟨T.setVm vm₁, locs, cells, slots⟩ { g with stack := rest } (.invokestatic index) mk argsL.toArray X₁ hg hsize hdg hW (X₁.named hnamed) (hpre vm₁ X₁.warmed) with ⟨v, B, X', hpost, hsteps⟩ | ⟨q, B, X', hpost, hsteps⟩
  · exact Or.inl ⟨v, vm₁, B, X₁.warmed, X', hpost, fun target h => hstep₁ _ fun acts => by rw [doInvoke_state]; exact hsteps.trans h⟩
  · exact Or.inr ⟨q, vm₁, B, X₁.warmed, X', hpost, hstep₁ _ fun acts => by rw [doInvoke_state]; exact hsteps⟩
theorem vx_callVW (X : Stand p l e R s m args below meth c T locs cells slots) (hexec : p.tables.exec = Jvm.exec) {own C : String} {index : Nat} {y : MethodName} {bytes : ByteArray} {maxL : Nat} {ret : Option FieldType} {hh : List (Nat × Nat × Nat × Nat)}
    (hown : s.vm.findClass own = some m.cls) (hlink : (Cond.methodLink own index y).before args s = true) (hinst : (Cond.instanceMethod y).before args s = true) (hsel : (Cond.selects C y y).before args s = true)
    (hcode : (Cond.codeWith y bytes maxL ret hh).before args s = true) (hy : y.cls ≠ "java/lang/invoke/MethodHandle" ∧ y.cls ≠ "java/lang/invoke/VarHandle")
    {W9 : Nat} {Pre : Pt → Array Value → Prop} {Post : Pt → Array Value → Option Value → Pt → Prop} (hK : Back l R p e below s args y 3 W9 Pre Post)
    {b : Addr} {cellB : Cell} (hcell : T.heap[b]? = some cellB) (hobj : cellB.vm.isStatics = false) (hcls : s.vm.findClass C = some cellB.cls)
    {g : JFrame} (hg : g.method = m) (hsize : g.locals.size = c.maxLocals) {argsL rest : List Value} (hlen : ∀ sig, parseMethodDescriptor y.desc = some sig → argsL.length = sig.parameters.length)
    (hstack : g.stack = argsL.reverse ++ .ref b :: rest) (hW : 2 * g.monitorRoom + (rest.map fun v => v.category).sum ≤ W9) (hdg : decode c.code g.pc = .ok (.invokevirtual index, 3))
    (hpre : ∀ vm₁, s.WarmedH vm₁ → Pre ⟨T.setVm vm₁, locs, cells, slots⟩ (Value.ref b :: argsL).toArray) :
    ∃ (v : Option Value) (vm₁ : Vm) (B : Pt), s.WarmedH vm₁ ∧ Stand p l e R s m args below meth c B.U B.locs B.cells B.slots ∧ Post ⟨T.setVm vm₁, locs, cells, slots⟩ (Value.ref b :: argsL).toArray v B ∧
      ∀ target, Steps p.tables e below (B.U.setTop { g with pc := g.pc + 3, stack := v.toList ++ rest }) target → Steps p.tables e below (T.setTop g) target := by
  obtain ⟨mk, methM, hnamed, hmethM, hstM, habM⟩ := Cond.instanceMethod_spec hinst
  obtain ⟨m8, methM', cM, hn8, hmethM', -, -, -, -, -, -, hsigM⟩ := Cond.codeWith_spec hcode
  cases Option.some.inj (hn8.symm.trans hnamed)
  cases hmethM.symm.trans hmethM'
  obtain ⟨c2, r2, m2, q1, q2, q3, q4, kP, hkP, hkPi⟩ := Cond.selects_spec hsel
  cases hcls.symm.trans q1
  cases (State.methodFound?_of_named hnamed hy).symm.trans q2
  cases hnamed.symm.trans q3
  have hselP : selectMethod e.platform s.vm cellB.cls mk = .method mk := by rw [Launch.admits_selectMethod X.admits]; exact q4
  obtain ⟨vm₁, X₁, hstep₁⟩ := X.invokevirtual hexec hown hlink hnamed hmethM hstM hkP hkPi hy (a := b) (cell := cellB) hcell
    (fun z h => by rw [h] at hobj; cases hobj) hselP hmethM habM hkP hkPi (g := g) hg (argsL := argsL) (rest := rest) (hlen _ hsigM) hstack hdg
  obtain ⟨v, B, X', hpost, hsteps⟩ := hK m meth c ⟨T.setVm vm₁, locs, cells, slots⟩ { g with stack := rest } (.invokevirtual index) mk (Value.ref b :: argsL).toArray X₁ hg hsize hdg hW (X₁.named hnamed) (hpre vm₁ X₁.warmed)
  exact ⟨v, vm₁, B, X₁.warmed, X', hpost, fun target h => hstep₁ _ fun acts => by rw [doInvoke_state]; exact hsteps.trans h⟩
abbrev vx_CVW (R : Room) (s : State) (args : Array Value) (own C : String) (index : Nat) (y : MethodName) (bytes : ByteArray) (maxL : Nat) (ret : Option FieldType) (hh : List (Nat × Nat × Nat × Nat)) (ws : List Cond) (rm : Room) (mc ms n : Nat) : Prop :=
  (rm.cells = mc ∧ rm.slots = ms ∧ rm.frames + 1 ≤ R.frames ∧ 8 + (maxL + 11) + rm.locals ≤ R.locals ∧ (∀ w ∈ ws, ∀ (a' : Array Value) (U : State), s.WarmedH U.vm → w.before a' U = true) ∧ Cond.codeWith y bytes maxL ret hh ∈ ws) ∧
  (Cond.codeWith y bytes maxL ret hh).before args s = true ∧ (Cond.initialized y.cls).before args s = true ∧ (y.cls ≠ "java/lang/invoke/MethodHandle" ∧ y.cls ≠ "java/lang/invoke/VarHandle") ∧
  (∀ sig, parseMethodDescriptor y.desc = some sig → n = sig.parameters.length) ∧ (Cond.methodLink own index y).before args s = true ∧ (Cond.instanceMethod y).before args s = true ∧ (Cond.selects C y y).before args s = true
theorem vx_cwVW {own C : String} {index maxL mc ms : Nat} {y : MethodName} {bytes : ByteArray} {ret : Option FieldType} {hh : List (Nat × Nat × Nat × Nat)} {Ts ws ws' : List Cond} {rm : Room} (n : Nat) (ht : ∀ w ∈ Ts, w.before args s = true) (hT : GoodIn Ts (wsV own index C y ws)) (hw : ws = Cond.codeWith y bytes maxL ret hh :: ws') (hrc : rm.cells = mc) (hrs : rm.slots = ms)
    (hd : y.cls = C ∧ y.cls ≠ "java/lang/invoke/MethodHandle" ∧ y.cls ≠ "java/lang/invoke/VarHandle" ∧ (parseMethodDescriptor y.desc).map (fun d => d.parameters.length) = some n) (hR : rm.frames + 1 ≤ R.frames ∧ 8 + (maxL + 11) + rm.locals ≤ R.locals) :
    vx_CVW R s args own C index y bytes maxL ret hh ws rm mc ms n := by
  obtain ⟨hC, hd⟩ := hd
  subst hC
  have ok : ∀ w ∈ wsV own index y.cls y ws, w.before args s = true := fun w h => ht w (hT w h).1
  have hG : GoodIn Ts ws := fun w h => hT w (by unfold wsV; exact List.mem_append_right _ h)
  have hc : Cond.codeWith y bytes maxL ret hh ∈ ws := by rw [hw]; exact List.mem_cons_self
  refine ⟨⟨hrc, hrs, hR.1, hR.2, pay_in ht hG, hc⟩, ht _ (hG _ hc).1, ok _ (by simp [wsV]), ⟨hd.1, hd.2.1⟩, fun sig h => ?_, ok _ (by simp [wsV]), ok _ (by simp [wsV]), ok _ (by simp [wsV])⟩
  have h2 := hd.2.2
  rw [h] at h2
  exact (Option.some.inj h2).symm
theorem vx_runVW {y : MethodName} {bytes cc : ByteArray} {maxL nL mc ms n index : Nat} {ret : Option FieldType} {hh : List (Nat × Nat × Nat × Nat)} {ws : List Cond} {rm : Room} {Pc : Array Value → State → Prop} {Qc : Array Value → State → Outcome → State → Prop} {free : Addr → Prop} {Ts : List Cond} {own C : String} {b : Addr} {As rest : List Value} {g : JFrame}
    (S : CallFix p m c cc nL s args Ts own) (hM : Met l y ws rm Pc Qc mc ms free) (cw : vx_CVW R s args own C index y bytes maxL ret hh ws rm mc ms n) (hp : PreV s H C b Pc As)
    (hg : g.method = m) (hn : As.length = n) (hsize : g.locals.size = nL) (hstack : g.stack = As.reverse ++ .ref b :: rest) (hW : 2 * g.monitorRoom + (rest.map fun v => v.category).sum ≤ 8) (hdg : decode cc g.pc = .ok (.invokevirtual index, 3)) (hf : cells + mc ≤ R.cells ∧ slots + ms ≤ R.slots) :
    va_Run p l e R s m args below meth c H locs cells slots mc ms g rest (Qc (Value.ref b :: As).toArray) free := by
  obtain ⟨⟨hrc, hrs, hfr, hlo, hws, hcw⟩, hcode, hini, hy, hlen, hl, hin, hse⟩ := cw
  have hK : Back l R p e below s args y 3 8 (PreOf R mc ms Pc) (PostOf Qc mc ms free) := va_backW (hh := hh) (bytes := bytes) (maxL := maxL) (ret := ret) hM hp.1 hrc hrs hfr hlo hws hcw (fun a' U hW => word_at hW (Or.inl (by first | rfl | simp [Cond.onTables, Cond.keeps, Cond.steady])) hini)
  obtain ⟨hx, hb, hml, ho, -⟩ := S
  obtain ⟨-, ⟨cellB, hcB, hoB, hclB⟩, hPc⟩ := hp
  intro T hT X
  obtain ⟨v, vm₁, ⟨U', l2, c2, s2⟩, hW₁, X', ⟨g', mk, t, L, e1, e2, hq, h1, hL, h2, h3⟩, st⟩ := vx_callVW X hx (C := C) (hh := hh) (bytes := bytes) (maxL := maxL) (ret := ret) ho hl hin hse hcode hy hK (by rw [hT]; exact hcB) hoB hclB hg (hsize.trans hml.symm) (argsL := As) (rest := rest) (fun sig h => hn.trans (hlen sig h)) hstack hW (by rw [hb]; exact hdg)
    (fun vm₁ hW₁ => ⟨hf.1, hf.2, hPc (T.setVm vm₁) hT hW₁⟩)
  dsimp only [Pt.U, Pt.locs, Pt.cells, Pt.slots] at X' e1 e2 h1 h2 h3 st
  subst h1; subst h2; subst h3
  exact ⟨v, (T.setVm vm₁).calling g' mk (Value.ref b :: As).toArray, t, U', L, hT, X', hL, e1, e2, hq, st⟩
section
variable {y : MethodName} {bytes cc : ByteArray} {maxL nL mc ms n index : Nat} {ret : Option FieldType} {ws : List Cond} {rm : Room} {Pc : Array Value → State → Prop} {Qc : Array Value → State → Outcome → State → Prop} {XC : String → State → State → Prop} {free : Addr → Prop} {Ts : List Cond} {own C : String} {b : Addr} {As rest : List Value} {g : JFrame}
theorem vx_runVX {hh : List (Nat × Nat × Nat × Nat)} (S : CallFix p m c cc nL s args Ts own) (hM : vx_Met l y ws rm Pc Qc XC mc ms free) (cw : vx_CVW R s args own C index y bytes maxL ret hh ws rm mc ms n) (hp : PreV s H C b Pc As)
    (hg : g.method = m) (hn : As.length = n) (hsize : g.locals.size = nL) (hstack : g.stack = As.reverse ++ .ref b :: rest) (hW : 2 * g.monitorRoom + (rest.map fun v => v.category).sum ≤ 8) (hdg : decode cc g.pc = .ok (.invokevirtual index, 3)) (hf : cells + mc ≤ R.cells ∧ slots + ms ≤ R.slots) :
    vx_Run p l e R s m args below meth c H locs cells slots mc ms g rest (Qc (Value.ref b :: As).toArray) XC free := by
  obtain ⟨⟨hrc, hrs, hfr, hlo, hws, hcw⟩, hcode, hini, hy, hlen, hl, hin, hse⟩ := cw
  have hK : vx_Back l R p e below s args y 3 8 (PreOf R mc ms Pc) (PostOf Qc mc ms free) (vx_Post XC mc ms free) := vx_backW (hh := hh) (bytes := bytes) (maxL := maxL) (ret := ret) hM hp.1 hrc hrs hfr hlo hws hcw (fun a' U hW => word_at hW (Or.inl (by first | rfl | simp [Cond.onTables, Cond.keeps, Cond.steady])) hini)
  obtain ⟨hx, hb, hml, ho, -⟩ := S
  obtain ⟨-, ⟨cellB, hcB, hoB, hclB⟩, hPc⟩ := hp
  intro T hT X
  rcases vx_callVX X hx (C := C) (hh := hh) (bytes := bytes) (maxL := maxL) (ret := ret) ho hl hin hse hcode hy hK (by rw [hT]; exact hcB) hoB hclB hg (hsize.trans hml.symm) (argsL := As) (rest := rest) (fun sig h => hn.trans (hlen sig h)) hstack hW (by rw [hb]; exact hdg)
    (fun vm₁ hW₁ => ⟨hf.1, hf.2, hPc (T.setVm vm₁) hT hW₁⟩) with ⟨v, vm₁, ⟨U', l2, c2, s2⟩, hW₁, X', ⟨g', mk, t, L, e1, e2, hq, h1, hL, h2, h3⟩, st⟩ | ⟨q, vm₁, ⟨U', l2, c2, s2⟩, hW₁, X', ⟨g', mk, t, L, E, ce, e1, e2, hq, hce, hcv, hcl, h1, hL, h2, h3⟩, st⟩
  · dsimp only [Pt.U, Pt.locs, Pt.cells, Pt.slots] at X' e1 e2 h1 h2 h3 st
    subst h1; subst h2; subst h3
    exact Or.inl ⟨v, (T.setVm vm₁).calling g' mk (Value.ref b :: As).toArray, t, U', L, hT, X', hL, e1, e2, hq, st⟩
  · dsimp only [Pt.U, Pt.locs, Pt.cells, Pt.slots] at X' e1 e2 h1 h2 h3 st hcl
    subst h1; subst h2; subst h3
    exact Or.inr ⟨q, (T.setVm vm₁).calling g' mk (Value.ref b :: As).toArray, t, U', L, E, ce, hT, X', hL, e1, e2, hq, hce, hcv, vx_cls hW₁ hcl, st⟩
theorem vx_runSX {hh : List (Nat × Nat × Nat × Nat)} (S : CallFix p m c cc nL s args Ts own) (hM : vx_Met l y ws rm Pc Qc XC mc ms free) (cw : vx_CSW R s args own index y bytes maxL ret hh ws rm mc ms n) (hp : PreS s H Pc As)
    (hg : g.method = m) (hn : As.length = n) (hsize : g.locals.size = nL) (hstack : g.stack = As.reverse ++ rest) (hW : 2 * g.monitorRoom + (rest.map fun v => v.category).sum ≤ 8) (hdg : decode cc g.pc = .ok (.invokestatic index, 3)) (hf : cells + mc ≤ R.cells ∧ slots + ms ≤ R.slots) :
    vx_Run p l e R s m args below meth c H locs cells slots mc ms g rest (Qc As.toArray) XC free := by
  obtain ⟨⟨hrc, hrs, hfr, hlo, hws, hcw⟩, hcode, hini, hy, hlen, hl, hstt⟩ := cw
  have hK : vx_Back l R p e below s args y 3 8 (PreOf R mc ms Pc) (PostOf Qc mc ms free) (vx_Post XC mc ms free) := vx_backW (hh := hh) (bytes := bytes) (maxL := maxL) (ret := ret) hM hp.1 hrc hrs hfr hlo hws hcw (fun a' U hW => word_at hW (Or.inl (by first | rfl | simp [Cond.onTables, Cond.keeps, Cond.steady])) hini)
  obtain ⟨hx, hb, hml, ho, -⟩ := S
  intro T hT X
  rcases vx_callSX X hx (hh := hh) (bytes := bytes) (maxL := maxL) (ret := ret) ho hl hstt hini hcode hy hK hg (hsize.trans hml.symm) (argsL := As) (rest := rest) (fun sig h => hn.trans (hlen sig h)) hstack hW (by rw [hb]; exact hdg)
    (fun vm₁ hW₁ => ⟨hf.1, hf.2, hp.2 (T.setVm vm₁) hT hW₁⟩) with ⟨v, vm₁, ⟨U', l2, c2, s2⟩, hW₁, X', ⟨g', mk, t, L, e1, e2, hq, h1, hL, h2, h3⟩, st⟩ | ⟨q, vm₁, ⟨U', l2, c2, s2⟩, hW₁, X', ⟨g', mk, t, L, E, ce, e1, e2, hq, hce, hcv, hcl, h1, hL, h2, h3⟩, st⟩
  · dsimp only [Pt.U, Pt.locs, Pt.cells, Pt.slots] at X' e1 e2 h1 h2 h3 st
    subst h1; subst h2; subst h3
    exact Or.inl ⟨v, (T.setVm vm₁).calling g' mk As.toArray, t, U', L, hT, X', hL, e1, e2, hq, st⟩
  · dsimp only [Pt.U, Pt.locs, Pt.cells, Pt.slots] at X' e1 e2 h1 h2 h3 st hcl
    subst h1; subst h2; subst h3
    exact Or.inr ⟨q, (T.setVm vm₁).calling g' mk As.toArray, t, U', L, E, ce, hT, X', hL, e1, e2, hq, hce, hcv, vx_cls hW₁ hcl, st⟩
end
end VXH
theorem vx_ofWH {l : Launch} {y : MethodName} {ws ws' : List Cond} {rm : Room} {Pc : Array Value → State → Prop} {Qc : Array Value → State → Outcome → State → Prop} {XC : String → State → State → Prop} {mc ms : Nat} {free : Addr → Prop} {cc : ByteArray} {maxL : Nat} {ret : Option FieldType} {hh : List (Nat × Nat × Nat × Nat)}
    (hy : plainName y.cls = true) (hw : ws = Cond.codeWith y cc maxL ret hh :: ws')
    (body : ∀ p e s m args below meth c s₁, BodyLoose p l y (headSpec ws rm) cc maxL ret e s m args below meth c s₁ → c.maxLocals = maxL → Pc args s →
      W p l e (headSpec ws rm).room s m args below meth c s.heap [] 0 0 (vx_MQ below Qc XC args s mc ms free) (entryFrame m args maxL)) : vx_Met l y ws rm Pc Qc XC mc ms free := by
  refine MetFree.of_bodyS (code := cc) (maxLocals := maxL) (ret := ret) hy ?_ ?_
  · intro args s m h hn
    obtain ⟨m9, meth, c, hn9, h1, h2, h3, h4, -, h5, h6, -⟩ := Cond.codeWith_spec (atoms_spec (ws := ws) h _ (by rw [hw]; exact List.mem_cons_self))
    cases hn.symm.trans hn9
    exact ⟨meth, c, h1, h2, h3, h4, h5, h6⟩
  · intro p e s m args below meth c s₁ B hml hP _
    have hh0 : s₁.heap = s.heap := by rw [B.state]; rfl
    obtain ⟨t, a1, o, b1, b2, b3⟩ := body p e s m args below meth c s₁ B hml hP s₁ hh0 (Stand.of_body B)
    exact ⟨t, o, a1, b1, b2, b3⟩
/-! ===== END ===== -/
end
section
/-! A callee's throw, caught by the first row of the caller's table, the row's catch type resolved already or not: one step of the machine, by where its own procedure ends. -/
section
variable {e : Env} {S S9 : State} {g : JFrame} {q : Addr}
theorem sx_do {α : Type} {acts acts9 : List Action} {w : Sem α} {kk : α → State → List Action → Out} {v : α}
    (h : wp w (fun v' _ as z => v' = v ∧ z = S9 ∧ as = acts9) (fun _ _ _ => False) e false (unmarked acts) S) : ∃ as, vmDo e S acts w kk = kk v S9 as := by
  obtain ⟨as, h1, -⟩ := Sem.go_eq_ok h
  exact ⟨as, by unfold vmDo; rw [h1]⟩
theorem sx_search {meth : Method} {c : Code} {x : ExceptionTableEntry} {suf : List ExceptionTableEntry} {k : ClassId} {ce : Cell} {Q : Handler → Pre} {E : CtlPost} {d : Bool} {acts : List Action}
    (hm : S.vm.method? g.method = some meth) (hc : meth.code = some c) (htab : c.exceptionTable.toList = x :: suf) (hcov : covers x g.pc = true) (hty : x.catchType ≠ 0)
    (hans : (VmOp.resolveClass g.method.cls x.catchType).answer e S.vm = .ok k) (hland : (VmOp.resolveClass g.method.cls x.catchType).lands e S = .done S9)
    (hcell : S9.heap[q]? = some ce) (hnone : ce.vm = .none) (hc1 : ∃ y, S9.vm.classes[ce.cls]? = some y) (hc2 : ∃ y, S9.vm.classes[k]? = some y) (hfit : S9.vm.assignable ce.cls k = true)
    (hQ : Q (.found x.handlerPc) d acts S9) : wp (findHandler g q) Q E e d acts S := by
  have hne : ¬ ((x.catchType == 0) = true) := fun h => hty (eq_of_beq h)
  refine (Jvm.W.findHandler_eq hm hc).mpr ?_
  rw [htab, findHandler.go, if_pos hcov, if_neg hne, wp_bind']
  refine ⟨S9, hland, ?_⟩
  rw [hans]
  show wp (Jvm.isInstance q k >>= _) Q E e d acts S9
  rw [wp_bind']
  refine (Jvm.W.isInstance q k).mpr ⟨ce, hcell, fun y hy => ?_, hc1, hc2, ?_⟩
  · rw [hnone] at hy
    cases hy
  · rw [hfit]
    exact hQ
theorem sx_step {tb : Tables} {r : List Frame} {pc : Nat} (hf : S.frames = .throwing q :: .java g :: r) (hw : ∀ (Q : Handler → Pre) (E : CtlPost), Q (.found pc) false [] S9 → wp (findHandler g q) Q E e false [] S) :
    (stepThread tb e S).1 = S9.setFrames (.java { g with pc := pc, stack := [.ref q] } :: r) := by
  have h1 : ∃ as, searchFrame e S [] q g g r = (S9.setFrames (.java { g with pc := pc, stack := [.ref q] } :: r), as) := by
    unfold searchFrame
    refine sx_do (v := Handler.found pc) (S9 := S9) (acts9 := []) ?_
    rw [wp_bind']
    refine hw _ _ ?_
    exact (⟨rfl, rfl, rfl⟩ : Handler.found pc = Handler.found pc ∧ S9 = S9 ∧ ([] : List Action) = [])
  obtain ⟨as, h2⟩ := h1
  rw [stepThread_throwing hf]
  exact congrArg Prod.fst h2
end
theorem sx_catch {p : Program} {l : Launch} {e : Env} {R : Room} {s : State} {m : MethodId} {args : Array Value} {below : List Frame} {meth : Method} {c : Code} {H : Heap} {locs : List Loc} {cells slots : Nat} {Q : State → Prop} {pc : Nat} {ls : Array Slot} {rest : List Value}
    {own name : String} {E : String} {ce : Cell} {q : Addr} (hown : s.vm.findClass own = some m.cls) (x : ExceptionTableEntry) (suf : List ExceptionTableEntry) (hsplit : c.exceptionTable.toList = x :: suf)
    (hx : covers x pc = true) (h0 : x.catchType ≠ 0)
    (hlink : (Cond.classLink own x.catchType name).before args s = true) (hcast : (Cond.castable E name).before args s = true) (hcell : H[q]? = some ce) (hv : ce.vm = .none) (hcl : s.vm.findClass E = some ce.cls)
    (kk : W p l e R s m args below meth c H locs cells slots Q (F0 m x.handlerPc ls [.ref q])) : vx_W p l e R s m args below meth c H locs cells slots Q (F0 m pc ls rest) q := by
  intro T hT X
  obtain ⟨k, hk, hlk⟩ := Cond.classLink_spec hown hlink e.platform (by rw [X.admits.platform])
  have hfit : s.vm.assignable ce.cls k = true := by
    obtain ⟨z1, z2, hz1, hz2, hz⟩ := Cond.castable_spec hcast
    rw [Option.some.inj (hcl.symm.trans hz1), Option.some.inj (hk.symm.trans hz2)]
    exact hz
  have hw9 : s.WarmedH (T.vm.noted m.cls x.catchType (.cls k)) := by
    obtain ⟨_, _, _, _, hd, _, _, _, _, _, _, hj⟩ := hlk.here
    exact X.warmed.noted hd hj (State.rightAt_cls hlk)
  have hres := (resolveClass_links e.toSetting (X.warmed.classLinks hlk)).op (op := VmOp.resolveClass m.cls x.catchType) rfl
  have hrec : ∀ {n9 : String} {z : ClassId}, s.vm.findClass n9 = some z → ∃ y, (T.vm.noted m.cls x.catchType (.cls k)).classes[z]? = some y := fun h => by
    rw [← hw9.alike.findClass] at h
    exact Vm.classAt_of_findClass h
  have htb : (VmOp.resolveClass m.cls x.catchType).tables e ((T.setTop (F0 m pc ls rest)).pushFrame (.throwing q)).vm = (T.vm.noted m.cls x.catchType (.cls k)) := hres.2
  have hld : (VmOp.resolveClass m.cls x.catchType).lands e ((T.setTop (F0 m pc ls rest)).pushFrame (.throwing q)) = .done (((T.setTop (F0 m pc ls rest)).pushFrame (.throwing q)).setVm (T.vm.noted m.cls x.catchType (.cls k))) := by
    have h := VmOp.lands_same (op := (VmOp.resolveClass m.cls x.catchType)) (e := e) (s := ((T.setTop (F0 m pc ls rest)).pushFrame (.throwing q))) (by rw [htb]; exact Nat.le_of_eq (Vm.size_noted ..))
    rw [htb] at h
    exact h
  have hst : (stepThread p.tables e ((T.setTop (F0 m pc ls rest)).pushFrame (.throwing q))).1 = (((T.setTop (F0 m pc ls rest)).pushFrame (.throwing q)).setVm (T.vm.noted m.cls x.catchType (.cls k))).setFrames (.java (F0 m x.handlerPc ls [.ref q]) :: T.frames.tail) :=
    sx_step (g := (F0 m pc ls rest)) (pc := x.handlerPc) (frames_entered X.here.top _) (fun Q9 E9 h9 => sx_search (g := (F0 m pc ls rest)) (ce := ce) (k := k) X.method' X.code hsplit hx h0 hres.1 hld (by show T.heap[q]? = some ce; rw [hT]; exact hcell) hv (hrec hcl) (hrec hk)
      (by show (T.vm.noted m.cls x.catchType (.cls k)).assignable ce.cls k = true; rw [hw9.alike.assignable]; exact hfit) h9)
  have htop : (T.setFrames (.java (F0 m x.handlerPc ls [.ref q]) :: T.frames.tail)).setVm (T.vm.noted m.cls x.catchType (.cls k)) = (T.setVm (T.vm.noted m.cls x.catchType (.cls k))).setTop (F0 m x.handlerPc ls [.ref q]) := by
    obtain ⟨f9, hf9⟩ := Option.isSome_iff_exists.mp X.here.top
    obtain ⟨r9, hr9⟩ := State.topJava?_eq_some.mp hf9
    rw [State.setTop_of_frames (s := T.setVm (T.vm.noted m.cls x.catchType (.cls k))) _ hr9, hr9]
    rfl
  have hfr : (((T.setTop (F0 m pc ls rest)).pushFrame (.throwing q)).setVm (T.vm.noted m.cls x.catchType (.cls k))).setFrames (.java (F0 m x.handlerPc ls [.ref q]) :: T.frames.tail) = (T.setVm (T.vm.noted m.cls x.catchType (.cls k))).setTop (F0 m x.handlerPc ls [.ref q]) := by
    rw [← htop, ← State.setFrames_setTop X.here.top (F0 m pc ls rest), ← State.setFrames_pushFrame (T.setTop (F0 m pc ls rest)) _ (.throwing q)]
    rfl
  obtain ⟨t, ht, hQ⟩ := kk (T.setVm (T.vm.noted m.cls x.catchType (.cls k))) hT (X.noted hw9)
  obtain ⟨hgo, hin⟩ := X.here.throwing (g := (F0 m pc ls rest)) q
  refine ⟨t, Steps.head hgo hin ?_, hQ⟩
  rw [hst, hfr]
  exact ht
end
section
/-! ===== BEGIN printed: names, fields, word lists, decode rows ===== -/
def RX0 : String := "SegmentBox"
def TX0 : u_T := fun k => match k with
  | 0 => ("SegmentBox", "bytes", "[B", true)
  | 1 => ("SegmentBox", "heldBits", "J", false)
  | 2 => ("SegmentBox", "next", "I", false)
  | 3 => ("SegmentBox", "unread", "I", false)
  | 4 => ("SegmentBox", "endKnown", "Z", false)
  | _ => ("SegmentBox", "endNumber", "I", false)
def tyX0 : Nat → FieldType := fun k => match k with
  | 0 => .array .byte
  | 1 => .long
  | 2 => .int
  | 3 => .int
  | 4 => .boolean
  | _ => .int
abbrev wsX00 : List Cond := u_ws RX0 TX0 6
theorem nmX0 : ∀ a, a < 6 → ∀ b, b < 6 → a ≠ b → (TX0 a).2.1 ≠ (TX0 b).2.1 := by decide +kernel
theorem tyX0_ok : ∀ k, k < 6 → parseFieldDescriptor (TX0 k).2.2.1 = some (tyX0 k) := by decide +kernel
abbrev cX0_init : ByteArray := prog_1_method_1_code
def yX0_init : MethodName := ⟨RX0, "<init>", "()V"⟩
abbrev cX0_open : ByteArray := prog_1_method_2_code
def yX0_open : MethodName := ⟨RX0, "open", "(I)V"⟩
abbrev cX0_segment : ByteArray := prog_1_method_3_code
def yX0_segment : MethodName := ⟨RX0, "segment", "(IJI)I"⟩
abbrev cX0_end : ByteArray := prog_1_method_4_code
def yX0_end : MethodName := ⟨RX0, "end", "(I)Z"⟩
abbrev cX0_read : ByteArray := prog_1_method_5_code
def yX0_read : MethodName := ⟨RX0, "read", "()I"⟩
abbrev cX0_told : ByteArray := prog_1_method_6_code
def yX0_told : MethodName := ⟨RX0, "told", "(I)I"⟩
abbrev cX0_block : ByteArray := prog_1_method_7_code
def yX0_block : MethodName := ⟨RX0, "block", "(IZ)I"⟩
abbrev cX0_held : ByteArray := prog_1_method_8_code
def yX0_held : MethodName := ⟨RX0, "held", "(I)Z"⟩
abbrev cX0_window : ByteArray := prog_1_method_9_code
def yX0_window : MethodName := ⟨RX0, "window", "()I"⟩
abbrev cX0_slotOf : ByteArray := prog_1_method_10_code
def yX0_slotOf : MethodName := ⟨RX0, "slotOf", "(I)I"⟩
abbrev cX0_takeByte : ByteArray := prog_1_method_11_code
def yX0_takeByte : MethodName := ⟨RX0, "takeByte", "(IB)V"⟩
abbrev cX0_isBeforeEnd : ByteArray := prog_1_method_12_code
def yX0_isBeforeEnd : MethodName := ⟨RX0, "isBeforeEnd", "(I)Z"⟩
abbrev cX0_moveOn : ByteArray := prog_1_method_13_code
def yX0_moveOn : MethodName := ⟨RX0, "moveOn", "()I"⟩
abbrev cX0_isHeldAhead : ByteArray := prog_1_method_14_code
def yX0_isHeldAhead : MethodName := ⟨RX0, "isHeldAhead", "(I)Z"⟩
abbrev cX0_isHeldFrom : ByteArray := prog_1_method_15_code
def yX0_isHeldFrom : MethodName := ⟨RX0, "isHeldFrom", "(I)Z"⟩
abbrev cX0_blockStarts : ByteArray := prog_1_method_16_code
def yX0_blockStarts : MethodName := ⟨RX0, "blockStarts", "()J"⟩
abbrev cX0_startOfBlock : ByteArray := prog_1_method_17_code
def yX0_startOfBlock : MethodName := ⟨RX0, "startOfBlock", "(I)I"⟩
abbrev cX0_lengthOfBlock : ByteArray := prog_1_method_18_code
def yX0_lengthOfBlock : MethodName := ⟨RX0, "lengthOfBlock", "(I)I"⟩
def RX1 : String := "SegmentBoxModel"
def TX1 : u_T := fun k => match k with
  | 0 => ("SegmentBoxModel", "unread", "[I", true)
  | 1 => ("SegmentBoxModel", "byteAt", "[I", true)
  | 2 => ("SegmentBoxModel", "isHeld", "[Z", true)
  | 3 => ("SegmentBoxModel", "next", "I", false)
  | 4 => ("SegmentBoxModel", "many", "I", false)
  | 5 => ("SegmentBoxModel", "end", "I", false)
  | 6 => ("SegmentBoxModel", "thrown", "I", false)
  | _ => ("SegmentBoxModel", "hasEnd", "Z", false)
def tyX1 : Nat → FieldType := fun k => match k with
  | 0 => .array .int
  | 1 => .array .int
  | 2 => .array .boolean
  | 3 => .int
  | 4 => .int
  | 5 => .int
  | 6 => .int
  | _ => .boolean
abbrev wsX10 : List Cond := u_ws RX1 TX1 8
theorem nmX1 : ∀ a, a < 8 → ∀ b, b < 8 → a ≠ b → (TX1 a).2.1 ≠ (TX1 b).2.1 := by decide +kernel
theorem tyX1_ok : ∀ k, k < 8 → parseFieldDescriptor (TX1 k).2.2.1 = some (tyX1 k) := by decide +kernel
abbrev cX1_init : ByteArray := prog_3_method_1_code
def yX1_init : MethodName := ⟨RX1, "<init>", "()V"⟩
abbrev cX1_thrown : ByteArray := prog_3_method_2_code
def yX1_thrown : MethodName := ⟨RX1, "thrown", "()I"⟩
abbrev cX1_open : ByteArray := prog_3_method_3_code
def yX1_open : MethodName := ⟨RX1, "open", "(I)V"⟩
def RJ13 : String := "java/lang/Long"
def TJ13 : u_T := fun k => match k with
  | _ => ("", "", "", false)
def tyJ13 : Nat → FieldType := fun k => match k with
  | _ => .int
abbrev wsJ130 : List Cond := u_ws RJ13 TJ13 0
theorem nmJ13 : ∀ a, a < 0 → ∀ b, b < 0 → a ≠ b → (TJ13 a).2.1 ≠ (TJ13 b).2.1 := by decide +kernel
theorem tyJ13_ok : ∀ k, k < 0 → parseFieldDescriptor (TJ13 k).2.2.1 = some (tyJ13 k) := by decide +kernel
abbrev cJ13_bitCount_95d88 : ByteArray := prog_7_method_50_code
def yJ13_bitCount_95d88 : MethodName := ⟨RJ13, "bitCount", "(J)I"⟩
def RL : String := "SegmentBoxLaw"
abbrev cL_segment : ByteArray := method_3_code
def yL_segment : MethodName := ⟨RL, "segment", "(LSegmentBox;IJI[J)I"⟩
abbrev cL_told : ByteArray := method_4_code
def yL_told : MethodName := ⟨RL, "told", "(LSegmentBox;I[J)I"⟩
abbrev cL_block : ByteArray := method_5_code
def yL_block : MethodName := ⟨RL, "block", "(LSegmentBox;IZ[J)I"⟩
abbrev cL_law : ByteArray := code
def yL_law : MethodName := ⟨RL, "law", "([I)Z"⟩
def wsX0_init : List Cond := .code yX0_init cX0_init 1 none :: ([.methodLink RX0 1 objectInit, .instanceMethod objectInit, .code objectInit ⟨#[0xb1]⟩ 1 none, .arrayClass .byte, .fieldLink RX0 9 "SegmentBox" "bytes" "[B", .fieldLink RX0 13 "SegmentBox" "heldBits" "J", .fieldLink RX0 17 "SegmentBox" "next" "I", .fieldLink RX0 21 "SegmentBox" "unread" "I", .fieldLink RX0 24 "SegmentBox" "endKnown" "Z", .fieldLink RX0 28 "SegmentBox" "endNumber" "I"] ++ wsX00)
def wsX0_open : List Cond := .code yX0_open cX0_open 2 none :: ([.fieldLink RX0 13 "SegmentBox" "heldBits" "J", .fieldLink RX0 17 "SegmentBox" "next" "I", .fieldLink RX0 21 "SegmentBox" "unread" "I", .fieldLink RX0 24 "SegmentBox" "endKnown" "Z", .fieldLink RX0 28 "SegmentBox" "endNumber" "I"] ++ wsX00)
def wsX0_window : List Cond := .code yX0_window cX0_window 1 (some .int) :: ([.fieldLink RX0 21 "SegmentBox" "unread" "I"] ++ wsX00)
def wsX0_isHeldAhead : List Cond := .code yX0_isHeldAhead cX0_isHeldAhead 2 (some .boolean) :: ([.fieldLink RX0 13 "SegmentBox" "heldBits" "J"] ++ wsX00)
def wsX0_isBeforeEnd : List Cond := .code yX0_isBeforeEnd cX0_isBeforeEnd 2 (some .boolean) :: ([.fieldLink RX0 24 "SegmentBox" "endKnown" "Z", .fieldLink RX0 28 "SegmentBox" "endNumber" "I", .fieldLink RX0 17 "SegmentBox" "next" "I"] ++ wsX00)
def wsX0_slotOf : List Cond := .code yX0_slotOf cX0_slotOf 1 (some .int) :: ([])
def wsX0_takeByte : List Cond := .code yX0_takeByte cX0_takeByte 4 none :: ([.fieldLink RX0 17 "SegmentBox" "next" "I", .fieldLink RX0 9 "SegmentBox" "bytes" "[B", .fieldLink RX0 13 "SegmentBox" "heldBits" "J", .methodLink RX0 42 yX0_window, .instanceMethod yX0_window, .selects RX0 yX0_window yX0_window, .initialized RX0, .code yX0_window cX0_window 1 (some .int), .fieldLink RX0 21 "SegmentBox" "unread" "I", .methodLink RX0 72 yX0_isHeldAhead, .instanceMethod yX0_isHeldAhead, .selects RX0 yX0_isHeldAhead yX0_isHeldAhead, .code yX0_isHeldAhead cX0_isHeldAhead 2 (some .boolean), .methodLink RX0 75 yX0_isBeforeEnd, .instanceMethod yX0_isBeforeEnd, .selects RX0 yX0_isBeforeEnd yX0_isBeforeEnd, .code yX0_isBeforeEnd cX0_isBeforeEnd 2 (some .boolean), .fieldLink RX0 24 "SegmentBox" "endKnown" "Z", .fieldLink RX0 28 "SegmentBox" "endNumber" "I", .methodLink RX0 49 yX0_slotOf, .static yX0_slotOf, .code yX0_slotOf cX0_slotOf 1 (some .int)] ++ wsX00)
def wsX0_moveOn : List Cond := .code yX0_moveOn cX0_moveOn 2 (some .int) :: ([.fieldLink RX0 13 "SegmentBox" "heldBits" "J", .fieldLink RX0 17 "SegmentBox" "next" "I", .fieldLink RX0 21 "SegmentBox" "unread" "I"] ++ wsX00)
def wsX0_segment_r1 : List Cond := [Cond.classLink RX0 31 "java/lang/IllegalArgumentException", Cond.initialized "java/lang/IllegalArgumentException", Cond.methodLink RX0 34 yX0_takeByte, Cond.instanceMethod yX0_takeByte, Cond.selects RX0 yX0_takeByte yX0_takeByte, Cond.initialized RX0, Cond.code yX0_takeByte cX0_takeByte 4 none, Cond.fieldLink RX0 17 "SegmentBox" "next" "I", Cond.fieldLink RX0 9 "SegmentBox" "bytes" "[B", Cond.fieldLink RX0 13 "SegmentBox" "heldBits" "J", Cond.methodLink RX0 42 yX0_window, Cond.instanceMethod yX0_window, Cond.selects RX0 yX0_window yX0_window, Cond.code yX0_window cX0_window 1 (some .int), Cond.fieldLink RX0 21 "SegmentBox" "unread" "I", Cond.methodLink RX0 72 yX0_isHeldAhead, Cond.instanceMethod yX0_isHeldAhead, Cond.selects RX0 yX0_isHeldAhead yX0_isHeldAhead, Cond.code yX0_isHeldAhead cX0_isHeldAhead 2 (some .boolean), Cond.methodLink RX0 75 yX0_isBeforeEnd, Cond.instanceMethod yX0_isBeforeEnd, Cond.selects RX0 yX0_isBeforeEnd yX0_isBeforeEnd, Cond.code yX0_isBeforeEnd cX0_isBeforeEnd 2 (some .boolean), Cond.fieldLink RX0 24 "SegmentBox" "endKnown" "Z"]
def wsX0_segment_r2 : List Cond := [Cond.fieldLink RX0 28 "SegmentBox" "endNumber" "I", Cond.methodLink RX0 49 yX0_slotOf, Cond.static yX0_slotOf, Cond.code yX0_slotOf cX0_slotOf 1 (some .int), Cond.methodLink RX0 38 yX0_moveOn, Cond.instanceMethod yX0_moveOn, Cond.selects RX0 yX0_moveOn yX0_moveOn, Cond.code yX0_moveOn cX0_moveOn 2 (some .int)]
def wsX0_segment : List Cond := .code yX0_segment cX0_segment 6 (some .int) :: ((wsX0_segment_r1 ++ wsX0_segment_r2) ++ wsX00 ++ (vx_at0 RX0 33 "java/lang/IllegalArgumentException" ["java/lang/RuntimeException", "java/lang/Exception"]).filter goodWord)
def wsX0_isHeldFrom : List Cond := .code yX0_isHeldFrom cX0_isHeldFrom 2 (some .boolean) :: ([.fieldLink RX0 13 "SegmentBox" "heldBits" "J"] ++ wsX00)
def wsX0_end : List Cond := .code yX0_end cX0_end 3 (some .boolean) :: ([.fieldLink RX0 17 "SegmentBox" "next" "I", .fieldLink RX0 24 "SegmentBox" "endKnown" "Z", .fieldLink RX0 28 "SegmentBox" "endNumber" "I", .methodLink RX0 42 yX0_window, .instanceMethod yX0_window, .selects RX0 yX0_window yX0_window, .initialized RX0, .code yX0_window cX0_window 1 (some .int), .fieldLink RX0 21 "SegmentBox" "unread" "I", .methodLink RX0 45 yX0_isHeldFrom, .instanceMethod yX0_isHeldFrom, .selects RX0 yX0_isHeldFrom yX0_isHeldFrom, .code yX0_isHeldFrom cX0_isHeldFrom 2 (some .boolean), .fieldLink RX0 13 "SegmentBox" "heldBits" "J"] ++ wsX00)
def wsX0_read : List Cond := .code yX0_read cX0_read 2 (some .int) :: ([.fieldLink RX0 21 "SegmentBox" "unread" "I", .fieldLink RX0 24 "SegmentBox" "endKnown" "Z", .fieldLink RX0 17 "SegmentBox" "next" "I", .fieldLink RX0 28 "SegmentBox" "endNumber" "I", .fieldLink RX0 9 "SegmentBox" "bytes" "[B", .methodLink RX0 49 yX0_slotOf, .static yX0_slotOf, .initialized RX0, .code yX0_slotOf cX0_slotOf 1 (some .int)] ++ wsX00)
def wsJ13_bitCount_95d88 : List Cond := .code yJ13_bitCount_95d88 cJ13_bitCount_95d88 2 (some .int) :: ([.constantLong RJ13 314 (6148914691236517205), .constantLong RJ13 316 (3689348814741910323), .constantLong RJ13 318 (1085102592571150095)])
def wsX0_blockStarts : List Cond := .code yX0_blockStarts cX0_blockStarts 1 (some .long) :: ([.fieldLink RX0 13 "SegmentBox" "heldBits" "J", .constantLong RX0 78 (-1)] ++ wsX00)
def wsX0_told : List Cond := .code yX0_told cX0_told 2 (some .int) :: ([.classLink RX0 31 "java/lang/IllegalArgumentException", .initialized "java/lang/IllegalArgumentException", .fieldLink RX0 17 "SegmentBox" "next" "I", .fieldLink RX0 21 "SegmentBox" "unread" "I", .fieldLink RX0 13 "SegmentBox" "heldBits" "J", .fieldLink RX0 24 "SegmentBox" "endKnown" "Z", .methodLink RX0 42 yX0_window, .instanceMethod yX0_window, .selects RX0 yX0_window yX0_window, .initialized RX0, .code yX0_window cX0_window 1 (some .int), .methodLink RX0 53 yJ13_bitCount_95d88, .static yJ13_bitCount_95d88, .initialized RJ13, .code yJ13_bitCount_95d88 cJ13_bitCount_95d88 2 (some .int), .constantLong RJ13 314 (6148914691236517205), .constantLong RJ13 316 (3689348814741910323), .constantLong RJ13 318 (1085102592571150095), .methodLink RX0 59 yX0_blockStarts, .instanceMethod yX0_blockStarts, .selects RX0 yX0_blockStarts yX0_blockStarts, .code yX0_blockStarts cX0_blockStarts 1 (some .long), .constantLong RX0 78 (-1)] ++ wsX00 ++ (vx_at0 RX0 33 "java/lang/IllegalArgumentException" ["java/lang/RuntimeException", "java/lang/Exception"]).filter goodWord)
def wsX0_startOfBlock : List Cond := .code yX0_startOfBlock cX0_startOfBlock 6 (some .int) :: ([.methodLink RX0 59 yX0_blockStarts, .instanceMethod yX0_blockStarts, .selects RX0 yX0_blockStarts yX0_blockStarts, .initialized RX0, .code yX0_blockStarts cX0_blockStarts 1 (some .long), .fieldLink RX0 13 "SegmentBox" "heldBits" "J", .constantLong RX0 78 (-1)] ++ wsX00)
def wsX0_lengthOfBlock : List Cond := .code yX0_lengthOfBlock cX0_lengthOfBlock 3 (some .int) :: ([.methodLink RX0 72 yX0_isHeldAhead, .instanceMethod yX0_isHeldAhead, .selects RX0 yX0_isHeldAhead yX0_isHeldAhead, .initialized RX0, .code yX0_isHeldAhead cX0_isHeldAhead 2 (some .boolean), .fieldLink RX0 13 "SegmentBox" "heldBits" "J"] ++ wsX00)
def wsX0_block_r1 : List Cond := [Cond.classLink RX0 63 "java/lang/IndexOutOfBoundsException", Cond.initialized "java/lang/IndexOutOfBoundsException", Cond.fieldLink RX0 17 "SegmentBox" "next" "I", Cond.methodLink RX0 59 yX0_blockStarts, Cond.instanceMethod yX0_blockStarts, Cond.selects RX0 yX0_blockStarts yX0_blockStarts, Cond.initialized RX0, Cond.code yX0_blockStarts cX0_blockStarts 1 (some .long), Cond.fieldLink RX0 13 "SegmentBox" "heldBits" "J", Cond.constantLong RX0 78 (-1), Cond.methodLink RX0 53 yJ13_bitCount_95d88, Cond.static yJ13_bitCount_95d88, Cond.initialized RJ13, Cond.code yJ13_bitCount_95d88 cJ13_bitCount_95d88 2 (some .int), Cond.constantLong RJ13 314 (6148914691236517205), Cond.constantLong RJ13 316 (3689348814741910323), Cond.constantLong RJ13 318 (1085102592571150095), Cond.methodLink RX0 66 yX0_startOfBlock, Cond.instanceMethod yX0_startOfBlock, Cond.selects RX0 yX0_startOfBlock yX0_startOfBlock, Cond.code yX0_startOfBlock cX0_startOfBlock 6 (some .int), Cond.methodLink RX0 69 yX0_lengthOfBlock, Cond.instanceMethod yX0_lengthOfBlock, Cond.selects RX0 yX0_lengthOfBlock yX0_lengthOfBlock]
def wsX0_block_r2 : List Cond := [Cond.code yX0_lengthOfBlock cX0_lengthOfBlock 3 (some .int), Cond.methodLink RX0 72 yX0_isHeldAhead, Cond.instanceMethod yX0_isHeldAhead, Cond.selects RX0 yX0_isHeldAhead yX0_isHeldAhead, Cond.code yX0_isHeldAhead cX0_isHeldAhead 2 (some .boolean)]
def wsX0_block : List Cond := .code yX0_block cX0_block 4 (some .int) :: ((wsX0_block_r1 ++ wsX0_block_r2) ++ wsX00 ++ (vx_at0 RX0 65 "java/lang/IndexOutOfBoundsException" ["java/lang/RuntimeException", "java/lang/Exception"]).filter goodWord)
def wsX0_held : List Cond := .code yX0_held cX0_held 2 (some .boolean) :: ([.fieldLink RX0 17 "SegmentBox" "next" "I", .methodLink RX0 72 yX0_isHeldAhead, .instanceMethod yX0_isHeldAhead, .selects RX0 yX0_isHeldAhead yX0_isHeldAhead, .initialized RX0, .code yX0_isHeldAhead cX0_isHeldAhead 2 (some .boolean), .fieldLink RX0 13 "SegmentBox" "heldBits" "J"] ++ wsX00)
def wsX1_init : List Cond := .code yX1_init cX1_init 1 none :: ([.methodLink RX1 1 objectInit, .instanceMethod objectInit, .code objectInit ⟨#[0xb1]⟩ 1 none, .arrayClass .int, .fieldLink RX1 9 "SegmentBoxModel" "unread" "[I", .fieldLink RX1 13 "SegmentBoxModel" "byteAt" "[I", .arrayClass .boolean, .fieldLink RX1 16 "SegmentBoxModel" "isHeld" "[Z"] ++ wsX10)
def wsX1_thrown : List Cond := .code yX1_thrown cX1_thrown 1 (some .int) :: ([.fieldLink RX1 20 "SegmentBoxModel" "thrown" "I"] ++ wsX10)
def wsX1_open : List Cond := .code yX1_open cX1_open 3 none :: ([.fieldLink RX1 20 "SegmentBoxModel" "thrown" "I", .fieldLink RX1 24 "SegmentBoxModel" "next" "I", .fieldLink RX1 27 "SegmentBoxModel" "many" "I", .fieldLink RX1 30 "SegmentBoxModel" "hasEnd" "Z", .fieldLink RX1 16 "SegmentBoxModel" "isHeld" "[Z"] ++ wsX10)
def wsL_segment_r1 : List Cond := [Cond.classLink RL 13 "java/lang/IllegalArgumentException", Cond.methodLink RL 7 yX0_segment, Cond.instanceMethod yX0_segment, Cond.selects RX0 yX0_segment yX0_segment, Cond.initialized RX0, Cond.code yX0_segment cX0_segment 6 (some .int), Cond.classLink RX0 31 "java/lang/IllegalArgumentException", Cond.initialized "java/lang/IllegalArgumentException", Cond.methodLink RX0 34 yX0_takeByte, Cond.instanceMethod yX0_takeByte, Cond.selects RX0 yX0_takeByte yX0_takeByte, Cond.code yX0_takeByte cX0_takeByte 4 none, Cond.fieldLink RX0 17 "SegmentBox" "next" "I", Cond.fieldLink RX0 9 "SegmentBox" "bytes" "[B", Cond.fieldLink RX0 13 "SegmentBox" "heldBits" "J", Cond.methodLink RX0 42 yX0_window, Cond.instanceMethod yX0_window, Cond.selects RX0 yX0_window yX0_window, Cond.code yX0_window cX0_window 1 (some .int), Cond.fieldLink RX0 21 "SegmentBox" "unread" "I", Cond.methodLink RX0 72 yX0_isHeldAhead, Cond.instanceMethod yX0_isHeldAhead, Cond.selects RX0 yX0_isHeldAhead yX0_isHeldAhead, Cond.code yX0_isHeldAhead cX0_isHeldAhead 2 (some .boolean)]
def wsL_segment_r2 : List Cond := [Cond.methodLink RX0 75 yX0_isBeforeEnd, Cond.instanceMethod yX0_isBeforeEnd, Cond.selects RX0 yX0_isBeforeEnd yX0_isBeforeEnd, Cond.code yX0_isBeforeEnd cX0_isBeforeEnd 2 (some .boolean), Cond.fieldLink RX0 24 "SegmentBox" "endKnown" "Z", Cond.fieldLink RX0 28 "SegmentBox" "endNumber" "I", Cond.methodLink RX0 49 yX0_slotOf, Cond.static yX0_slotOf, Cond.code yX0_slotOf cX0_slotOf 1 (some .int), Cond.methodLink RX0 38 yX0_moveOn, Cond.instanceMethod yX0_moveOn, Cond.selects RX0 yX0_moveOn yX0_moveOn, Cond.code yX0_moveOn cX0_moveOn 2 (some .int)]
def wsL_segment : List Cond := .codeWith yL_segment cL_segment 7 (some .int) [(0, 13, 16, 13)] :: ((wsL_segment_r1 ++ wsL_segment_r2) ++ wsX00 ++ (vx_at0 RX0 33 "java/lang/IllegalArgumentException" ["java/lang/RuntimeException", "java/lang/Exception"]).filter goodWord)
def wsL_told_r1 : List Cond := [Cond.classLink RL 13 "java/lang/IllegalArgumentException", Cond.methodLink RL 15 yX0_told, Cond.instanceMethod yX0_told, Cond.selects RX0 yX0_told yX0_told, Cond.initialized RX0, Cond.code yX0_told cX0_told 2 (some .int), Cond.classLink RX0 31 "java/lang/IllegalArgumentException", Cond.initialized "java/lang/IllegalArgumentException", Cond.fieldLink RX0 17 "SegmentBox" "next" "I", Cond.fieldLink RX0 21 "SegmentBox" "unread" "I", Cond.fieldLink RX0 13 "SegmentBox" "heldBits" "J", Cond.fieldLink RX0 24 "SegmentBox" "endKnown" "Z", Cond.methodLink RX0 42 yX0_window, Cond.instanceMethod yX0_window, Cond.selects RX0 yX0_window yX0_window, Cond.code yX0_window cX0_window 1 (some .int), Cond.methodLink RX0 53 yJ13_bitCount_95d88, Cond.static yJ13_bitCount_95d88, Cond.initialized RJ13, Cond.code yJ13_bitCount_95d88 cJ13_bitCount_95d88 2 (some .int), Cond.constantLong RJ13 314 (6148914691236517205), Cond.constantLong RJ13 316 (3689348814741910323), Cond.constantLong RJ13 318 (1085102592571150095), Cond.methodLink RX0 59 yX0_blockStarts]
def wsL_told_r2 : List Cond := [Cond.instanceMethod yX0_blockStarts, Cond.selects RX0 yX0_blockStarts yX0_blockStarts, Cond.code yX0_blockStarts cX0_blockStarts 1 (some .long), Cond.constantLong RX0 78 (-1)]
def wsL_told : List Cond := .codeWith yL_told cL_told 4 (some .int) [(0, 9, 12, 13)] :: ((wsL_told_r1 ++ wsL_told_r2) ++ wsX00 ++ (vx_at0 RX0 33 "java/lang/IllegalArgumentException" ["java/lang/RuntimeException", "java/lang/Exception"]).filter goodWord)
def wsL_block_r1 : List Cond := [Cond.classLink RL 23 "java/lang/IndexOutOfBoundsException", Cond.methodLink RL 19 yX0_block, Cond.instanceMethod yX0_block, Cond.selects RX0 yX0_block yX0_block, Cond.initialized RX0, Cond.code yX0_block cX0_block 4 (some .int), Cond.classLink RX0 63 "java/lang/IndexOutOfBoundsException", Cond.initialized "java/lang/IndexOutOfBoundsException", Cond.fieldLink RX0 17 "SegmentBox" "next" "I", Cond.methodLink RX0 59 yX0_blockStarts, Cond.instanceMethod yX0_blockStarts, Cond.selects RX0 yX0_blockStarts yX0_blockStarts, Cond.code yX0_blockStarts cX0_blockStarts 1 (some .long), Cond.fieldLink RX0 13 "SegmentBox" "heldBits" "J", Cond.constantLong RX0 78 (-1), Cond.methodLink RX0 53 yJ13_bitCount_95d88, Cond.static yJ13_bitCount_95d88, Cond.initialized RJ13, Cond.code yJ13_bitCount_95d88 cJ13_bitCount_95d88 2 (some .int), Cond.constantLong RJ13 314 (6148914691236517205), Cond.constantLong RJ13 316 (3689348814741910323), Cond.constantLong RJ13 318 (1085102592571150095), Cond.methodLink RX0 66 yX0_startOfBlock, Cond.instanceMethod yX0_startOfBlock]
def wsL_block_r2 : List Cond := [Cond.selects RX0 yX0_startOfBlock yX0_startOfBlock, Cond.code yX0_startOfBlock cX0_startOfBlock 6 (some .int), Cond.methodLink RX0 69 yX0_lengthOfBlock, Cond.instanceMethod yX0_lengthOfBlock, Cond.selects RX0 yX0_lengthOfBlock yX0_lengthOfBlock, Cond.code yX0_lengthOfBlock cX0_lengthOfBlock 3 (some .int), Cond.methodLink RX0 72 yX0_isHeldAhead, Cond.instanceMethod yX0_isHeldAhead, Cond.selects RX0 yX0_isHeldAhead yX0_isHeldAhead, Cond.code yX0_isHeldAhead cX0_isHeldAhead 2 (some .boolean)]
def wsL_block : List Cond := .codeWith yL_block cL_block 5 (some .int) [(0, 10, 13, 23)] :: ((wsL_block_r1 ++ wsL_block_r2) ++ wsX00 ++ (vx_at0 RX0 65 "java/lang/IndexOutOfBoundsException" ["java/lang/RuntimeException", "java/lang/Exception"]).filter goodWord)
def wsL_law0_r1 : List Cond := [Cond.classLink RL 8 RX0, Cond.instantiable RX0 6, Cond.initialized RX0, Cond.classLink RL 26 RX1, Cond.instantiable RX1 8, Cond.initialized RX1, Cond.methodLink RL 25 yX0_init, Cond.instanceMethod yX0_init, Cond.code yX0_init cX0_init 1 none, Cond.methodLink RX0 1 objectInit, Cond.instanceMethod objectInit, Cond.code objectInit ⟨#[0xb1]⟩ 1 none, Cond.arrayClass .byte, Cond.fieldLink RX0 9 "SegmentBox" "bytes" "[B", Cond.fieldLink RX0 13 "SegmentBox" "heldBits" "J", Cond.fieldLink RX0 17 "SegmentBox" "next" "I", Cond.fieldLink RX0 21 "SegmentBox" "unread" "I", Cond.fieldLink RX0 24 "SegmentBox" "endKnown" "Z", Cond.fieldLink RX0 28 "SegmentBox" "endNumber" "I", Cond.methodLink RL 28 yX1_init, Cond.instanceMethod yX1_init, Cond.code yX1_init cX1_init 1 none, Cond.methodLink RX1 1 objectInit, Cond.arrayClass .int]
def wsL_law0_r2 : List Cond := [Cond.fieldLink RX1 9 "SegmentBoxModel" "unread" "[I", Cond.fieldLink RX1 13 "SegmentBoxModel" "byteAt" "[I", Cond.arrayClass .boolean, Cond.fieldLink RX1 16 "SegmentBoxModel" "isHeld" "[Z", Cond.methodLink RL 29 yX0_open, Cond.instanceMethod yX0_open, Cond.selects RX0 yX0_open yX0_open, Cond.code yX0_open cX0_open 2 none, Cond.methodLink RL 33 yX1_open, Cond.instanceMethod yX1_open, Cond.selects RX1 yX1_open yX1_open, Cond.code yX1_open cX1_open 3 none, Cond.fieldLink RX1 20 "SegmentBoxModel" "thrown" "I", Cond.fieldLink RX1 24 "SegmentBoxModel" "next" "I", Cond.fieldLink RX1 27 "SegmentBoxModel" "many" "I", Cond.fieldLink RX1 30 "SegmentBoxModel" "hasEnd" "Z", Cond.methodLink RL 36 yL_segment, Cond.static yL_segment, Cond.initialized RL, Cond.codeWith yL_segment cL_segment 7 (some .int) [(0, 13, 16, 13)], Cond.classLink RL 13 "java/lang/IllegalArgumentException", Cond.methodLink RL 7 yX0_segment, Cond.instanceMethod yX0_segment, Cond.selects RX0 yX0_segment yX0_segment]
def wsL_law0_r3 : List Cond := [Cond.code yX0_segment cX0_segment 6 (some .int), Cond.classLink RX0 31 "java/lang/IllegalArgumentException", Cond.initialized "java/lang/IllegalArgumentException", Cond.methodLink RX0 34 yX0_takeByte, Cond.instanceMethod yX0_takeByte, Cond.selects RX0 yX0_takeByte yX0_takeByte, Cond.code yX0_takeByte cX0_takeByte 4 none, Cond.methodLink RX0 42 yX0_window, Cond.instanceMethod yX0_window, Cond.selects RX0 yX0_window yX0_window, Cond.code yX0_window cX0_window 1 (some .int), Cond.methodLink RX0 72 yX0_isHeldAhead, Cond.instanceMethod yX0_isHeldAhead, Cond.selects RX0 yX0_isHeldAhead yX0_isHeldAhead, Cond.code yX0_isHeldAhead cX0_isHeldAhead 2 (some .boolean), Cond.methodLink RX0 75 yX0_isBeforeEnd, Cond.instanceMethod yX0_isBeforeEnd, Cond.selects RX0 yX0_isBeforeEnd yX0_isBeforeEnd, Cond.code yX0_isBeforeEnd cX0_isBeforeEnd 2 (some .boolean), Cond.methodLink RX0 49 yX0_slotOf, Cond.static yX0_slotOf, Cond.code yX0_slotOf cX0_slotOf 1 (some .int), Cond.methodLink RX0 38 yX0_moveOn, Cond.instanceMethod yX0_moveOn]
def wsL_law0_r4 : List Cond := [Cond.selects RX0 yX0_moveOn yX0_moveOn, Cond.code yX0_moveOn cX0_moveOn 2 (some .int), Cond.methodLink RL 42 yX1_thrown, Cond.instanceMethod yX1_thrown, Cond.selects RX1 yX1_thrown yX1_thrown, Cond.code yX1_thrown cX1_thrown 1 (some .int), Cond.methodLink RL 46 yX0_end, Cond.instanceMethod yX0_end, Cond.selects RX0 yX0_end yX0_end, Cond.code yX0_end cX0_end 3 (some .boolean), Cond.methodLink RX0 45 yX0_isHeldFrom, Cond.instanceMethod yX0_isHeldFrom, Cond.selects RX0 yX0_isHeldFrom yX0_isHeldFrom, Cond.code yX0_isHeldFrom cX0_isHeldFrom 2 (some .boolean), Cond.methodLink RL 51 yX0_read, Cond.instanceMethod yX0_read, Cond.selects RX0 yX0_read yX0_read, Cond.code yX0_read cX0_read 2 (some .int), Cond.methodLink RL 55 yL_told, Cond.static yL_told, Cond.codeWith yL_told cL_told 4 (some .int) [(0, 9, 12, 13)], Cond.methodLink RL 15 yX0_told, Cond.instanceMethod yX0_told, Cond.selects RX0 yX0_told yX0_told]
def wsL_law0_r5 : List Cond := [Cond.code yX0_told cX0_told 2 (some .int), Cond.methodLink RX0 53 yJ13_bitCount_95d88, Cond.static yJ13_bitCount_95d88, Cond.initialized RJ13, Cond.code yJ13_bitCount_95d88 cJ13_bitCount_95d88 2 (some .int), Cond.constantLong RJ13 314 (6148914691236517205), Cond.constantLong RJ13 316 (3689348814741910323), Cond.constantLong RJ13 318 (1085102592571150095), Cond.methodLink RX0 59 yX0_blockStarts, Cond.instanceMethod yX0_blockStarts, Cond.selects RX0 yX0_blockStarts yX0_blockStarts, Cond.code yX0_blockStarts cX0_blockStarts 1 (some .long), Cond.constantLong RX0 78 (-1), Cond.methodLink RL 59 yL_block, Cond.static yL_block, Cond.codeWith yL_block cL_block 5 (some .int) [(0, 10, 13, 23)], Cond.classLink RL 23 "java/lang/IndexOutOfBoundsException", Cond.methodLink RL 19 yX0_block, Cond.instanceMethod yX0_block, Cond.selects RX0 yX0_block yX0_block, Cond.code yX0_block cX0_block 4 (some .int), Cond.classLink RX0 63 "java/lang/IndexOutOfBoundsException", Cond.initialized "java/lang/IndexOutOfBoundsException", Cond.methodLink RX0 66 yX0_startOfBlock]
def wsL_law0_r6 : List Cond := [Cond.instanceMethod yX0_startOfBlock, Cond.selects RX0 yX0_startOfBlock yX0_startOfBlock, Cond.code yX0_startOfBlock cX0_startOfBlock 6 (some .int), Cond.methodLink RX0 69 yX0_lengthOfBlock, Cond.instanceMethod yX0_lengthOfBlock, Cond.selects RX0 yX0_lengthOfBlock yX0_lengthOfBlock, Cond.code yX0_lengthOfBlock cX0_lengthOfBlock 3 (some .int), Cond.methodLink RL 63 yX0_held, Cond.instanceMethod yX0_held, Cond.selects RX0 yX0_held yX0_held, Cond.code yX0_held cX0_held 2 (some .boolean)]
def wsL_law0 : List Cond := (wsL_law0_r1 ++ (wsL_law0_r2 ++ (wsL_law0_r3 ++ (wsL_law0_r4 ++ (wsL_law0_r5 ++ wsL_law0_r6))))) ++ wsX00 ++ wsX10 ++ ([] : List Cond)
def wsL_law : List Cond := wsL_law0 ++ (vx_at0 RX0 33 "java/lang/IllegalArgumentException" ["java/lang/RuntimeException", "java/lang/Exception"]).filter goodWord ++ (vx_at0 RX0 65 "java/lang/IndexOutOfBoundsException" ["java/lang/RuntimeException", "java/lang/Exception"]).filter goodWord
set_option maxRecDepth 20000 in
theorem wsL_law_in0 : ∀ w ∈ wsL_law0, w ∈ lw_tbl := by decide +kernel
theorem wsL_law_x0 : ∀ w ∈ (vx_at0 RX0 33 "java/lang/IllegalArgumentException" ["java/lang/RuntimeException", "java/lang/Exception"]).filter goodWord, w ∈ lw_tbl := by decide +kernel
theorem wsL_law_x1 : ∀ w ∈ (vx_at0 RX0 65 "java/lang/IndexOutOfBoundsException" ["java/lang/RuntimeException", "java/lang/Exception"]).filter goodWord, w ∈ lw_tbl := by decide +kernel
theorem wsL_law_in : ∀ w ∈ wsL_law, w ∈ lw_tbl := fun w h => (List.mem_append.mp h).elim (fun h => (List.mem_append.mp h).elim (fun h => wsL_law_in0 w h) (fun h => wsL_law_x0 w h)) (fun h => wsL_law_x1 w h)
theorem inlX0 : ∀ w ∈ wsX00, w ∈ wsL_law := fun _ h => List.mem_append_left _ (List.mem_append_left _ (List.mem_append_left _ (List.mem_append_left _ (List.mem_append_right _ h))))
theorem inX0 : ∀ w ∈ wsX00, w ∈ lw_tbl := fun w h => wsL_law_in w (inlX0 w h)
theorem inlX1 : ∀ w ∈ wsX10, w ∈ wsL_law := fun _ h => List.mem_append_left _ (List.mem_append_left _ (List.mem_append_left _ (List.mem_append_right _ h)))
theorem inX1 : ∀ w ∈ wsX10, w ∈ lw_tbl := fun w h => wsL_law_in w (inlX1 w h)
theorem inJ13 : ∀ w ∈ wsJ130, w ∈ lw_tbl := by decide +kernel
theorem dX0_init_0 : decode cX0_init 0 = .ok (.aload_n 0, 1) := by decide +kernel
theorem dX0_init_1 : decode cX0_init 1 = .ok (.invokespecial 1, 3) := by decide +kernel
theorem dX0_init_4 : decode cX0_init 4 = .ok (.aload_n 0, 1) := by decide +kernel
theorem dX0_init_5 : decode cX0_init 5 = .ok (.bipush 64, 2) := by decide +kernel
theorem dX0_init_7 : decode cX0_init 7 = .ok (.newarray .byte, 2) := by decide +kernel
theorem dX0_init_9 : decode cX0_init 9 = .ok (.putfield 9, 3) := by decide +kernel
theorem dX0_init_12 : decode cX0_init 12 = .ok (.aload_n 0, 1) := by decide +kernel
theorem dX0_init_13 : decode cX0_init 13 = .ok (.lconst 0, 1) := by decide +kernel
theorem dX0_init_14 : decode cX0_init 14 = .ok (.putfield 13, 3) := by decide +kernel
theorem dX0_init_17 : decode cX0_init 17 = .ok (.aload_n 0, 1) := by decide +kernel
theorem dX0_init_18 : decode cX0_init 18 = .ok (.iconst 0, 1) := by decide +kernel
theorem dX0_init_19 : decode cX0_init 19 = .ok (.putfield 17, 3) := by decide +kernel
theorem dX0_init_22 : decode cX0_init 22 = .ok (.aload_n 0, 1) := by decide +kernel
theorem dX0_init_23 : decode cX0_init 23 = .ok (.iconst 0, 1) := by decide +kernel
theorem dX0_init_24 : decode cX0_init 24 = .ok (.putfield 21, 3) := by decide +kernel
theorem dX0_init_27 : decode cX0_init 27 = .ok (.aload_n 0, 1) := by decide +kernel
theorem dX0_init_28 : decode cX0_init 28 = .ok (.iconst 0, 1) := by decide +kernel
theorem dX0_init_29 : decode cX0_init 29 = .ok (.putfield 24, 3) := by decide +kernel
theorem dX0_init_32 : decode cX0_init 32 = .ok (.aload_n 0, 1) := by decide +kernel
theorem dX0_init_33 : decode cX0_init 33 = .ok (.iconst 0, 1) := by decide +kernel
theorem dX0_init_34 : decode cX0_init 34 = .ok (.putfield 28, 3) := by decide +kernel
theorem dX0_init_37 : decode cX0_init 37 = .ok (.return_, 1) := by decide +kernel
theorem dX0_open_0 : decode cX0_open 0 = .ok (.aload_n 0, 1) := by decide +kernel
theorem dX0_open_1 : decode cX0_open 1 = .ok (.lconst 0, 1) := by decide +kernel
theorem dX0_open_2 : decode cX0_open 2 = .ok (.putfield 13, 3) := by decide +kernel
theorem dX0_open_5 : decode cX0_open 5 = .ok (.aload_n 0, 1) := by decide +kernel
theorem dX0_open_6 : decode cX0_open 6 = .ok (.iload_n 1, 1) := by decide +kernel
theorem dX0_open_7 : decode cX0_open 7 = .ok (.putfield 17, 3) := by decide +kernel
theorem dX0_open_10 : decode cX0_open 10 = .ok (.aload_n 0, 1) := by decide +kernel
theorem dX0_open_11 : decode cX0_open 11 = .ok (.iconst 0, 1) := by decide +kernel
theorem dX0_open_12 : decode cX0_open 12 = .ok (.putfield 21, 3) := by decide +kernel
theorem dX0_open_15 : decode cX0_open 15 = .ok (.aload_n 0, 1) := by decide +kernel
theorem dX0_open_16 : decode cX0_open 16 = .ok (.iconst 0, 1) := by decide +kernel
theorem dX0_open_17 : decode cX0_open 17 = .ok (.putfield 24, 3) := by decide +kernel
theorem dX0_open_20 : decode cX0_open 20 = .ok (.aload_n 0, 1) := by decide +kernel
theorem dX0_open_21 : decode cX0_open 21 = .ok (.iconst 0, 1) := by decide +kernel
theorem dX0_open_22 : decode cX0_open 22 = .ok (.putfield 28, 3) := by decide +kernel
theorem dX0_open_25 : decode cX0_open 25 = .ok (.return_, 1) := by decide +kernel
set_option maxRecDepth 20000 in
theorem ggX0_segment_X0_takeByte : GoodIn wsX0_segment wsX0_takeByte := goodIn_r _ [7, 8, 9, 10, 11, 12, 13, 6, 14, 15, 16, 17, 18, 19, 20, 21, 22, 23, 24, 25, 26, 27, 28, 33, 34, 35, 36, 37, 38] (by decide +kernel) (by decide +kernel)
set_option maxRecDepth 20000 in
theorem gX0_segment_X0_takeByte : GoodIn wsX0_segment (wsV RX0 34 RX0 yX0_takeByte wsX0_takeByte) := goodIn_app (goodIn_of _ (by decide +kernel)) ggX0_segment_X0_takeByte
set_option maxRecDepth 20000 in
theorem ggX0_segment_X0_moveOn : GoodIn wsX0_segment wsX0_moveOn := goodIn_r _ [32, 10, 8, 15, 33, 34, 35, 36, 37, 38] (by decide +kernel) (by decide +kernel)
set_option maxRecDepth 20000 in
theorem gX0_segment_X0_moveOn : GoodIn wsX0_segment (wsV RX0 38 RX0 yX0_moveOn wsX0_moveOn) := goodIn_app (goodIn_of _ (by decide +kernel)) ggX0_segment_X0_moveOn
theorem dX0_segment_0 : decode cX0_segment 0 = .ok (.iload 4, 2) := by decide +kernel
theorem dX0_segment_2 : decode cX0_segment 2 = .ok (.ifCond .lt 10, 3) := by decide +kernel
theorem dX0_segment_5 : decode cX0_segment 5 = .ok (.iload 4, 2) := by decide +kernel
theorem dX0_segment_7 : decode cX0_segment 7 = .ok (.bipush 8, 2) := by decide +kernel
theorem dX0_segment_9 : decode cX0_segment 9 = .ok (.if_icmp .le 11, 3) := by decide +kernel
theorem dX0_segment_12 : decode cX0_segment 12 = .ok (.new 31, 3) := by decide +kernel
theorem dX0_segment_15 : decode cX0_segment 15 = .ok (.dup, 1) := by decide +kernel
theorem dX0_segment_16 : decode cX0_segment 16 = .ok (.invokespecial 33, 3) := by decide +kernel
theorem dX0_segment_19 : decode cX0_segment 19 = .ok (.athrow, 1) := by decide +kernel
theorem dX0_segment_20 : decode cX0_segment 20 = .ok (.iconst 0, 1) := by decide +kernel
theorem dX0_segment_21 : decode cX0_segment 21 = .ok (.istore 5, 2) := by decide +kernel
theorem dX0_segment_23 : decode cX0_segment 23 = .ok (.iload 5, 2) := by decide +kernel
theorem dX0_segment_25 : decode cX0_segment 25 = .ok (.iload 4, 2) := by decide +kernel
theorem dX0_segment_27 : decode cX0_segment 27 = .ok (.if_icmp .ge 26, 3) := by decide +kernel
theorem dX0_segment_30 : decode cX0_segment 30 = .ok (.aload_n 0, 1) := by decide +kernel
theorem dX0_segment_31 : decode cX0_segment 31 = .ok (.iload_n 1, 1) := by decide +kernel
theorem dX0_segment_32 : decode cX0_segment 32 = .ok (.iload 5, 2) := by decide +kernel
theorem dX0_segment_34 : decode cX0_segment 34 = .ok (.iadd, 1) := by decide +kernel
theorem dX0_segment_35 : decode cX0_segment 35 = .ok (.lload_n 2, 1) := by decide +kernel
theorem dX0_segment_36 : decode cX0_segment 36 = .ok (.bipush 8, 2) := by decide +kernel
theorem dX0_segment_38 : decode cX0_segment 38 = .ok (.iload 5, 2) := by decide +kernel
theorem dX0_segment_40 : decode cX0_segment 40 = .ok (.imul, 1) := by decide +kernel
theorem dX0_segment_41 : decode cX0_segment 41 = .ok (.lushr, 1) := by decide +kernel
theorem dX0_segment_42 : decode cX0_segment 42 = .ok (.l2i, 1) := by decide +kernel
theorem dX0_segment_43 : decode cX0_segment 43 = .ok (.i2b, 1) := by decide +kernel
theorem dX0_segment_44 : decode cX0_segment 44 = .ok (.invokevirtual 34, 3) := by decide +kernel
theorem dX0_segment_47 : decode cX0_segment 47 = .ok (.iinc 5 1, 3) := by decide +kernel
theorem dX0_segment_50 : decode cX0_segment 50 = .ok (.goto (-27), 3) := by decide +kernel
theorem dX0_segment_53 : decode cX0_segment 53 = .ok (.aload_n 0, 1) := by decide +kernel
theorem dX0_segment_54 : decode cX0_segment 54 = .ok (.invokevirtual 38, 3) := by decide +kernel
theorem dX0_segment_57 : decode cX0_segment 57 = .ok (.ireturn, 1) := by decide +kernel
set_option maxRecDepth 20000 in
theorem ggX0_end_X0_window : GoodIn wsX0_end wsX0_window := goodIn_r _ [8, 9, 15, 16, 17, 18, 19, 20] (by decide +kernel) (by decide +kernel)
set_option maxRecDepth 20000 in
theorem gX0_end_X0_window : GoodIn wsX0_end (wsV RX0 42 RX0 yX0_window wsX0_window) := goodIn_app (goodIn_of _ (by decide +kernel)) ggX0_end_X0_window
set_option maxRecDepth 20000 in
theorem ggX0_end_X0_isHeldFrom : GoodIn wsX0_end wsX0_isHeldFrom := goodIn_r _ [13, 14, 15, 16, 17, 18, 19, 20] (by decide +kernel) (by decide +kernel)
set_option maxRecDepth 20000 in
theorem gX0_end_X0_isHeldFrom : GoodIn wsX0_end (wsV RX0 45 RX0 yX0_isHeldFrom wsX0_isHeldFrom) := goodIn_app (goodIn_of _ (by decide +kernel)) ggX0_end_X0_isHeldFrom
theorem dX0_end_0 : decode cX0_end 0 = .ok (.iload_n 1, 1) := by decide +kernel
theorem dX0_end_1 : decode cX0_end 1 = .ok (.aload_n 0, 1) := by decide +kernel
theorem dX0_end_2 : decode cX0_end 2 = .ok (.getfield 17, 3) := by decide +kernel
theorem dX0_end_5 : decode cX0_end 5 = .ok (.isub, 1) := by decide +kernel
theorem dX0_end_6 : decode cX0_end 6 = .ok (.istore_n 2, 1) := by decide +kernel
theorem dX0_end_7 : decode cX0_end 7 = .ok (.aload_n 0, 1) := by decide +kernel
theorem dX0_end_8 : decode cX0_end 8 = .ok (.getfield 24, 3) := by decide +kernel
theorem dX0_end_11 : decode cX0_end 11 = .ok (.ifCond .ne 23, 3) := by decide +kernel
theorem dX0_end_14 : decode cX0_end 14 = .ok (.iload_n 2, 1) := by decide +kernel
theorem dX0_end_15 : decode cX0_end 15 = .ok (.ifCond .lt 19, 3) := by decide +kernel
theorem dX0_end_18 : decode cX0_end 18 = .ok (.iload_n 2, 1) := by decide +kernel
theorem dX0_end_19 : decode cX0_end 19 = .ok (.aload_n 0, 1) := by decide +kernel
theorem dX0_end_20 : decode cX0_end 20 = .ok (.invokevirtual 42, 3) := by decide +kernel
theorem dX0_end_23 : decode cX0_end 23 = .ok (.if_icmp .gt 11, 3) := by decide +kernel
theorem dX0_end_26 : decode cX0_end 26 = .ok (.aload_n 0, 1) := by decide +kernel
theorem dX0_end_27 : decode cX0_end 27 = .ok (.iload_n 2, 1) := by decide +kernel
theorem dX0_end_28 : decode cX0_end 28 = .ok (.invokevirtual 45, 3) := by decide +kernel
theorem dX0_end_31 : decode cX0_end 31 = .ok (.ifCond .eq 5, 3) := by decide +kernel
theorem dX0_end_34 : decode cX0_end 34 = .ok (.iconst 0, 1) := by decide +kernel
theorem dX0_end_35 : decode cX0_end 35 = .ok (.ireturn, 1) := by decide +kernel
theorem dX0_end_36 : decode cX0_end 36 = .ok (.aload_n 0, 1) := by decide +kernel
theorem dX0_end_37 : decode cX0_end 37 = .ok (.iconst 1, 1) := by decide +kernel
theorem dX0_end_38 : decode cX0_end 38 = .ok (.putfield 24, 3) := by decide +kernel
theorem dX0_end_41 : decode cX0_end 41 = .ok (.aload_n 0, 1) := by decide +kernel
theorem dX0_end_42 : decode cX0_end 42 = .ok (.iload_n 1, 1) := by decide +kernel
theorem dX0_end_43 : decode cX0_end 43 = .ok (.putfield 28, 3) := by decide +kernel
theorem dX0_end_46 : decode cX0_end 46 = .ok (.iconst 1, 1) := by decide +kernel
theorem dX0_end_47 : decode cX0_end 47 = .ok (.ireturn, 1) := by decide +kernel
set_option maxRecDepth 20000 in
theorem ggX0_read_X0_slotOf : GoodIn wsX0_read wsX0_slotOf := goodIn_r _ [9] (by decide +kernel) (by decide +kernel)
set_option maxRecDepth 20000 in
theorem gX0_read_X0_slotOf : GoodIn wsX0_read (va_wsS RX0 49 yX0_slotOf wsX0_slotOf) := goodIn_app (goodIn_of _ (by decide +kernel)) ggX0_read_X0_slotOf
theorem dX0_read_0 : decode cX0_read 0 = .ok (.aload_n 0, 1) := by decide +kernel
theorem dX0_read_1 : decode cX0_read 1 = .ok (.getfield 21, 3) := by decide +kernel
theorem dX0_read_4 : decode cX0_read 4 = .ok (.ifCond .ne 28, 3) := by decide +kernel
theorem dX0_read_7 : decode cX0_read 7 = .ok (.aload_n 0, 1) := by decide +kernel
theorem dX0_read_8 : decode cX0_read 8 = .ok (.getfield 24, 3) := by decide +kernel
theorem dX0_read_11 : decode cX0_read 11 = .ok (.ifCond .eq 19, 3) := by decide +kernel
theorem dX0_read_14 : decode cX0_read 14 = .ok (.aload_n 0, 1) := by decide +kernel
theorem dX0_read_15 : decode cX0_read 15 = .ok (.getfield 17, 3) := by decide +kernel
theorem dX0_read_18 : decode cX0_read 18 = .ok (.aload_n 0, 1) := by decide +kernel
theorem dX0_read_19 : decode cX0_read 19 = .ok (.getfield 28, 3) := by decide +kernel
theorem dX0_read_22 : decode cX0_read 22 = .ok (.if_icmp .ne 8, 3) := by decide +kernel
theorem dX0_read_25 : decode cX0_read 25 = .ok (.bipush (-2), 2) := by decide +kernel
theorem dX0_read_27 : decode cX0_read 27 = .ok (.goto 4, 3) := by decide +kernel
theorem dX0_read_30 : decode cX0_read 30 = .ok (.iconst (-1), 1) := by decide +kernel
theorem dX0_read_31 : decode cX0_read 31 = .ok (.ireturn, 1) := by decide +kernel
theorem dX0_read_32 : decode cX0_read 32 = .ok (.aload_n 0, 1) := by decide +kernel
theorem dX0_read_33 : decode cX0_read 33 = .ok (.getfield 9, 3) := by decide +kernel
theorem dX0_read_36 : decode cX0_read 36 = .ok (.aload_n 0, 1) := by decide +kernel
theorem dX0_read_37 : decode cX0_read 37 = .ok (.getfield 17, 3) := by decide +kernel
theorem dX0_read_40 : decode cX0_read 40 = .ok (.aload_n 0, 1) := by decide +kernel
theorem dX0_read_41 : decode cX0_read 41 = .ok (.getfield 21, 3) := by decide +kernel
theorem dX0_read_44 : decode cX0_read 44 = .ok (.isub, 1) := by decide +kernel
theorem dX0_read_45 : decode cX0_read 45 = .ok (.invokestatic 49, 3) := by decide +kernel
theorem dX0_read_48 : decode cX0_read 48 = .ok (.baload, 1) := by decide +kernel
theorem dX0_read_49 : decode cX0_read 49 = .ok (.sipush 255, 3) := by decide +kernel
theorem dX0_read_52 : decode cX0_read 52 = .ok (.iand, 1) := by decide +kernel
theorem dX0_read_53 : decode cX0_read 53 = .ok (.istore_n 1, 1) := by decide +kernel
theorem dX0_read_54 : decode cX0_read 54 = .ok (.aload_n 0, 1) := by decide +kernel
theorem dX0_read_55 : decode cX0_read 55 = .ok (.dup, 1) := by decide +kernel
theorem dX0_read_56 : decode cX0_read 56 = .ok (.getfield 21, 3) := by decide +kernel
theorem dX0_read_59 : decode cX0_read 59 = .ok (.iconst 1, 1) := by decide +kernel
theorem dX0_read_60 : decode cX0_read 60 = .ok (.isub, 1) := by decide +kernel
theorem dX0_read_61 : decode cX0_read 61 = .ok (.putfield 21, 3) := by decide +kernel
theorem dX0_read_64 : decode cX0_read 64 = .ok (.iload_n 1, 1) := by decide +kernel
theorem dX0_read_65 : decode cX0_read 65 = .ok (.ireturn, 1) := by decide +kernel
set_option maxRecDepth 20000 in
theorem ggX0_told_X0_window : GoodIn wsX0_told wsX0_window := goodIn_r _ [11, 4, 24, 25, 26, 27, 28, 29] (by decide +kernel) (by decide +kernel)
set_option maxRecDepth 20000 in
theorem gX0_told_X0_window : GoodIn wsX0_told (wsV RX0 42 RX0 yX0_window wsX0_window) := goodIn_app (goodIn_of _ (by decide +kernel)) ggX0_told_X0_window
set_option maxRecDepth 20000 in
theorem ggX0_told_J13_bitCount_95d88 : GoodIn wsX0_told wsJ13_bitCount_95d88 := goodIn_r _ [15, 16, 17, 18] (by decide +kernel) (by decide +kernel)
set_option maxRecDepth 20000 in
theorem gX0_told_J13_bitCount_95d88 : GoodIn wsX0_told (va_wsS RX0 53 yJ13_bitCount_95d88 wsJ13_bitCount_95d88) := goodIn_app (goodIn_of _ (by decide +kernel)) ggX0_told_J13_bitCount_95d88
set_option maxRecDepth 20000 in
theorem ggX0_told_X0_blockStarts : GoodIn wsX0_told wsX0_blockStarts := goodIn_r _ [22, 5, 23, 24, 25, 26, 27, 28, 29] (by decide +kernel) (by decide +kernel)
set_option maxRecDepth 20000 in
theorem gX0_told_X0_blockStarts : GoodIn wsX0_told (wsV RX0 59 RX0 yX0_blockStarts wsX0_blockStarts) := goodIn_app (goodIn_of _ (by decide +kernel)) ggX0_told_X0_blockStarts
theorem dX0_told_0 : decode cX0_told 0 = .ok (.iload_n 1, 1) := by decide +kernel
theorem dX0_told_1 : decode cX0_told 1 = .ok (.tableswitch 83 0 5 #[39, 44, 49, 54, 62, 70], 39) := by decide +kernel
theorem dX0_told_40 : decode cX0_told 40 = .ok (.aload_n 0, 1) := by decide +kernel
theorem dX0_told_41 : decode cX0_told 41 = .ok (.getfield 17, 3) := by decide +kernel
theorem dX0_told_44 : decode cX0_told 44 = .ok (.ireturn, 1) := by decide +kernel
theorem dX0_told_45 : decode cX0_told 45 = .ok (.aload_n 0, 1) := by decide +kernel
theorem dX0_told_46 : decode cX0_told 46 = .ok (.invokevirtual 42, 3) := by decide +kernel
theorem dX0_told_49 : decode cX0_told 49 = .ok (.ireturn, 1) := by decide +kernel
theorem dX0_told_50 : decode cX0_told 50 = .ok (.aload_n 0, 1) := by decide +kernel
theorem dX0_told_51 : decode cX0_told 51 = .ok (.getfield 21, 3) := by decide +kernel
theorem dX0_told_54 : decode cX0_told 54 = .ok (.ireturn, 1) := by decide +kernel
theorem dX0_told_55 : decode cX0_told 55 = .ok (.aload_n 0, 1) := by decide +kernel
theorem dX0_told_56 : decode cX0_told 56 = .ok (.getfield 13, 3) := by decide +kernel
theorem dX0_told_59 : decode cX0_told 59 = .ok (.invokestatic 53, 3) := by decide +kernel
theorem dX0_told_62 : decode cX0_told 62 = .ok (.ireturn, 1) := by decide +kernel
theorem dX0_told_63 : decode cX0_told 63 = .ok (.aload_n 0, 1) := by decide +kernel
theorem dX0_told_64 : decode cX0_told 64 = .ok (.invokevirtual 59, 3) := by decide +kernel
theorem dX0_told_67 : decode cX0_told 67 = .ok (.invokestatic 53, 3) := by decide +kernel
theorem dX0_told_70 : decode cX0_told 70 = .ok (.ireturn, 1) := by decide +kernel
theorem dX0_told_71 : decode cX0_told 71 = .ok (.aload_n 0, 1) := by decide +kernel
theorem dX0_told_72 : decode cX0_told 72 = .ok (.getfield 24, 3) := by decide +kernel
theorem dX0_told_75 : decode cX0_told 75 = .ok (.ifCond .eq 7, 3) := by decide +kernel
theorem dX0_told_78 : decode cX0_told 78 = .ok (.iconst 1, 1) := by decide +kernel
theorem dX0_told_79 : decode cX0_told 79 = .ok (.goto 4, 3) := by decide +kernel
theorem dX0_told_82 : decode cX0_told 82 = .ok (.iconst 0, 1) := by decide +kernel
theorem dX0_told_83 : decode cX0_told 83 = .ok (.ireturn, 1) := by decide +kernel
theorem dX0_told_84 : decode cX0_told 84 = .ok (.new 31, 3) := by decide +kernel
theorem dX0_told_87 : decode cX0_told 87 = .ok (.dup, 1) := by decide +kernel
theorem dX0_told_88 : decode cX0_told 88 = .ok (.invokespecial 33, 3) := by decide +kernel
theorem dX0_told_91 : decode cX0_told 91 = .ok (.athrow, 1) := by decide +kernel
set_option maxRecDepth 20000 in
theorem ggX0_block_X0_blockStarts : GoodIn wsX0_block wsX0_blockStarts := goodIn_r _ [8, 9, 10, 30, 31, 32, 33, 34, 35] (by decide +kernel) (by decide +kernel)
set_option maxRecDepth 20000 in
theorem gX0_block_X0_blockStarts : GoodIn wsX0_block (wsV RX0 59 RX0 yX0_blockStarts wsX0_blockStarts) := goodIn_app (goodIn_of _ (by decide +kernel)) ggX0_block_X0_blockStarts
set_option maxRecDepth 20000 in
theorem ggX0_block_J13_bitCount_95d88 : GoodIn wsX0_block wsJ13_bitCount_95d88 := goodIn_r _ [14, 15, 16, 17] (by decide +kernel) (by decide +kernel)
set_option maxRecDepth 20000 in
theorem gX0_block_J13_bitCount_95d88 : GoodIn wsX0_block (va_wsS RX0 53 yJ13_bitCount_95d88 wsJ13_bitCount_95d88) := goodIn_app (goodIn_of _ (by decide +kernel)) ggX0_block_J13_bitCount_95d88
set_option maxRecDepth 20000 in
theorem ggX0_block_X0_startOfBlock : GoodIn wsX0_block wsX0_startOfBlock := goodIn_r _ [21, 4, 5, 6, 7, 8, 9, 10, 30, 31, 32, 33, 34, 35] (by decide +kernel) (by decide +kernel)
set_option maxRecDepth 20000 in
theorem gX0_block_X0_startOfBlock : GoodIn wsX0_block (wsV RX0 66 RX0 yX0_startOfBlock wsX0_startOfBlock) := goodIn_app (goodIn_of _ (by decide +kernel)) ggX0_block_X0_startOfBlock
set_option maxRecDepth 20000 in
theorem ggX0_block_X0_lengthOfBlock : GoodIn wsX0_block wsX0_lengthOfBlock := goodIn_r _ [25, 26, 27, 28, 7, 29, 9, 30, 31, 32, 33, 34, 35] (by decide +kernel) (by decide +kernel)
set_option maxRecDepth 20000 in
theorem gX0_block_X0_lengthOfBlock : GoodIn wsX0_block (wsV RX0 69 RX0 yX0_lengthOfBlock wsX0_lengthOfBlock) := goodIn_app (goodIn_of _ (by decide +kernel)) ggX0_block_X0_lengthOfBlock
theorem dX0_block_0 : decode cX0_block 0 = .ok (.iload_n 1, 1) := by decide +kernel
theorem dX0_block_1 : decode cX0_block 1 = .ok (.ifCond .lt 14, 3) := by decide +kernel
theorem dX0_block_4 : decode cX0_block 4 = .ok (.iload_n 1, 1) := by decide +kernel
theorem dX0_block_5 : decode cX0_block 5 = .ok (.aload_n 0, 1) := by decide +kernel
theorem dX0_block_6 : decode cX0_block 6 = .ok (.invokevirtual 59, 3) := by decide +kernel
theorem dX0_block_9 : decode cX0_block 9 = .ok (.invokestatic 53, 3) := by decide +kernel
theorem dX0_block_12 : decode cX0_block 12 = .ok (.if_icmp .lt 11, 3) := by decide +kernel
theorem dX0_block_15 : decode cX0_block 15 = .ok (.new 63, 3) := by decide +kernel
theorem dX0_block_18 : decode cX0_block 18 = .ok (.dup, 1) := by decide +kernel
theorem dX0_block_19 : decode cX0_block 19 = .ok (.invokespecial 65, 3) := by decide +kernel
theorem dX0_block_22 : decode cX0_block 22 = .ok (.athrow, 1) := by decide +kernel
theorem dX0_block_23 : decode cX0_block 23 = .ok (.aload_n 0, 1) := by decide +kernel
theorem dX0_block_24 : decode cX0_block 24 = .ok (.iload_n 1, 1) := by decide +kernel
theorem dX0_block_25 : decode cX0_block 25 = .ok (.invokevirtual 66, 3) := by decide +kernel
theorem dX0_block_28 : decode cX0_block 28 = .ok (.istore_n 3, 1) := by decide +kernel
theorem dX0_block_29 : decode cX0_block 29 = .ok (.iload_n 2, 1) := by decide +kernel
theorem dX0_block_30 : decode cX0_block 30 = .ok (.ifCond .eq 11, 3) := by decide +kernel
theorem dX0_block_33 : decode cX0_block 33 = .ok (.aload_n 0, 1) := by decide +kernel
theorem dX0_block_34 : decode cX0_block 34 = .ok (.iload_n 3, 1) := by decide +kernel
theorem dX0_block_35 : decode cX0_block 35 = .ok (.invokevirtual 69, 3) := by decide +kernel
theorem dX0_block_38 : decode cX0_block 38 = .ok (.goto 9, 3) := by decide +kernel
theorem dX0_block_41 : decode cX0_block 41 = .ok (.aload_n 0, 1) := by decide +kernel
theorem dX0_block_42 : decode cX0_block 42 = .ok (.getfield 17, 3) := by decide +kernel
theorem dX0_block_45 : decode cX0_block 45 = .ok (.iload_n 3, 1) := by decide +kernel
theorem dX0_block_46 : decode cX0_block 46 = .ok (.iadd, 1) := by decide +kernel
theorem dX0_block_47 : decode cX0_block 47 = .ok (.ireturn, 1) := by decide +kernel
set_option maxRecDepth 20000 in
theorem ggX0_held_X0_isHeldAhead : GoodIn wsX0_held wsX0_isHeldAhead := goodIn_r _ [6, 7, 8, 9, 10, 11, 12, 13] (by decide +kernel) (by decide +kernel)
set_option maxRecDepth 20000 in
theorem gX0_held_X0_isHeldAhead : GoodIn wsX0_held (wsV RX0 72 RX0 yX0_isHeldAhead wsX0_isHeldAhead) := goodIn_app (goodIn_of _ (by decide +kernel)) ggX0_held_X0_isHeldAhead
theorem dX0_held_0 : decode cX0_held 0 = .ok (.aload_n 0, 1) := by decide +kernel
theorem dX0_held_1 : decode cX0_held 1 = .ok (.iload_n 1, 1) := by decide +kernel
theorem dX0_held_2 : decode cX0_held 2 = .ok (.aload_n 0, 1) := by decide +kernel
theorem dX0_held_3 : decode cX0_held 3 = .ok (.getfield 17, 3) := by decide +kernel
theorem dX0_held_6 : decode cX0_held 6 = .ok (.isub, 1) := by decide +kernel
theorem dX0_held_7 : decode cX0_held 7 = .ok (.invokevirtual 72, 3) := by decide +kernel
theorem dX0_held_10 : decode cX0_held 10 = .ok (.ireturn, 1) := by decide +kernel
theorem dX0_window_0 : decode cX0_window 0 = .ok (.bipush 64, 2) := by decide +kernel
theorem dX0_window_2 : decode cX0_window 2 = .ok (.aload_n 0, 1) := by decide +kernel
theorem dX0_window_3 : decode cX0_window 3 = .ok (.getfield 21, 3) := by decide +kernel
theorem dX0_window_6 : decode cX0_window 6 = .ok (.isub, 1) := by decide +kernel
theorem dX0_window_7 : decode cX0_window 7 = .ok (.ireturn, 1) := by decide +kernel
theorem dX0_slotOf_0 : decode cX0_slotOf 0 = .ok (.iload_n 0, 1) := by decide +kernel
theorem dX0_slotOf_1 : decode cX0_slotOf 1 = .ok (.bipush 63, 2) := by decide +kernel
theorem dX0_slotOf_3 : decode cX0_slotOf 3 = .ok (.iand, 1) := by decide +kernel
theorem dX0_slotOf_4 : decode cX0_slotOf 4 = .ok (.ireturn, 1) := by decide +kernel
set_option maxRecDepth 20000 in
theorem ggX0_takeByte_X0_window : GoodIn wsX0_takeByte wsX0_window := goodIn_r _ [8, 9, 23, 24, 25, 26, 27, 28] (by decide +kernel) (by decide +kernel)
set_option maxRecDepth 20000 in
theorem gX0_takeByte_X0_window : GoodIn wsX0_takeByte (wsV RX0 42 RX0 yX0_window wsX0_window) := goodIn_app (goodIn_of _ (by decide +kernel)) ggX0_takeByte_X0_window
set_option maxRecDepth 20000 in
theorem ggX0_takeByte_X0_isHeldAhead : GoodIn wsX0_takeByte wsX0_isHeldAhead := goodIn_r _ [13, 3, 23, 24, 25, 26, 27, 28] (by decide +kernel) (by decide +kernel)
set_option maxRecDepth 20000 in
theorem gX0_takeByte_X0_isHeldAhead : GoodIn wsX0_takeByte (wsV RX0 72 RX0 yX0_isHeldAhead wsX0_isHeldAhead) := goodIn_app (goodIn_of _ (by decide +kernel)) ggX0_takeByte_X0_isHeldAhead
set_option maxRecDepth 20000 in
theorem ggX0_takeByte_X0_isBeforeEnd : GoodIn wsX0_takeByte wsX0_isBeforeEnd := goodIn_r _ [17, 18, 19, 1, 23, 24, 25, 26, 27, 28] (by decide +kernel) (by decide +kernel)
set_option maxRecDepth 20000 in
theorem gX0_takeByte_X0_isBeforeEnd : GoodIn wsX0_takeByte (wsV RX0 75 RX0 yX0_isBeforeEnd wsX0_isBeforeEnd) := goodIn_app (goodIn_of _ (by decide +kernel)) ggX0_takeByte_X0_isBeforeEnd
set_option maxRecDepth 20000 in
theorem ggX0_takeByte_X0_slotOf : GoodIn wsX0_takeByte wsX0_slotOf := goodIn_r _ [22] (by decide +kernel) (by decide +kernel)
set_option maxRecDepth 20000 in
theorem gX0_takeByte_X0_slotOf : GoodIn wsX0_takeByte (va_wsS RX0 49 yX0_slotOf wsX0_slotOf) := goodIn_app (goodIn_of _ (by decide +kernel)) ggX0_takeByte_X0_slotOf
theorem dX0_takeByte_0 : decode cX0_takeByte 0 = .ok (.iload_n 1, 1) := by decide +kernel
theorem dX0_takeByte_1 : decode cX0_takeByte 1 = .ok (.aload_n 0, 1) := by decide +kernel
theorem dX0_takeByte_2 : decode cX0_takeByte 2 = .ok (.getfield 17, 3) := by decide +kernel
theorem dX0_takeByte_5 : decode cX0_takeByte 5 = .ok (.isub, 1) := by decide +kernel
theorem dX0_takeByte_6 : decode cX0_takeByte 6 = .ok (.istore_n 3, 1) := by decide +kernel
theorem dX0_takeByte_7 : decode cX0_takeByte 7 = .ok (.iload_n 3, 1) := by decide +kernel
theorem dX0_takeByte_8 : decode cX0_takeByte 8 = .ok (.ifCond .lt 49, 3) := by decide +kernel
theorem dX0_takeByte_11 : decode cX0_takeByte 11 = .ok (.iload_n 3, 1) := by decide +kernel
theorem dX0_takeByte_12 : decode cX0_takeByte 12 = .ok (.aload_n 0, 1) := by decide +kernel
theorem dX0_takeByte_13 : decode cX0_takeByte 13 = .ok (.invokevirtual 42, 3) := by decide +kernel
theorem dX0_takeByte_16 : decode cX0_takeByte 16 = .ok (.if_icmp .ge 41, 3) := by decide +kernel
theorem dX0_takeByte_19 : decode cX0_takeByte 19 = .ok (.aload_n 0, 1) := by decide +kernel
theorem dX0_takeByte_20 : decode cX0_takeByte 20 = .ok (.iload_n 3, 1) := by decide +kernel
theorem dX0_takeByte_21 : decode cX0_takeByte 21 = .ok (.invokevirtual 72, 3) := by decide +kernel
theorem dX0_takeByte_24 : decode cX0_takeByte 24 = .ok (.ifCond .ne 33, 3) := by decide +kernel
theorem dX0_takeByte_27 : decode cX0_takeByte 27 = .ok (.aload_n 0, 1) := by decide +kernel
theorem dX0_takeByte_28 : decode cX0_takeByte 28 = .ok (.iload_n 3, 1) := by decide +kernel
theorem dX0_takeByte_29 : decode cX0_takeByte 29 = .ok (.invokevirtual 75, 3) := by decide +kernel
theorem dX0_takeByte_32 : decode cX0_takeByte 32 = .ok (.ifCond .eq 25, 3) := by decide +kernel
theorem dX0_takeByte_35 : decode cX0_takeByte 35 = .ok (.aload_n 0, 1) := by decide +kernel
theorem dX0_takeByte_36 : decode cX0_takeByte 36 = .ok (.getfield 9, 3) := by decide +kernel
theorem dX0_takeByte_39 : decode cX0_takeByte 39 = .ok (.iload_n 1, 1) := by decide +kernel
theorem dX0_takeByte_40 : decode cX0_takeByte 40 = .ok (.invokestatic 49, 3) := by decide +kernel
theorem dX0_takeByte_43 : decode cX0_takeByte 43 = .ok (.iload_n 2, 1) := by decide +kernel
theorem dX0_takeByte_44 : decode cX0_takeByte 44 = .ok (.bastore, 1) := by decide +kernel
theorem dX0_takeByte_45 : decode cX0_takeByte 45 = .ok (.aload_n 0, 1) := by decide +kernel
theorem dX0_takeByte_46 : decode cX0_takeByte 46 = .ok (.dup, 1) := by decide +kernel
theorem dX0_takeByte_47 : decode cX0_takeByte 47 = .ok (.getfield 13, 3) := by decide +kernel
theorem dX0_takeByte_50 : decode cX0_takeByte 50 = .ok (.lconst 1, 1) := by decide +kernel
theorem dX0_takeByte_51 : decode cX0_takeByte 51 = .ok (.iload_n 3, 1) := by decide +kernel
theorem dX0_takeByte_52 : decode cX0_takeByte 52 = .ok (.lshl, 1) := by decide +kernel
theorem dX0_takeByte_53 : decode cX0_takeByte 53 = .ok (.lor, 1) := by decide +kernel
theorem dX0_takeByte_54 : decode cX0_takeByte 54 = .ok (.putfield 13, 3) := by decide +kernel
theorem dX0_takeByte_57 : decode cX0_takeByte 57 = .ok (.return_, 1) := by decide +kernel
theorem dX0_isBeforeEnd_0 : decode cX0_isBeforeEnd 0 = .ok (.aload_n 0, 1) := by decide +kernel
theorem dX0_isBeforeEnd_1 : decode cX0_isBeforeEnd 1 = .ok (.getfield 24, 3) := by decide +kernel
theorem dX0_isBeforeEnd_4 : decode cX0_isBeforeEnd 4 = .ok (.ifCond .eq 16, 3) := by decide +kernel
theorem dX0_isBeforeEnd_7 : decode cX0_isBeforeEnd 7 = .ok (.iload_n 1, 1) := by decide +kernel
theorem dX0_isBeforeEnd_8 : decode cX0_isBeforeEnd 8 = .ok (.aload_n 0, 1) := by decide +kernel
theorem dX0_isBeforeEnd_9 : decode cX0_isBeforeEnd 9 = .ok (.getfield 28, 3) := by decide +kernel
theorem dX0_isBeforeEnd_12 : decode cX0_isBeforeEnd 12 = .ok (.aload_n 0, 1) := by decide +kernel
theorem dX0_isBeforeEnd_13 : decode cX0_isBeforeEnd 13 = .ok (.getfield 17, 3) := by decide +kernel
theorem dX0_isBeforeEnd_16 : decode cX0_isBeforeEnd 16 = .ok (.isub, 1) := by decide +kernel
theorem dX0_isBeforeEnd_17 : decode cX0_isBeforeEnd 17 = .ok (.if_icmp .ge 7, 3) := by decide +kernel
theorem dX0_isBeforeEnd_20 : decode cX0_isBeforeEnd 20 = .ok (.iconst 1, 1) := by decide +kernel
theorem dX0_isBeforeEnd_21 : decode cX0_isBeforeEnd 21 = .ok (.goto 4, 3) := by decide +kernel
theorem dX0_isBeforeEnd_24 : decode cX0_isBeforeEnd 24 = .ok (.iconst 0, 1) := by decide +kernel
theorem dX0_isBeforeEnd_25 : decode cX0_isBeforeEnd 25 = .ok (.ireturn, 1) := by decide +kernel
theorem dX0_moveOn_0 : decode cX0_moveOn 0 = .ok (.iconst 0, 1) := by decide +kernel
theorem dX0_moveOn_1 : decode cX0_moveOn 1 = .ok (.istore_n 1, 1) := by decide +kernel
theorem dX0_moveOn_2 : decode cX0_moveOn 2 = .ok (.iload_n 1, 1) := by decide +kernel
theorem dX0_moveOn_3 : decode cX0_moveOn 3 = .ok (.bipush 64, 2) := by decide +kernel
theorem dX0_moveOn_5 : decode cX0_moveOn 5 = .ok (.if_icmp .ge 50, 3) := by decide +kernel
theorem dX0_moveOn_8 : decode cX0_moveOn 8 = .ok (.aload_n 0, 1) := by decide +kernel
theorem dX0_moveOn_9 : decode cX0_moveOn 9 = .ok (.getfield 13, 3) := by decide +kernel
theorem dX0_moveOn_12 : decode cX0_moveOn 12 = .ok (.lconst 1, 1) := by decide +kernel
theorem dX0_moveOn_13 : decode cX0_moveOn 13 = .ok (.land, 1) := by decide +kernel
theorem dX0_moveOn_14 : decode cX0_moveOn 14 = .ok (.lconst 0, 1) := by decide +kernel
theorem dX0_moveOn_15 : decode cX0_moveOn 15 = .ok (.lcmp, 1) := by decide +kernel
theorem dX0_moveOn_16 : decode cX0_moveOn 16 = .ok (.ifCond .eq 39, 3) := by decide +kernel
theorem dX0_moveOn_19 : decode cX0_moveOn 19 = .ok (.aload_n 0, 1) := by decide +kernel
theorem dX0_moveOn_20 : decode cX0_moveOn 20 = .ok (.dup, 1) := by decide +kernel
theorem dX0_moveOn_21 : decode cX0_moveOn 21 = .ok (.getfield 13, 3) := by decide +kernel
theorem dX0_moveOn_24 : decode cX0_moveOn 24 = .ok (.iconst 1, 1) := by decide +kernel
theorem dX0_moveOn_25 : decode cX0_moveOn 25 = .ok (.lushr, 1) := by decide +kernel
theorem dX0_moveOn_26 : decode cX0_moveOn 26 = .ok (.putfield 13, 3) := by decide +kernel
theorem dX0_moveOn_29 : decode cX0_moveOn 29 = .ok (.aload_n 0, 1) := by decide +kernel
theorem dX0_moveOn_30 : decode cX0_moveOn 30 = .ok (.dup, 1) := by decide +kernel
theorem dX0_moveOn_31 : decode cX0_moveOn 31 = .ok (.getfield 17, 3) := by decide +kernel
theorem dX0_moveOn_34 : decode cX0_moveOn 34 = .ok (.iconst 1, 1) := by decide +kernel
theorem dX0_moveOn_35 : decode cX0_moveOn 35 = .ok (.iadd, 1) := by decide +kernel
theorem dX0_moveOn_36 : decode cX0_moveOn 36 = .ok (.putfield 17, 3) := by decide +kernel
theorem dX0_moveOn_39 : decode cX0_moveOn 39 = .ok (.aload_n 0, 1) := by decide +kernel
theorem dX0_moveOn_40 : decode cX0_moveOn 40 = .ok (.dup, 1) := by decide +kernel
theorem dX0_moveOn_41 : decode cX0_moveOn 41 = .ok (.getfield 21, 3) := by decide +kernel
theorem dX0_moveOn_44 : decode cX0_moveOn 44 = .ok (.iconst 1, 1) := by decide +kernel
theorem dX0_moveOn_45 : decode cX0_moveOn 45 = .ok (.iadd, 1) := by decide +kernel
theorem dX0_moveOn_46 : decode cX0_moveOn 46 = .ok (.putfield 21, 3) := by decide +kernel
theorem dX0_moveOn_49 : decode cX0_moveOn 49 = .ok (.iinc 1 1, 3) := by decide +kernel
theorem dX0_moveOn_52 : decode cX0_moveOn 52 = .ok (.goto (-50), 3) := by decide +kernel
theorem dX0_moveOn_55 : decode cX0_moveOn 55 = .ok (.iload_n 1, 1) := by decide +kernel
theorem dX0_moveOn_56 : decode cX0_moveOn 56 = .ok (.ireturn, 1) := by decide +kernel
theorem dX0_isHeldAhead_0 : decode cX0_isHeldAhead 0 = .ok (.iload_n 1, 1) := by decide +kernel
theorem dX0_isHeldAhead_1 : decode cX0_isHeldAhead 1 = .ok (.ifCond .lt 26, 3) := by decide +kernel
theorem dX0_isHeldAhead_4 : decode cX0_isHeldAhead 4 = .ok (.iload_n 1, 1) := by decide +kernel
theorem dX0_isHeldAhead_5 : decode cX0_isHeldAhead 5 = .ok (.bipush 64, 2) := by decide +kernel
theorem dX0_isHeldAhead_7 : decode cX0_isHeldAhead 7 = .ok (.if_icmp .ge 20, 3) := by decide +kernel
theorem dX0_isHeldAhead_10 : decode cX0_isHeldAhead 10 = .ok (.aload_n 0, 1) := by decide +kernel
theorem dX0_isHeldAhead_11 : decode cX0_isHeldAhead 11 = .ok (.getfield 13, 3) := by decide +kernel
theorem dX0_isHeldAhead_14 : decode cX0_isHeldAhead 14 = .ok (.iload_n 1, 1) := by decide +kernel
theorem dX0_isHeldAhead_15 : decode cX0_isHeldAhead 15 = .ok (.lushr, 1) := by decide +kernel
theorem dX0_isHeldAhead_16 : decode cX0_isHeldAhead 16 = .ok (.lconst 1, 1) := by decide +kernel
theorem dX0_isHeldAhead_17 : decode cX0_isHeldAhead 17 = .ok (.land, 1) := by decide +kernel
theorem dX0_isHeldAhead_18 : decode cX0_isHeldAhead 18 = .ok (.lconst 0, 1) := by decide +kernel
theorem dX0_isHeldAhead_19 : decode cX0_isHeldAhead 19 = .ok (.lcmp, 1) := by decide +kernel
theorem dX0_isHeldAhead_20 : decode cX0_isHeldAhead 20 = .ok (.ifCond .eq 7, 3) := by decide +kernel
theorem dX0_isHeldAhead_23 : decode cX0_isHeldAhead 23 = .ok (.iconst 1, 1) := by decide +kernel
theorem dX0_isHeldAhead_24 : decode cX0_isHeldAhead 24 = .ok (.goto 4, 3) := by decide +kernel
theorem dX0_isHeldAhead_27 : decode cX0_isHeldAhead 27 = .ok (.iconst 0, 1) := by decide +kernel
theorem dX0_isHeldAhead_28 : decode cX0_isHeldAhead 28 = .ok (.ireturn, 1) := by decide +kernel
theorem dX0_isHeldFrom_0 : decode cX0_isHeldFrom 0 = .ok (.iload_n 1, 1) := by decide +kernel
theorem dX0_isHeldFrom_1 : decode cX0_isHeldFrom 1 = .ok (.ifCond .lt 24, 3) := by decide +kernel
theorem dX0_isHeldFrom_4 : decode cX0_isHeldFrom 4 = .ok (.iload_n 1, 1) := by decide +kernel
theorem dX0_isHeldFrom_5 : decode cX0_isHeldFrom 5 = .ok (.bipush 64, 2) := by decide +kernel
theorem dX0_isHeldFrom_7 : decode cX0_isHeldFrom 7 = .ok (.if_icmp .ge 18, 3) := by decide +kernel
theorem dX0_isHeldFrom_10 : decode cX0_isHeldFrom 10 = .ok (.aload_n 0, 1) := by decide +kernel
theorem dX0_isHeldFrom_11 : decode cX0_isHeldFrom 11 = .ok (.getfield 13, 3) := by decide +kernel
theorem dX0_isHeldFrom_14 : decode cX0_isHeldFrom 14 = .ok (.iload_n 1, 1) := by decide +kernel
theorem dX0_isHeldFrom_15 : decode cX0_isHeldFrom 15 = .ok (.lushr, 1) := by decide +kernel
theorem dX0_isHeldFrom_16 : decode cX0_isHeldFrom 16 = .ok (.lconst 0, 1) := by decide +kernel
theorem dX0_isHeldFrom_17 : decode cX0_isHeldFrom 17 = .ok (.lcmp, 1) := by decide +kernel
theorem dX0_isHeldFrom_18 : decode cX0_isHeldFrom 18 = .ok (.ifCond .eq 7, 3) := by decide +kernel
theorem dX0_isHeldFrom_21 : decode cX0_isHeldFrom 21 = .ok (.iconst 1, 1) := by decide +kernel
theorem dX0_isHeldFrom_22 : decode cX0_isHeldFrom 22 = .ok (.goto 4, 3) := by decide +kernel
theorem dX0_isHeldFrom_25 : decode cX0_isHeldFrom 25 = .ok (.iconst 0, 1) := by decide +kernel
theorem dX0_isHeldFrom_26 : decode cX0_isHeldFrom 26 = .ok (.ireturn, 1) := by decide +kernel
theorem dX0_blockStarts_0 : decode cX0_blockStarts 0 = .ok (.aload_n 0, 1) := by decide +kernel
theorem dX0_blockStarts_1 : decode cX0_blockStarts 1 = .ok (.getfield 13, 3) := by decide +kernel
theorem dX0_blockStarts_4 : decode cX0_blockStarts 4 = .ok (.aload_n 0, 1) := by decide +kernel
theorem dX0_blockStarts_5 : decode cX0_blockStarts 5 = .ok (.getfield 13, 3) := by decide +kernel
theorem dX0_blockStarts_8 : decode cX0_blockStarts 8 = .ok (.iconst 1, 1) := by decide +kernel
theorem dX0_blockStarts_9 : decode cX0_blockStarts 9 = .ok (.lshl, 1) := by decide +kernel
theorem dX0_blockStarts_10 : decode cX0_blockStarts 10 = .ok (.ldc2_w 78, 3) := by decide +kernel
theorem dX0_blockStarts_13 : decode cX0_blockStarts 13 = .ok (.lxor, 1) := by decide +kernel
theorem dX0_blockStarts_14 : decode cX0_blockStarts 14 = .ok (.land, 1) := by decide +kernel
theorem dX0_blockStarts_15 : decode cX0_blockStarts 15 = .ok (.lreturn, 1) := by decide +kernel
set_option maxRecDepth 20000 in
theorem ggX0_startOfBlock_X0_blockStarts : GoodIn wsX0_startOfBlock wsX0_blockStarts := goodIn_r _ [5, 6, 7, 8, 9, 10, 11, 12, 13] (by decide +kernel) (by decide +kernel)
set_option maxRecDepth 20000 in
theorem gX0_startOfBlock_X0_blockStarts : GoodIn wsX0_startOfBlock (wsV RX0 59 RX0 yX0_blockStarts wsX0_blockStarts) := goodIn_app (goodIn_of _ (by decide +kernel)) ggX0_startOfBlock_X0_blockStarts
theorem dX0_startOfBlock_0 : decode cX0_startOfBlock 0 = .ok (.aload_n 0, 1) := by decide +kernel
theorem dX0_startOfBlock_1 : decode cX0_startOfBlock 1 = .ok (.invokevirtual 59, 3) := by decide +kernel
theorem dX0_startOfBlock_4 : decode cX0_startOfBlock 4 = .ok (.lstore_n 2, 1) := by decide +kernel
theorem dX0_startOfBlock_5 : decode cX0_startOfBlock 5 = .ok (.iconst 0, 1) := by decide +kernel
theorem dX0_startOfBlock_6 : decode cX0_startOfBlock 6 = .ok (.istore 4, 2) := by decide +kernel
theorem dX0_startOfBlock_8 : decode cX0_startOfBlock 8 = .ok (.iconst 0, 1) := by decide +kernel
theorem dX0_startOfBlock_9 : decode cX0_startOfBlock 9 = .ok (.istore 5, 2) := by decide +kernel
theorem dX0_startOfBlock_11 : decode cX0_startOfBlock 11 = .ok (.iload 5, 2) := by decide +kernel
theorem dX0_startOfBlock_13 : decode cX0_startOfBlock 13 = .ok (.bipush 64, 2) := by decide +kernel
theorem dX0_startOfBlock_15 : decode cX0_startOfBlock 15 = .ok (.if_icmp .ge 32, 3) := by decide +kernel
theorem dX0_startOfBlock_18 : decode cX0_startOfBlock 18 = .ok (.lload_n 2, 1) := by decide +kernel
theorem dX0_startOfBlock_19 : decode cX0_startOfBlock 19 = .ok (.iload 5, 2) := by decide +kernel
theorem dX0_startOfBlock_21 : decode cX0_startOfBlock 21 = .ok (.lushr, 1) := by decide +kernel
theorem dX0_startOfBlock_22 : decode cX0_startOfBlock 22 = .ok (.lconst 1, 1) := by decide +kernel
theorem dX0_startOfBlock_23 : decode cX0_startOfBlock 23 = .ok (.land, 1) := by decide +kernel
theorem dX0_startOfBlock_24 : decode cX0_startOfBlock 24 = .ok (.lconst 0, 1) := by decide +kernel
theorem dX0_startOfBlock_25 : decode cX0_startOfBlock 25 = .ok (.lcmp, 1) := by decide +kernel
theorem dX0_startOfBlock_26 : decode cX0_startOfBlock 26 = .ok (.ifCond .eq 15, 3) := by decide +kernel
theorem dX0_startOfBlock_29 : decode cX0_startOfBlock 29 = .ok (.iload 4, 2) := by decide +kernel
theorem dX0_startOfBlock_31 : decode cX0_startOfBlock 31 = .ok (.iload_n 1, 1) := by decide +kernel
theorem dX0_startOfBlock_32 : decode cX0_startOfBlock 32 = .ok (.if_icmp .ne 6, 3) := by decide +kernel
theorem dX0_startOfBlock_35 : decode cX0_startOfBlock 35 = .ok (.iload 5, 2) := by decide +kernel
theorem dX0_startOfBlock_37 : decode cX0_startOfBlock 37 = .ok (.ireturn, 1) := by decide +kernel
theorem dX0_startOfBlock_38 : decode cX0_startOfBlock 38 = .ok (.iinc 4 1, 3) := by decide +kernel
theorem dX0_startOfBlock_41 : decode cX0_startOfBlock 41 = .ok (.iinc 5 1, 3) := by decide +kernel
theorem dX0_startOfBlock_44 : decode cX0_startOfBlock 44 = .ok (.goto (-33), 3) := by decide +kernel
theorem dX0_startOfBlock_47 : decode cX0_startOfBlock 47 = .ok (.bipush 64, 2) := by decide +kernel
theorem dX0_startOfBlock_49 : decode cX0_startOfBlock 49 = .ok (.ireturn, 1) := by decide +kernel
set_option maxRecDepth 20000 in
theorem ggX0_lengthOfBlock_X0_isHeldAhead : GoodIn wsX0_lengthOfBlock wsX0_isHeldAhead := goodIn_r _ [5, 6, 7, 8, 9, 10, 11, 12] (by decide +kernel) (by decide +kernel)
set_option maxRecDepth 20000 in
theorem gX0_lengthOfBlock_X0_isHeldAhead : GoodIn wsX0_lengthOfBlock (wsV RX0 72 RX0 yX0_isHeldAhead wsX0_isHeldAhead) := goodIn_app (goodIn_of _ (by decide +kernel)) ggX0_lengthOfBlock_X0_isHeldAhead
theorem dX0_lengthOfBlock_0 : decode cX0_lengthOfBlock 0 = .ok (.iconst 0, 1) := by decide +kernel
theorem dX0_lengthOfBlock_1 : decode cX0_lengthOfBlock 1 = .ok (.istore_n 2, 1) := by decide +kernel
theorem dX0_lengthOfBlock_2 : decode cX0_lengthOfBlock 2 = .ok (.iload_n 2, 1) := by decide +kernel
theorem dX0_lengthOfBlock_3 : decode cX0_lengthOfBlock 3 = .ok (.bipush 64, 2) := by decide +kernel
theorem dX0_lengthOfBlock_5 : decode cX0_lengthOfBlock 5 = .ok (.if_icmp .ge 19, 3) := by decide +kernel
theorem dX0_lengthOfBlock_8 : decode cX0_lengthOfBlock 8 = .ok (.aload_n 0, 1) := by decide +kernel
theorem dX0_lengthOfBlock_9 : decode cX0_lengthOfBlock 9 = .ok (.iload_n 1, 1) := by decide +kernel
theorem dX0_lengthOfBlock_10 : decode cX0_lengthOfBlock 10 = .ok (.iload_n 2, 1) := by decide +kernel
theorem dX0_lengthOfBlock_11 : decode cX0_lengthOfBlock 11 = .ok (.iadd, 1) := by decide +kernel
theorem dX0_lengthOfBlock_12 : decode cX0_lengthOfBlock 12 = .ok (.invokevirtual 72, 3) := by decide +kernel
theorem dX0_lengthOfBlock_15 : decode cX0_lengthOfBlock 15 = .ok (.ifCond .eq 9, 3) := by decide +kernel
theorem dX0_lengthOfBlock_18 : decode cX0_lengthOfBlock 18 = .ok (.iinc 2 1, 3) := by decide +kernel
theorem dX0_lengthOfBlock_21 : decode cX0_lengthOfBlock 21 = .ok (.goto (-19), 3) := by decide +kernel
theorem dX0_lengthOfBlock_24 : decode cX0_lengthOfBlock 24 = .ok (.iload_n 2, 1) := by decide +kernel
theorem dX0_lengthOfBlock_25 : decode cX0_lengthOfBlock 25 = .ok (.ireturn, 1) := by decide +kernel
theorem dX1_init_0 : decode cX1_init 0 = .ok (.aload_n 0, 1) := by decide +kernel
theorem dX1_init_1 : decode cX1_init 1 = .ok (.invokespecial 1, 3) := by decide +kernel
theorem dX1_init_4 : decode cX1_init 4 = .ok (.aload_n 0, 1) := by decide +kernel
theorem dX1_init_5 : decode cX1_init 5 = .ok (.bipush 64, 2) := by decide +kernel
theorem dX1_init_7 : decode cX1_init 7 = .ok (.newarray .int, 2) := by decide +kernel
theorem dX1_init_9 : decode cX1_init 9 = .ok (.putfield 9, 3) := by decide +kernel
theorem dX1_init_12 : decode cX1_init 12 = .ok (.aload_n 0, 1) := by decide +kernel
theorem dX1_init_13 : decode cX1_init 13 = .ok (.bipush 64, 2) := by decide +kernel
theorem dX1_init_15 : decode cX1_init 15 = .ok (.newarray .int, 2) := by decide +kernel
theorem dX1_init_17 : decode cX1_init 17 = .ok (.putfield 13, 3) := by decide +kernel
theorem dX1_init_20 : decode cX1_init 20 = .ok (.aload_n 0, 1) := by decide +kernel
theorem dX1_init_21 : decode cX1_init 21 = .ok (.bipush 64, 2) := by decide +kernel
theorem dX1_init_23 : decode cX1_init 23 = .ok (.newarray .boolean, 2) := by decide +kernel
theorem dX1_init_25 : decode cX1_init 25 = .ok (.putfield 16, 3) := by decide +kernel
theorem dX1_init_28 : decode cX1_init 28 = .ok (.return_, 1) := by decide +kernel
theorem dX1_thrown_0 : decode cX1_thrown 0 = .ok (.aload_n 0, 1) := by decide +kernel
theorem dX1_thrown_1 : decode cX1_thrown 1 = .ok (.getfield 20, 3) := by decide +kernel
theorem dX1_thrown_4 : decode cX1_thrown 4 = .ok (.ireturn, 1) := by decide +kernel
theorem dX1_open_0 : decode cX1_open 0 = .ok (.aload_n 0, 1) := by decide +kernel
theorem dX1_open_1 : decode cX1_open 1 = .ok (.iconst 0, 1) := by decide +kernel
theorem dX1_open_2 : decode cX1_open 2 = .ok (.putfield 20, 3) := by decide +kernel
theorem dX1_open_5 : decode cX1_open 5 = .ok (.aload_n 0, 1) := by decide +kernel
theorem dX1_open_6 : decode cX1_open 6 = .ok (.iload_n 1, 1) := by decide +kernel
theorem dX1_open_7 : decode cX1_open 7 = .ok (.putfield 24, 3) := by decide +kernel
theorem dX1_open_10 : decode cX1_open 10 = .ok (.aload_n 0, 1) := by decide +kernel
theorem dX1_open_11 : decode cX1_open 11 = .ok (.iconst 0, 1) := by decide +kernel
theorem dX1_open_12 : decode cX1_open 12 = .ok (.putfield 27, 3) := by decide +kernel
theorem dX1_open_15 : decode cX1_open 15 = .ok (.aload_n 0, 1) := by decide +kernel
theorem dX1_open_16 : decode cX1_open 16 = .ok (.iconst 0, 1) := by decide +kernel
theorem dX1_open_17 : decode cX1_open 17 = .ok (.putfield 30, 3) := by decide +kernel
theorem dX1_open_20 : decode cX1_open 20 = .ok (.iconst 0, 1) := by decide +kernel
theorem dX1_open_21 : decode cX1_open 21 = .ok (.istore_n 2, 1) := by decide +kernel
theorem dX1_open_22 : decode cX1_open 22 = .ok (.iload_n 2, 1) := by decide +kernel
theorem dX1_open_23 : decode cX1_open 23 = .ok (.bipush 64, 2) := by decide +kernel
theorem dX1_open_25 : decode cX1_open 25 = .ok (.if_icmp .ge 16, 3) := by decide +kernel
theorem dX1_open_28 : decode cX1_open 28 = .ok (.aload_n 0, 1) := by decide +kernel
theorem dX1_open_29 : decode cX1_open 29 = .ok (.getfield 16, 3) := by decide +kernel
theorem dX1_open_32 : decode cX1_open 32 = .ok (.iload_n 2, 1) := by decide +kernel
theorem dX1_open_33 : decode cX1_open 33 = .ok (.iconst 0, 1) := by decide +kernel
theorem dX1_open_34 : decode cX1_open 34 = .ok (.bastore, 1) := by decide +kernel
theorem dX1_open_35 : decode cX1_open 35 = .ok (.iinc 2 1, 3) := by decide +kernel
theorem dX1_open_38 : decode cX1_open 38 = .ok (.goto (-16), 3) := by decide +kernel
theorem dX1_open_41 : decode cX1_open 41 = .ok (.return_, 1) := by decide +kernel
theorem dJ13_bitCount_95d88_0 : decode cJ13_bitCount_95d88 0 = .ok (.lload_n 0, 1) := by decide +kernel
theorem dJ13_bitCount_95d88_1 : decode cJ13_bitCount_95d88 1 = .ok (.lload_n 0, 1) := by decide +kernel
theorem dJ13_bitCount_95d88_2 : decode cJ13_bitCount_95d88 2 = .ok (.iconst 1, 1) := by decide +kernel
theorem dJ13_bitCount_95d88_3 : decode cJ13_bitCount_95d88 3 = .ok (.lushr, 1) := by decide +kernel
theorem dJ13_bitCount_95d88_4 : decode cJ13_bitCount_95d88 4 = .ok (.ldc2_w 314, 3) := by decide +kernel
theorem dJ13_bitCount_95d88_7 : decode cJ13_bitCount_95d88 7 = .ok (.land, 1) := by decide +kernel
theorem dJ13_bitCount_95d88_8 : decode cJ13_bitCount_95d88 8 = .ok (.lsub, 1) := by decide +kernel
theorem dJ13_bitCount_95d88_9 : decode cJ13_bitCount_95d88 9 = .ok (.lstore_n 0, 1) := by decide +kernel
theorem dJ13_bitCount_95d88_10 : decode cJ13_bitCount_95d88 10 = .ok (.lload_n 0, 1) := by decide +kernel
theorem dJ13_bitCount_95d88_11 : decode cJ13_bitCount_95d88 11 = .ok (.ldc2_w 316, 3) := by decide +kernel
theorem dJ13_bitCount_95d88_14 : decode cJ13_bitCount_95d88 14 = .ok (.land, 1) := by decide +kernel
theorem dJ13_bitCount_95d88_15 : decode cJ13_bitCount_95d88 15 = .ok (.lload_n 0, 1) := by decide +kernel
theorem dJ13_bitCount_95d88_16 : decode cJ13_bitCount_95d88 16 = .ok (.iconst 2, 1) := by decide +kernel
theorem dJ13_bitCount_95d88_17 : decode cJ13_bitCount_95d88 17 = .ok (.lushr, 1) := by decide +kernel
theorem dJ13_bitCount_95d88_18 : decode cJ13_bitCount_95d88 18 = .ok (.ldc2_w 316, 3) := by decide +kernel
theorem dJ13_bitCount_95d88_21 : decode cJ13_bitCount_95d88 21 = .ok (.land, 1) := by decide +kernel
theorem dJ13_bitCount_95d88_22 : decode cJ13_bitCount_95d88 22 = .ok (.ladd, 1) := by decide +kernel
theorem dJ13_bitCount_95d88_23 : decode cJ13_bitCount_95d88 23 = .ok (.lstore_n 0, 1) := by decide +kernel
theorem dJ13_bitCount_95d88_24 : decode cJ13_bitCount_95d88 24 = .ok (.lload_n 0, 1) := by decide +kernel
theorem dJ13_bitCount_95d88_25 : decode cJ13_bitCount_95d88 25 = .ok (.lload_n 0, 1) := by decide +kernel
theorem dJ13_bitCount_95d88_26 : decode cJ13_bitCount_95d88 26 = .ok (.iconst 4, 1) := by decide +kernel
theorem dJ13_bitCount_95d88_27 : decode cJ13_bitCount_95d88 27 = .ok (.lushr, 1) := by decide +kernel
theorem dJ13_bitCount_95d88_28 : decode cJ13_bitCount_95d88 28 = .ok (.ladd, 1) := by decide +kernel
theorem dJ13_bitCount_95d88_29 : decode cJ13_bitCount_95d88 29 = .ok (.ldc2_w 318, 3) := by decide +kernel
theorem dJ13_bitCount_95d88_32 : decode cJ13_bitCount_95d88 32 = .ok (.land, 1) := by decide +kernel
theorem dJ13_bitCount_95d88_33 : decode cJ13_bitCount_95d88 33 = .ok (.lstore_n 0, 1) := by decide +kernel
theorem dJ13_bitCount_95d88_34 : decode cJ13_bitCount_95d88 34 = .ok (.lload_n 0, 1) := by decide +kernel
theorem dJ13_bitCount_95d88_35 : decode cJ13_bitCount_95d88 35 = .ok (.lload_n 0, 1) := by decide +kernel
theorem dJ13_bitCount_95d88_36 : decode cJ13_bitCount_95d88 36 = .ok (.bipush 8, 2) := by decide +kernel
theorem dJ13_bitCount_95d88_38 : decode cJ13_bitCount_95d88 38 = .ok (.lushr, 1) := by decide +kernel
theorem dJ13_bitCount_95d88_39 : decode cJ13_bitCount_95d88 39 = .ok (.ladd, 1) := by decide +kernel
theorem dJ13_bitCount_95d88_40 : decode cJ13_bitCount_95d88 40 = .ok (.lstore_n 0, 1) := by decide +kernel
theorem dJ13_bitCount_95d88_41 : decode cJ13_bitCount_95d88 41 = .ok (.lload_n 0, 1) := by decide +kernel
theorem dJ13_bitCount_95d88_42 : decode cJ13_bitCount_95d88 42 = .ok (.lload_n 0, 1) := by decide +kernel
theorem dJ13_bitCount_95d88_43 : decode cJ13_bitCount_95d88 43 = .ok (.bipush 16, 2) := by decide +kernel
theorem dJ13_bitCount_95d88_45 : decode cJ13_bitCount_95d88 45 = .ok (.lushr, 1) := by decide +kernel
theorem dJ13_bitCount_95d88_46 : decode cJ13_bitCount_95d88 46 = .ok (.ladd, 1) := by decide +kernel
theorem dJ13_bitCount_95d88_47 : decode cJ13_bitCount_95d88 47 = .ok (.lstore_n 0, 1) := by decide +kernel
theorem dJ13_bitCount_95d88_48 : decode cJ13_bitCount_95d88 48 = .ok (.lload_n 0, 1) := by decide +kernel
theorem dJ13_bitCount_95d88_49 : decode cJ13_bitCount_95d88 49 = .ok (.lload_n 0, 1) := by decide +kernel
theorem dJ13_bitCount_95d88_50 : decode cJ13_bitCount_95d88 50 = .ok (.bipush 32, 2) := by decide +kernel
theorem dJ13_bitCount_95d88_52 : decode cJ13_bitCount_95d88 52 = .ok (.lushr, 1) := by decide +kernel
theorem dJ13_bitCount_95d88_53 : decode cJ13_bitCount_95d88 53 = .ok (.ladd, 1) := by decide +kernel
theorem dJ13_bitCount_95d88_54 : decode cJ13_bitCount_95d88 54 = .ok (.lstore_n 0, 1) := by decide +kernel
theorem dJ13_bitCount_95d88_55 : decode cJ13_bitCount_95d88 55 = .ok (.lload_n 0, 1) := by decide +kernel
theorem dJ13_bitCount_95d88_56 : decode cJ13_bitCount_95d88 56 = .ok (.l2i, 1) := by decide +kernel
theorem dJ13_bitCount_95d88_57 : decode cJ13_bitCount_95d88 57 = .ok (.bipush 127, 2) := by decide +kernel
theorem dJ13_bitCount_95d88_59 : decode cJ13_bitCount_95d88 59 = .ok (.iand, 1) := by decide +kernel
theorem dJ13_bitCount_95d88_60 : decode cJ13_bitCount_95d88 60 = .ok (.ireturn, 1) := by decide +kernel
set_option maxRecDepth 20000 in
theorem ggL_segment_X0_segment : GoodIn wsL_segment wsX0_segment := goodIn_ca (goodIn_r _ [6, 7, 8, 9, 10, 11, 5, 12, 13, 14, 15, 16, 17, 18, 19, 20, 21, 22, 23, 24, 25, 26, 27, 28, 29, 30, 31, 32, 33, 34, 35, 36, 37, 38, 39, 40, 41, 42, 43] (by decide +kernel) (by decide +kernel)) (goodIn_sub (fun _ h => List.mem_cons_of_mem _ (List.mem_append_right _ h)) (by decide +kernel))
set_option maxRecDepth 20000 in
theorem gL_segment_X0_segment : GoodIn wsL_segment (wsV RL 7 RX0 yX0_segment wsX0_segment) := goodIn_app (goodIn_of _ (by decide +kernel)) ggL_segment_X0_segment
theorem dL_segment_0 : decode cL_segment 0 = .ok (.aload 5, 2) := by decide +kernel
theorem dL_segment_2 : decode cL_segment 2 = .ok (.iconst 0, 1) := by decide +kernel
theorem dL_segment_3 : decode cL_segment 3 = .ok (.aload_n 0, 1) := by decide +kernel
theorem dL_segment_4 : decode cL_segment 4 = .ok (.iload_n 1, 1) := by decide +kernel
theorem dL_segment_5 : decode cL_segment 5 = .ok (.lload_n 2, 1) := by decide +kernel
theorem dL_segment_6 : decode cL_segment 6 = .ok (.iload 4, 2) := by decide +kernel
theorem dL_segment_8 : decode cL_segment 8 = .ok (.invokevirtual 7, 3) := by decide +kernel
theorem dL_segment_11 : decode cL_segment 11 = .ok (.i2l, 1) := by decide +kernel
theorem dL_segment_12 : decode cL_segment 12 = .ok (.lastore, 1) := by decide +kernel
theorem dL_segment_13 : decode cL_segment 13 = .ok (.goto 7, 3) := by decide +kernel
theorem dL_segment_16 : decode cL_segment 16 = .ok (.astore 6, 2) := by decide +kernel
theorem dL_segment_18 : decode cL_segment 18 = .ok (.iconst 1, 1) := by decide +kernel
theorem dL_segment_19 : decode cL_segment 19 = .ok (.ireturn, 1) := by decide +kernel
theorem dL_segment_20 : decode cL_segment 20 = .ok (.iconst 0, 1) := by decide +kernel
theorem dL_segment_21 : decode cL_segment 21 = .ok (.ireturn, 1) := by decide +kernel
set_option maxRecDepth 20000 in
theorem ggL_told_X0_told : GoodIn wsL_told wsX0_told := goodIn_ca (goodIn_r _ [6, 7, 8, 9, 10, 11, 12, 13, 14, 15, 5, 16, 17, 18, 19, 20, 21, 22, 23, 24, 25, 26, 27, 28, 29, 30, 31, 32, 33, 34] (by decide +kernel) (by decide +kernel)) (goodIn_sub (fun _ h => List.mem_cons_of_mem _ (List.mem_append_right _ h)) (by decide +kernel))
set_option maxRecDepth 20000 in
theorem gL_told_X0_told : GoodIn wsL_told (wsV RL 15 RX0 yX0_told wsX0_told) := goodIn_app (goodIn_of _ (by decide +kernel)) ggL_told_X0_told
theorem dL_told_0 : decode cL_told 0 = .ok (.aload_n 2, 1) := by decide +kernel
theorem dL_told_1 : decode cL_told 1 = .ok (.iconst 0, 1) := by decide +kernel
theorem dL_told_2 : decode cL_told 2 = .ok (.aload_n 0, 1) := by decide +kernel
theorem dL_told_3 : decode cL_told 3 = .ok (.iload_n 1, 1) := by decide +kernel
theorem dL_told_4 : decode cL_told 4 = .ok (.invokevirtual 15, 3) := by decide +kernel
theorem dL_told_7 : decode cL_told 7 = .ok (.i2l, 1) := by decide +kernel
theorem dL_told_8 : decode cL_told 8 = .ok (.lastore, 1) := by decide +kernel
theorem dL_told_9 : decode cL_told 9 = .ok (.goto 6, 3) := by decide +kernel
theorem dL_told_12 : decode cL_told 12 = .ok (.astore_n 3, 1) := by decide +kernel
theorem dL_told_13 : decode cL_told 13 = .ok (.iconst 1, 1) := by decide +kernel
theorem dL_told_14 : decode cL_told 14 = .ok (.ireturn, 1) := by decide +kernel
theorem dL_told_15 : decode cL_told 15 = .ok (.iconst 0, 1) := by decide +kernel
theorem dL_told_16 : decode cL_told 16 = .ok (.ireturn, 1) := by decide +kernel
set_option maxRecDepth 20000 in
theorem ggL_block_X0_block : GoodIn wsL_block wsX0_block := goodIn_ca (goodIn_r _ [6, 7, 8, 9, 10, 11, 12, 5, 13, 14, 15, 16, 17, 18, 19, 20, 21, 22, 23, 24, 25, 26, 27, 28, 29, 30, 31, 32, 33, 34, 35, 36, 37, 38, 39, 40] (by decide +kernel) (by decide +kernel)) (goodIn_sub (fun _ h => List.mem_cons_of_mem _ (List.mem_append_right _ h)) (by decide +kernel))
set_option maxRecDepth 20000 in
theorem gL_block_X0_block : GoodIn wsL_block (wsV RL 19 RX0 yX0_block wsX0_block) := goodIn_app (goodIn_of _ (by decide +kernel)) ggL_block_X0_block
theorem dL_block_0 : decode cL_block 0 = .ok (.aload_n 3, 1) := by decide +kernel
theorem dL_block_1 : decode cL_block 1 = .ok (.iconst 0, 1) := by decide +kernel
theorem dL_block_2 : decode cL_block 2 = .ok (.aload_n 0, 1) := by decide +kernel
theorem dL_block_3 : decode cL_block 3 = .ok (.iload_n 1, 1) := by decide +kernel
theorem dL_block_4 : decode cL_block 4 = .ok (.iload_n 2, 1) := by decide +kernel
theorem dL_block_5 : decode cL_block 5 = .ok (.invokevirtual 19, 3) := by decide +kernel
theorem dL_block_8 : decode cL_block 8 = .ok (.i2l, 1) := by decide +kernel
theorem dL_block_9 : decode cL_block 9 = .ok (.lastore, 1) := by decide +kernel
theorem dL_block_10 : decode cL_block 10 = .ok (.goto 7, 3) := by decide +kernel
theorem dL_block_13 : decode cL_block 13 = .ok (.astore 4, 2) := by decide +kernel
theorem dL_block_15 : decode cL_block 15 = .ok (.iconst 1, 1) := by decide +kernel
theorem dL_block_16 : decode cL_block 16 = .ok (.ireturn, 1) := by decide +kernel
theorem dL_block_17 : decode cL_block 17 = .ok (.iconst 0, 1) := by decide +kernel
theorem dL_block_18 : decode cL_block 18 = .ok (.ireturn, 1) := by decide +kernel
set_option maxRecDepth 20000 in
theorem ggL_law_X0_init : GoodIn wsL_law wsX0_init := goodIn_r _ [8, 9, 10, 11, 12, 13, 14, 15, 16, 17, 18, 131, 132, 133, 134, 135, 136] (by decide +kernel) (by decide +kernel)
set_option maxRecDepth 20000 in
theorem gL_law_X0_init : GoodIn wsL_law (wsX0_init) := ggL_law_X0_init
set_option maxRecDepth 20000 in
theorem ggL_law_X1_init : GoodIn wsL_law wsX1_init := goodIn_r _ [21, 22, 10, 11, 23, 24, 25, 26, 27, 137, 138, 139, 140, 141, 142, 143, 144] (by decide +kernel) (by decide +kernel)
set_option maxRecDepth 20000 in
theorem gL_law_X1_init : GoodIn wsL_law (wsX1_init) := ggL_law_X1_init
set_option maxRecDepth 20000 in
theorem ggL_law_X0_open : GoodIn wsL_law wsX0_open := goodIn_r _ [31, 14, 15, 16, 17, 18, 131, 132, 133, 134, 135, 136] (by decide +kernel) (by decide +kernel)
set_option maxRecDepth 20000 in
theorem gL_law_X0_open : GoodIn wsL_law (wsV RL 29 RX0 yX0_open wsX0_open) := goodIn_app (goodIn_of _ (by decide +kernel)) ggL_law_X0_open
set_option maxRecDepth 20000 in
theorem ggL_law_X1_open : GoodIn wsL_law wsX1_open := goodIn_r _ [35, 36, 37, 38, 39, 27, 137, 138, 139, 140, 141, 142, 143, 144] (by decide +kernel) (by decide +kernel)
set_option maxRecDepth 20000 in
theorem gL_law_X1_open : GoodIn wsL_law (wsV RL 33 RX1 yX1_open wsX1_open) := goodIn_app (goodIn_of _ (by decide +kernel)) ggL_law_X1_open
set_option maxRecDepth 20000 in
theorem ggL_law_L_segment : GoodIn wsL_law wsL_segment := goodIn_ca (goodIn_r _ [43, 44, 45, 46, 47, 2, 48, 49, 50, 51, 52, 53, 54, 15, 13, 14, 55, 56, 57, 58, 16, 59, 60, 61, 62, 63, 64, 65, 66, 17, 18, 67, 68, 69, 70, 71, 72, 73, 131, 132, 133, 134, 135, 136] (by decide +kernel) (by decide +kernel)) (goodIn_sub (fun _ h => List.mem_append_left _ (List.mem_append_right _ h)) (by decide +kernel))
set_option maxRecDepth 20000 in
theorem gL_law_L_segment : GoodIn wsL_law (va_wsS RL 36 yL_segment wsL_segment) := goodIn_app (goodIn_of _ (by decide +kernel)) ggL_law_L_segment
set_option maxRecDepth 20000 in
theorem ggL_law_X1_thrown : GoodIn wsL_law wsX1_thrown := goodIn_r _ [77, 36, 137, 138, 139, 140, 141, 142, 143, 144] (by decide +kernel) (by decide +kernel)
set_option maxRecDepth 20000 in
theorem gL_law_X1_thrown : GoodIn wsL_law (wsV RL 42 RX1 yX1_thrown wsX1_thrown) := goodIn_app (goodIn_of _ (by decide +kernel)) ggL_law_X1_thrown
set_option maxRecDepth 20000 in
theorem ggL_law_X0_end : GoodIn wsL_law wsX0_end := goodIn_r _ [81, 15, 17, 18, 55, 56, 57, 2, 58, 16, 82, 83, 84, 85, 14, 131, 132, 133, 134, 135, 136] (by decide +kernel) (by decide +kernel)
set_option maxRecDepth 20000 in
theorem gL_law_X0_end : GoodIn wsL_law (wsV RL 46 RX0 yX0_end wsX0_end) := goodIn_app (goodIn_of _ (by decide +kernel)) ggL_law_X0_end
set_option maxRecDepth 20000 in
theorem ggL_law_X0_read : GoodIn wsL_law wsX0_read := goodIn_r _ [89, 16, 17, 15, 18, 13, 67, 68, 2, 69, 131, 132, 133, 134, 135, 136] (by decide +kernel) (by decide +kernel)
set_option maxRecDepth 20000 in
theorem gL_law_X0_read : GoodIn wsL_law (wsV RL 51 RX0 yX0_read wsX0_read) := goodIn_app (goodIn_of _ (by decide +kernel)) ggL_law_X0_read
set_option maxRecDepth 20000 in
theorem ggL_law_L_told : GoodIn wsL_law wsL_told := goodIn_ca (goodIn_r _ [92, 44, 93, 94, 95, 2, 96, 49, 50, 15, 16, 14, 17, 55, 56, 57, 58, 97, 98, 99, 100, 101, 102, 103, 104, 105, 106, 107, 108, 131, 132, 133, 134, 135, 136] (by decide +kernel) (by decide +kernel)) (goodIn_sub (fun _ h => List.mem_append_left _ (List.mem_append_right _ h)) (by decide +kernel))
set_option maxRecDepth 20000 in
theorem gL_law_L_told : GoodIn wsL_law (va_wsS RL 55 yL_told wsL_told) := goodIn_app (goodIn_of _ (by decide +kernel)) ggL_law_L_told
set_option maxRecDepth 20000 in
theorem ggL_law_L_block : GoodIn wsL_law wsL_block := goodIn_ca (goodIn_r _ [111, 112, 113, 114, 115, 2, 116, 117, 118, 15, 104, 105, 106, 107, 14, 108, 97, 98, 99, 100, 101, 102, 103, 119, 120, 121, 122, 123, 124, 125, 126, 59, 60, 61, 62, 131, 132, 133, 134, 135, 136] (by decide +kernel) (by decide +kernel)) (goodIn_sub (fun _ h => List.mem_append_right _ h) (by decide +kernel))
set_option maxRecDepth 20000 in
theorem gL_law_L_block : GoodIn wsL_law (va_wsS RL 59 yL_block wsL_block) := goodIn_app (goodIn_of _ (by decide +kernel)) ggL_law_L_block
set_option maxRecDepth 20000 in
theorem ggL_law_X0_held : GoodIn wsL_law wsX0_held := goodIn_r _ [130, 15, 59, 60, 61, 2, 62, 14, 131, 132, 133, 134, 135, 136] (by decide +kernel) (by decide +kernel)
set_option maxRecDepth 20000 in
theorem gL_law_X0_held : GoodIn wsL_law (wsV RL 63 RX0 yX0_held wsX0_held) := goodIn_app (goodIn_of _ (by decide +kernel)) ggL_law_X0_held
theorem dL_law_0 : decode cL_law 0 = .ok (.new 8, 3) := by decide +kernel
theorem dL_law_3 : decode cL_law 3 = .ok (.dup, 1) := by decide +kernel
theorem dL_law_4 : decode cL_law 4 = .ok (.invokespecial 25, 3) := by decide +kernel
theorem dL_law_7 : decode cL_law 7 = .ok (.astore_n 1, 1) := by decide +kernel
theorem dL_law_8 : decode cL_law 8 = .ok (.new 26, 3) := by decide +kernel
theorem dL_law_11 : decode cL_law 11 = .ok (.dup, 1) := by decide +kernel
theorem dL_law_12 : decode cL_law 12 = .ok (.invokespecial 28, 3) := by decide +kernel
theorem dL_law_15 : decode cL_law 15 = .ok (.astore_n 2, 1) := by decide +kernel
theorem dL_law_16 : decode cL_law 16 = .ok (.iconst 1, 1) := by decide +kernel
theorem dL_law_17 : decode cL_law 17 = .ok (.newarray .long, 2) := by decide +kernel
theorem dL_law_19 : decode cL_law 19 = .ok (.astore_n 3, 1) := by decide +kernel
theorem dL_law_20 : decode cL_law 20 = .ok (.iconst 0, 1) := by decide +kernel
theorem dL_law_21 : decode cL_law 21 = .ok (.istore 4, 2) := by decide +kernel
theorem dL_law_23 : decode cL_law 23 = .ok (.iload 4, 2) := by decide +kernel
theorem dL_law_25 : decode cL_law 25 = .ok (.aload_n 0, 1) := by decide +kernel
theorem dL_law_26 : decode cL_law 26 = .ok (.arraylength, 1) := by decide +kernel
theorem dL_law_27 : decode cL_law 27 = .ok (.iconst 5, 1) := by decide +kernel
theorem dL_law_28 : decode cL_law 28 = .ok (.isub, 1) := by decide +kernel
theorem dL_law_29 : decode cL_law 29 = .ok (.if_icmp .gt 395, 3) := by decide +kernel
theorem dL_law_32 : decode cL_law 32 = .ok (.aload_n 0, 1) := by decide +kernel
theorem dL_law_33 : decode cL_law 33 = .ok (.iload 4, 2) := by decide +kernel
theorem dL_law_35 : decode cL_law 35 = .ok (.iaload, 1) := by decide +kernel
theorem dL_law_36 : decode cL_law 36 = .ok (.bipush 7, 2) := by decide +kernel
theorem dL_law_38 : decode cL_law 38 = .ok (.iand, 1) := by decide +kernel
theorem dL_law_39 : decode cL_law 39 = .ok (.tableswitch 379 0 6 #[41, 64, 176, 201, 214, 270, 354], 41) := by decide +kernel
theorem dL_law_80 : decode cL_law 80 = .ok (.aload_n 1, 1) := by decide +kernel
theorem dL_law_81 : decode cL_law 81 = .ok (.aload_n 0, 1) := by decide +kernel
theorem dL_law_82 : decode cL_law 82 = .ok (.iload 4, 2) := by decide +kernel
theorem dL_law_84 : decode cL_law 84 = .ok (.iconst 1, 1) := by decide +kernel
theorem dL_law_85 : decode cL_law 85 = .ok (.iadd, 1) := by decide +kernel
theorem dL_law_86 : decode cL_law 86 = .ok (.iaload, 1) := by decide +kernel
theorem dL_law_87 : decode cL_law 87 = .ok (.invokevirtual 29, 3) := by decide +kernel
theorem dL_law_90 : decode cL_law 90 = .ok (.aload_n 2, 1) := by decide +kernel
theorem dL_law_91 : decode cL_law 91 = .ok (.aload_n 0, 1) := by decide +kernel
theorem dL_law_92 : decode cL_law 92 = .ok (.iload 4, 2) := by decide +kernel
theorem dL_law_94 : decode cL_law 94 = .ok (.iconst 1, 1) := by decide +kernel
theorem dL_law_95 : decode cL_law 95 = .ok (.iadd, 1) := by decide +kernel
theorem dL_law_96 : decode cL_law 96 = .ok (.iaload, 1) := by decide +kernel
theorem dL_law_97 : decode cL_law 97 = .ok (.invokevirtual 33, 3) := by decide +kernel
theorem dL_law_100 : decode cL_law 100 = .ok (.goto 318, 3) := by decide +kernel
theorem dL_law_103 : decode cL_law 103 = .ok (.aload_n 1, 1) := by decide +kernel
theorem dL_law_104 : decode cL_law 104 = .ok (.aload_n 0, 1) := by decide +kernel
theorem dL_law_105 : decode cL_law 105 = .ok (.iload 4, 2) := by decide +kernel
theorem dL_law_107 : decode cL_law 107 = .ok (.iconst 1, 1) := by decide +kernel
theorem dL_law_108 : decode cL_law 108 = .ok (.iadd, 1) := by decide +kernel
theorem dL_law_109 : decode cL_law 109 = .ok (.iaload, 1) := by decide +kernel
theorem dL_law_110 : decode cL_law 110 = .ok (.aload_n 0, 1) := by decide +kernel
theorem dL_law_111 : decode cL_law 111 = .ok (.iload 4, 2) := by decide +kernel
theorem dL_law_113 : decode cL_law 113 = .ok (.iconst 2, 1) := by decide +kernel
theorem dL_law_114 : decode cL_law 114 = .ok (.iadd, 1) := by decide +kernel
theorem dL_law_115 : decode cL_law 115 = .ok (.iaload, 1) := by decide +kernel
theorem dL_law_116 : decode cL_law 116 = .ok (.i2l, 1) := by decide +kernel
theorem dL_law_117 : decode cL_law 117 = .ok (.bipush 32, 2) := by decide +kernel
theorem dL_law_119 : decode cL_law 119 = .ok (.lshl, 1) := by decide +kernel
theorem dL_law_120 : decode cL_law 120 = .ok (.aload_n 0, 1) := by decide +kernel
theorem dL_law_121 : decode cL_law 121 = .ok (.iload 4, 2) := by decide +kernel
theorem dL_law_123 : decode cL_law 123 = .ok (.iconst 3, 1) := by decide +kernel
theorem dL_law_124 : decode cL_law 124 = .ok (.iadd, 1) := by decide +kernel
theorem dL_law_125 : decode cL_law 125 = .ok (.iaload, 1) := by decide +kernel
theorem dL_law_126 : decode cL_law 126 = .ok (.i2l, 1) := by decide +kernel
theorem dL_law_127 : decode cL_law 127 = .ok (.ldc2_w 34, 3) := by decide +kernel
theorem dL_law_130 : decode cL_law 130 = .ok (.land, 1) := by decide +kernel
theorem dL_law_131 : decode cL_law 131 = .ok (.lor, 1) := by decide +kernel
theorem dL_law_132 : decode cL_law 132 = .ok (.aload_n 0, 1) := by decide +kernel
theorem dL_law_133 : decode cL_law 133 = .ok (.iload 4, 2) := by decide +kernel
theorem dL_law_135 : decode cL_law 135 = .ok (.iconst 4, 1) := by decide +kernel
theorem dL_law_136 : decode cL_law 136 = .ok (.iadd, 1) := by decide +kernel
theorem dL_law_137 : decode cL_law 137 = .ok (.iaload, 1) := by decide +kernel
theorem dL_law_138 : decode cL_law 138 = .ok (.aload_n 3, 1) := by decide +kernel
theorem dL_law_139 : decode cL_law 139 = .ok (.invokestatic 36, 3) := by decide +kernel
theorem dL_law_142 : decode cL_law 142 = .ok (.istore 5, 2) := by decide +kernel
theorem dL_law_144 : decode cL_law 144 = .ok (.aload_n 2, 1) := by decide +kernel
theorem dL_law_145 : decode cL_law 145 = .ok (.aload_n 0, 1) := by decide +kernel
theorem dL_law_146 : decode cL_law 146 = .ok (.iload 4, 2) := by decide +kernel
theorem dL_law_148 : decode cL_law 148 = .ok (.iconst 1, 1) := by decide +kernel
theorem dL_law_149 : decode cL_law 149 = .ok (.iadd, 1) := by decide +kernel
theorem dL_law_150 : decode cL_law 150 = .ok (.iaload, 1) := by decide +kernel
theorem dL_law_151 : decode cL_law 151 = .ok (.aload_n 0, 1) := by decide +kernel
theorem dL_law_152 : decode cL_law 152 = .ok (.iload 4, 2) := by decide +kernel
theorem dL_law_154 : decode cL_law 154 = .ok (.iconst 2, 1) := by decide +kernel
theorem dL_law_155 : decode cL_law 155 = .ok (.iadd, 1) := by decide +kernel
theorem dL_law_156 : decode cL_law 156 = .ok (.iaload, 1) := by decide +kernel
theorem dL_law_157 : decode cL_law 157 = .ok (.i2l, 1) := by decide +kernel
theorem dL_law_158 : decode cL_law 158 = .ok (.bipush 32, 2) := by decide +kernel
theorem dL_law_160 : decode cL_law 160 = .ok (.lshl, 1) := by decide +kernel
theorem dL_law_161 : decode cL_law 161 = .ok (.aload_n 0, 1) := by decide +kernel
theorem dL_law_162 : decode cL_law 162 = .ok (.iload 4, 2) := by decide +kernel
theorem dL_law_164 : decode cL_law 164 = .ok (.iconst 3, 1) := by decide +kernel
theorem dL_law_165 : decode cL_law 165 = .ok (.iadd, 1) := by decide +kernel
theorem dL_law_166 : decode cL_law 166 = .ok (.iaload, 1) := by decide +kernel
theorem dL_law_167 : decode cL_law 167 = .ok (.i2l, 1) := by decide +kernel
theorem dL_law_168 : decode cL_law 168 = .ok (.ldc2_w 34, 3) := by decide +kernel
theorem dL_law_171 : decode cL_law 171 = .ok (.land, 1) := by decide +kernel
theorem dL_law_172 : decode cL_law 172 = .ok (.lor, 1) := by decide +kernel
theorem dL_law_173 : decode cL_law 173 = .ok (.aload_n 0, 1) := by decide +kernel
theorem dL_law_174 : decode cL_law 174 = .ok (.iload 4, 2) := by decide +kernel
theorem dL_law_176 : decode cL_law 176 = .ok (.iconst 4, 1) := by decide +kernel
theorem dL_law_177 : decode cL_law 177 = .ok (.iadd, 1) := by decide +kernel
theorem dL_law_178 : decode cL_law 178 = .ok (.iaload, 1) := by decide +kernel
theorem dL_law_179 : decode cL_law 179 = .ok (.invokevirtual 41, 3) := by decide +kernel
theorem dL_law_182 : decode cL_law 182 = .ok (.istore 6, 2) := by decide +kernel
theorem dL_law_184 : decode cL_law 184 = .ok (.aload_n 2, 1) := by decide +kernel
theorem dL_law_185 : decode cL_law 185 = .ok (.invokevirtual 42, 3) := by decide +kernel
theorem dL_law_188 : decode cL_law 188 = .ok (.iload 5, 2) := by decide +kernel
theorem dL_law_190 : decode cL_law 190 = .ok (.if_icmp .eq 5, 3) := by decide +kernel
theorem dL_law_193 : decode cL_law 193 = .ok (.iconst 0, 1) := by decide +kernel
theorem dL_law_194 : decode cL_law 194 = .ok (.ireturn, 1) := by decide +kernel
theorem dL_law_195 : decode cL_law 195 = .ok (.iload 5, 2) := by decide +kernel
theorem dL_law_197 : decode cL_law 197 = .ok (.ifCond .ne 15, 3) := by decide +kernel
theorem dL_law_200 : decode cL_law 200 = .ok (.aload_n 3, 1) := by decide +kernel
theorem dL_law_201 : decode cL_law 201 = .ok (.iconst 0, 1) := by decide +kernel
theorem dL_law_202 : decode cL_law 202 = .ok (.laload, 1) := by decide +kernel
theorem dL_law_203 : decode cL_law 203 = .ok (.iload 6, 2) := by decide +kernel
theorem dL_law_205 : decode cL_law 205 = .ok (.i2l, 1) := by decide +kernel
theorem dL_law_206 : decode cL_law 206 = .ok (.lcmp, 1) := by decide +kernel
theorem dL_law_207 : decode cL_law 207 = .ok (.ifCond .eq 5, 3) := by decide +kernel
theorem dL_law_210 : decode cL_law 210 = .ok (.iconst 0, 1) := by decide +kernel
theorem dL_law_211 : decode cL_law 211 = .ok (.ireturn, 1) := by decide +kernel
theorem dL_law_212 : decode cL_law 212 = .ok (.goto 206, 3) := by decide +kernel
theorem dL_law_215 : decode cL_law 215 = .ok (.aload_n 1, 1) := by decide +kernel
theorem dL_law_216 : decode cL_law 216 = .ok (.aload_n 0, 1) := by decide +kernel
theorem dL_law_217 : decode cL_law 217 = .ok (.iload 4, 2) := by decide +kernel
theorem dL_law_219 : decode cL_law 219 = .ok (.iconst 1, 1) := by decide +kernel
theorem dL_law_220 : decode cL_law 220 = .ok (.iadd, 1) := by decide +kernel
theorem dL_law_221 : decode cL_law 221 = .ok (.iaload, 1) := by decide +kernel
theorem dL_law_222 : decode cL_law 222 = .ok (.invokevirtual 46, 3) := by decide +kernel
theorem dL_law_225 : decode cL_law 225 = .ok (.aload_n 2, 1) := by decide +kernel
theorem dL_law_226 : decode cL_law 226 = .ok (.aload_n 0, 1) := by decide +kernel
theorem dL_law_227 : decode cL_law 227 = .ok (.iload 4, 2) := by decide +kernel
theorem dL_law_229 : decode cL_law 229 = .ok (.iconst 1, 1) := by decide +kernel
theorem dL_law_230 : decode cL_law 230 = .ok (.iadd, 1) := by decide +kernel
theorem dL_law_231 : decode cL_law 231 = .ok (.iaload, 1) := by decide +kernel
theorem dL_law_232 : decode cL_law 232 = .ok (.invokevirtual 50, 3) := by decide +kernel
theorem dL_law_235 : decode cL_law 235 = .ok (.if_icmp .eq 183, 3) := by decide +kernel
theorem dL_law_238 : decode cL_law 238 = .ok (.iconst 0, 1) := by decide +kernel
theorem dL_law_239 : decode cL_law 239 = .ok (.ireturn, 1) := by decide +kernel
theorem dL_law_240 : decode cL_law 240 = .ok (.aload_n 1, 1) := by decide +kernel
theorem dL_law_241 : decode cL_law 241 = .ok (.invokevirtual 51, 3) := by decide +kernel
theorem dL_law_244 : decode cL_law 244 = .ok (.aload_n 2, 1) := by decide +kernel
theorem dL_law_245 : decode cL_law 245 = .ok (.invokevirtual 54, 3) := by decide +kernel
theorem dL_law_248 : decode cL_law 248 = .ok (.if_icmp .eq 170, 3) := by decide +kernel
theorem dL_law_251 : decode cL_law 251 = .ok (.iconst 0, 1) := by decide +kernel
theorem dL_law_252 : decode cL_law 252 = .ok (.ireturn, 1) := by decide +kernel
theorem dL_law_253 : decode cL_law 253 = .ok (.aload_n 1, 1) := by decide +kernel
theorem dL_law_254 : decode cL_law 254 = .ok (.aload_n 0, 1) := by decide +kernel
theorem dL_law_255 : decode cL_law 255 = .ok (.iload 4, 2) := by decide +kernel
theorem dL_law_257 : decode cL_law 257 = .ok (.iconst 1, 1) := by decide +kernel
theorem dL_law_258 : decode cL_law 258 = .ok (.iadd, 1) := by decide +kernel
theorem dL_law_259 : decode cL_law 259 = .ok (.iaload, 1) := by decide +kernel
theorem dL_law_260 : decode cL_law 260 = .ok (.aload_n 3, 1) := by decide +kernel
theorem dL_law_261 : decode cL_law 261 = .ok (.invokestatic 55, 3) := by decide +kernel
theorem dL_law_264 : decode cL_law 264 = .ok (.istore 5, 2) := by decide +kernel
theorem dL_law_266 : decode cL_law 266 = .ok (.aload_n 2, 1) := by decide +kernel
theorem dL_law_267 : decode cL_law 267 = .ok (.aload_n 0, 1) := by decide +kernel
theorem dL_law_268 : decode cL_law 268 = .ok (.iload 4, 2) := by decide +kernel
theorem dL_law_270 : decode cL_law 270 = .ok (.iconst 1, 1) := by decide +kernel
theorem dL_law_271 : decode cL_law 271 = .ok (.iadd, 1) := by decide +kernel
theorem dL_law_272 : decode cL_law 272 = .ok (.iaload, 1) := by decide +kernel
theorem dL_law_273 : decode cL_law 273 = .ok (.invokevirtual 58, 3) := by decide +kernel
theorem dL_law_276 : decode cL_law 276 = .ok (.istore 6, 2) := by decide +kernel
theorem dL_law_278 : decode cL_law 278 = .ok (.aload_n 2, 1) := by decide +kernel
theorem dL_law_279 : decode cL_law 279 = .ok (.invokevirtual 42, 3) := by decide +kernel
theorem dL_law_282 : decode cL_law 282 = .ok (.iload 5, 2) := by decide +kernel
theorem dL_law_284 : decode cL_law 284 = .ok (.if_icmp .eq 5, 3) := by decide +kernel
theorem dL_law_287 : decode cL_law 287 = .ok (.iconst 0, 1) := by decide +kernel
theorem dL_law_288 : decode cL_law 288 = .ok (.ireturn, 1) := by decide +kernel
theorem dL_law_289 : decode cL_law 289 = .ok (.iload 5, 2) := by decide +kernel
theorem dL_law_291 : decode cL_law 291 = .ok (.ifCond .ne 15, 3) := by decide +kernel
theorem dL_law_294 : decode cL_law 294 = .ok (.aload_n 3, 1) := by decide +kernel
theorem dL_law_295 : decode cL_law 295 = .ok (.iconst 0, 1) := by decide +kernel
theorem dL_law_296 : decode cL_law 296 = .ok (.laload, 1) := by decide +kernel
theorem dL_law_297 : decode cL_law 297 = .ok (.iload 6, 2) := by decide +kernel
theorem dL_law_299 : decode cL_law 299 = .ok (.i2l, 1) := by decide +kernel
theorem dL_law_300 : decode cL_law 300 = .ok (.lcmp, 1) := by decide +kernel
theorem dL_law_301 : decode cL_law 301 = .ok (.ifCond .eq 5, 3) := by decide +kernel
theorem dL_law_304 : decode cL_law 304 = .ok (.iconst 0, 1) := by decide +kernel
theorem dL_law_305 : decode cL_law 305 = .ok (.ireturn, 1) := by decide +kernel
theorem dL_law_306 : decode cL_law 306 = .ok (.goto 112, 3) := by decide +kernel
theorem dL_law_309 : decode cL_law 309 = .ok (.aload_n 1, 1) := by decide +kernel
theorem dL_law_310 : decode cL_law 310 = .ok (.aload_n 0, 1) := by decide +kernel
theorem dL_law_311 : decode cL_law 311 = .ok (.iload 4, 2) := by decide +kernel
theorem dL_law_313 : decode cL_law 313 = .ok (.iconst 1, 1) := by decide +kernel
theorem dL_law_314 : decode cL_law 314 = .ok (.iadd, 1) := by decide +kernel
theorem dL_law_315 : decode cL_law 315 = .ok (.iaload, 1) := by decide +kernel
theorem dL_law_316 : decode cL_law 316 = .ok (.aload_n 0, 1) := by decide +kernel
theorem dL_law_317 : decode cL_law 317 = .ok (.iload 4, 2) := by decide +kernel
theorem dL_law_319 : decode cL_law 319 = .ok (.iconst 2, 1) := by decide +kernel
theorem dL_law_320 : decode cL_law 320 = .ok (.iadd, 1) := by decide +kernel
theorem dL_law_321 : decode cL_law 321 = .ok (.iaload, 1) := by decide +kernel
theorem dL_law_322 : decode cL_law 322 = .ok (.ifCond .eq 7, 3) := by decide +kernel
theorem dL_law_325 : decode cL_law 325 = .ok (.iconst 1, 1) := by decide +kernel
theorem dL_law_326 : decode cL_law 326 = .ok (.goto 4, 3) := by decide +kernel
theorem dL_law_329 : decode cL_law 329 = .ok (.iconst 0, 1) := by decide +kernel
theorem dL_law_330 : decode cL_law 330 = .ok (.aload_n 3, 1) := by decide +kernel
theorem dL_law_331 : decode cL_law 331 = .ok (.invokestatic 59, 3) := by decide +kernel
theorem dL_law_334 : decode cL_law 334 = .ok (.istore 5, 2) := by decide +kernel
theorem dL_law_336 : decode cL_law 336 = .ok (.aload_n 2, 1) := by decide +kernel
theorem dL_law_337 : decode cL_law 337 = .ok (.aload_n 0, 1) := by decide +kernel
theorem dL_law_338 : decode cL_law 338 = .ok (.iload 4, 2) := by decide +kernel
theorem dL_law_340 : decode cL_law 340 = .ok (.iconst 1, 1) := by decide +kernel
theorem dL_law_341 : decode cL_law 341 = .ok (.iadd, 1) := by decide +kernel
theorem dL_law_342 : decode cL_law 342 = .ok (.iaload, 1) := by decide +kernel
theorem dL_law_343 : decode cL_law 343 = .ok (.aload_n 0, 1) := by decide +kernel
theorem dL_law_344 : decode cL_law 344 = .ok (.iload 4, 2) := by decide +kernel
theorem dL_law_346 : decode cL_law 346 = .ok (.iconst 2, 1) := by decide +kernel
theorem dL_law_347 : decode cL_law 347 = .ok (.iadd, 1) := by decide +kernel
theorem dL_law_348 : decode cL_law 348 = .ok (.iaload, 1) := by decide +kernel
theorem dL_law_349 : decode cL_law 349 = .ok (.ifCond .eq 7, 3) := by decide +kernel
theorem dL_law_352 : decode cL_law 352 = .ok (.iconst 1, 1) := by decide +kernel
theorem dL_law_353 : decode cL_law 353 = .ok (.goto 4, 3) := by decide +kernel
theorem dL_law_356 : decode cL_law 356 = .ok (.iconst 0, 1) := by decide +kernel
theorem dL_law_357 : decode cL_law 357 = .ok (.invokevirtual 62, 3) := by decide +kernel
theorem dL_law_360 : decode cL_law 360 = .ok (.istore 6, 2) := by decide +kernel
theorem dL_law_362 : decode cL_law 362 = .ok (.aload_n 2, 1) := by decide +kernel
theorem dL_law_363 : decode cL_law 363 = .ok (.invokevirtual 42, 3) := by decide +kernel
theorem dL_law_366 : decode cL_law 366 = .ok (.iload 5, 2) := by decide +kernel
theorem dL_law_368 : decode cL_law 368 = .ok (.if_icmp .eq 5, 3) := by decide +kernel
theorem dL_law_371 : decode cL_law 371 = .ok (.iconst 0, 1) := by decide +kernel
theorem dL_law_372 : decode cL_law 372 = .ok (.ireturn, 1) := by decide +kernel
theorem dL_law_373 : decode cL_law 373 = .ok (.iload 5, 2) := by decide +kernel
theorem dL_law_375 : decode cL_law 375 = .ok (.ifCond .ne 15, 3) := by decide +kernel
theorem dL_law_378 : decode cL_law 378 = .ok (.aload_n 3, 1) := by decide +kernel
theorem dL_law_379 : decode cL_law 379 = .ok (.iconst 0, 1) := by decide +kernel
theorem dL_law_380 : decode cL_law 380 = .ok (.laload, 1) := by decide +kernel
theorem dL_law_381 : decode cL_law 381 = .ok (.iload 6, 2) := by decide +kernel
theorem dL_law_383 : decode cL_law 383 = .ok (.i2l, 1) := by decide +kernel
theorem dL_law_384 : decode cL_law 384 = .ok (.lcmp, 1) := by decide +kernel
theorem dL_law_385 : decode cL_law 385 = .ok (.ifCond .eq 5, 3) := by decide +kernel
theorem dL_law_388 : decode cL_law 388 = .ok (.iconst 0, 1) := by decide +kernel
theorem dL_law_389 : decode cL_law 389 = .ok (.ireturn, 1) := by decide +kernel
theorem dL_law_390 : decode cL_law 390 = .ok (.goto 28, 3) := by decide +kernel
theorem dL_law_393 : decode cL_law 393 = .ok (.aload_n 1, 1) := by decide +kernel
theorem dL_law_394 : decode cL_law 394 = .ok (.aload_n 0, 1) := by decide +kernel
theorem dL_law_395 : decode cL_law 395 = .ok (.iload 4, 2) := by decide +kernel
theorem dL_law_397 : decode cL_law 397 = .ok (.iconst 1, 1) := by decide +kernel
theorem dL_law_398 : decode cL_law 398 = .ok (.iadd, 1) := by decide +kernel
theorem dL_law_399 : decode cL_law 399 = .ok (.iaload, 1) := by decide +kernel
theorem dL_law_400 : decode cL_law 400 = .ok (.invokevirtual 63, 3) := by decide +kernel
theorem dL_law_403 : decode cL_law 403 = .ok (.aload_n 2, 1) := by decide +kernel
theorem dL_law_404 : decode cL_law 404 = .ok (.aload_n 0, 1) := by decide +kernel
theorem dL_law_405 : decode cL_law 405 = .ok (.iload 4, 2) := by decide +kernel
theorem dL_law_407 : decode cL_law 407 = .ok (.iconst 1, 1) := by decide +kernel
theorem dL_law_408 : decode cL_law 408 = .ok (.iadd, 1) := by decide +kernel
theorem dL_law_409 : decode cL_law 409 = .ok (.iaload, 1) := by decide +kernel
theorem dL_law_410 : decode cL_law 410 = .ok (.invokevirtual 66, 3) := by decide +kernel
theorem dL_law_413 : decode cL_law 413 = .ok (.if_icmp .eq 5, 3) := by decide +kernel
theorem dL_law_416 : decode cL_law 416 = .ok (.iconst 0, 1) := by decide +kernel
theorem dL_law_417 : decode cL_law 417 = .ok (.ireturn, 1) := by decide +kernel
theorem dL_law_418 : decode cL_law 418 = .ok (.iinc 4 5, 3) := by decide +kernel
theorem dL_law_421 : decode cL_law 421 = .ok (.goto (-398), 3) := by decide +kernel
theorem dL_law_424 : decode cL_law 424 = .ok (.iconst 1, 1) := by decide +kernel
theorem dL_law_425 : decode cL_law 425 = .ok (.ireturn, 1) := by decide +kernel
abbrev vwCl : List vw_C := [(RX0, TX0, 6), (RX1, TX1, 8)]
end
section
abbrev cX1_up : ByteArray := prog_3_method_4_code
def yX1_up : MethodName := ⟨RX1, "up", "()V"⟩
abbrev cX1_segment : ByteArray := prog_3_method_5_code
def yX1_segment : MethodName := ⟨RX1, "segment", "(IJI)I"⟩
abbrev cX1_end : ByteArray := prog_3_method_6_code
def yX1_end : MethodName := ⟨RX1, "end", "(I)Z"⟩
abbrev cX1_read : ByteArray := prog_3_method_7_code
def yX1_read : MethodName := ⟨RX1, "read", "()I"⟩
abbrev cX1_from : ByteArray := prog_3_method_8_code
def yX1_from : MethodName := ⟨RX1, "from", "(I)I"⟩
abbrev cX1_told : ByteArray := prog_3_method_9_code
def yX1_told : MethodName := ⟨RX1, "told", "(I)I"⟩
abbrev cX1_block : ByteArray := prog_3_method_10_code
def yX1_block : MethodName := ⟨RX1, "block", "(IZ)I"⟩
abbrev cX1_held : ByteArray := prog_3_method_11_code
def yX1_held : MethodName := ⟨RX1, "held", "(I)Z"⟩
def wsX1_up : List Cond := .code yX1_up cX1_up 2 none :: ([.fieldLink RX1 9 "SegmentBoxModel" "unread" "[I", .fieldLink RX1 27 "SegmentBoxModel" "many" "I", .fieldLink RX1 13 "SegmentBoxModel" "byteAt" "[I", .fieldLink RX1 24 "SegmentBoxModel" "next" "I", .fieldLink RX1 16 "SegmentBoxModel" "isHeld" "[Z"] ++ wsX10)
theorem dX1_up_0 : decode cX1_up 0 = .ok (.aload_n 0, 1) := by decide +kernel
theorem dX1_up_1 : decode cX1_up 1 = .ok (.getfield 9, 3) := by decide +kernel
theorem dX1_up_4 : decode cX1_up 4 = .ok (.aload_n 0, 1) := by decide +kernel
theorem dX1_up_5 : decode cX1_up 5 = .ok (.getfield 27, 3) := by decide +kernel
theorem dX1_up_8 : decode cX1_up 8 = .ok (.aload_n 0, 1) := by decide +kernel
theorem dX1_up_9 : decode cX1_up 9 = .ok (.getfield 13, 3) := by decide +kernel
theorem dX1_up_12 : decode cX1_up 12 = .ok (.iconst 0, 1) := by decide +kernel
theorem dX1_up_13 : decode cX1_up 13 = .ok (.iaload, 1) := by decide +kernel
theorem dX1_up_14 : decode cX1_up 14 = .ok (.iastore, 1) := by decide +kernel
theorem dX1_up_15 : decode cX1_up 15 = .ok (.aload_n 0, 1) := by decide +kernel
theorem dX1_up_16 : decode cX1_up 16 = .ok (.dup, 1) := by decide +kernel
theorem dX1_up_17 : decode cX1_up 17 = .ok (.getfield 27, 3) := by decide +kernel
theorem dX1_up_20 : decode cX1_up 20 = .ok (.iconst 1, 1) := by decide +kernel
theorem dX1_up_21 : decode cX1_up 21 = .ok (.iadd, 1) := by decide +kernel
theorem dX1_up_22 : decode cX1_up 22 = .ok (.putfield 27, 3) := by decide +kernel
theorem dX1_up_25 : decode cX1_up 25 = .ok (.aload_n 0, 1) := by decide +kernel
theorem dX1_up_26 : decode cX1_up 26 = .ok (.dup, 1) := by decide +kernel
theorem dX1_up_27 : decode cX1_up 27 = .ok (.getfield 24, 3) := by decide +kernel
theorem dX1_up_30 : decode cX1_up 30 = .ok (.iconst 1, 1) := by decide +kernel
theorem dX1_up_31 : decode cX1_up 31 = .ok (.iadd, 1) := by decide +kernel
theorem dX1_up_32 : decode cX1_up 32 = .ok (.putfield 24, 3) := by decide +kernel
theorem dX1_up_35 : decode cX1_up 35 = .ok (.iconst 0, 1) := by decide +kernel
theorem dX1_up_36 : decode cX1_up 36 = .ok (.istore_n 1, 1) := by decide +kernel
theorem dX1_up_37 : decode cX1_up 37 = .ok (.iload_n 1, 1) := by decide +kernel
theorem dX1_up_38 : decode cX1_up 38 = .ok (.iconst 1, 1) := by decide +kernel
theorem dX1_up_39 : decode cX1_up 39 = .ok (.iadd, 1) := by decide +kernel
theorem dX1_up_40 : decode cX1_up 40 = .ok (.bipush 64, 2) := by decide +kernel
theorem dX1_up_42 : decode cX1_up 42 = .ok (.if_icmp .ge 37, 3) := by decide +kernel
theorem dX1_up_45 : decode cX1_up 45 = .ok (.aload_n 0, 1) := by decide +kernel
theorem dX1_up_46 : decode cX1_up 46 = .ok (.getfield 16, 3) := by decide +kernel
theorem dX1_up_49 : decode cX1_up 49 = .ok (.iload_n 1, 1) := by decide +kernel
theorem dX1_up_50 : decode cX1_up 50 = .ok (.aload_n 0, 1) := by decide +kernel
theorem dX1_up_51 : decode cX1_up 51 = .ok (.getfield 16, 3) := by decide +kernel
theorem dX1_up_54 : decode cX1_up 54 = .ok (.iload_n 1, 1) := by decide +kernel
theorem dX1_up_55 : decode cX1_up 55 = .ok (.iconst 1, 1) := by decide +kernel
theorem dX1_up_56 : decode cX1_up 56 = .ok (.iadd, 1) := by decide +kernel
theorem dX1_up_57 : decode cX1_up 57 = .ok (.baload, 1) := by decide +kernel
theorem dX1_up_58 : decode cX1_up 58 = .ok (.bastore, 1) := by decide +kernel
theorem dX1_up_59 : decode cX1_up 59 = .ok (.aload_n 0, 1) := by decide +kernel
theorem dX1_up_60 : decode cX1_up 60 = .ok (.getfield 13, 3) := by decide +kernel
theorem dX1_up_63 : decode cX1_up 63 = .ok (.iload_n 1, 1) := by decide +kernel
theorem dX1_up_64 : decode cX1_up 64 = .ok (.aload_n 0, 1) := by decide +kernel
theorem dX1_up_65 : decode cX1_up 65 = .ok (.getfield 13, 3) := by decide +kernel
theorem dX1_up_68 : decode cX1_up 68 = .ok (.iload_n 1, 1) := by decide +kernel
theorem dX1_up_69 : decode cX1_up 69 = .ok (.iconst 1, 1) := by decide +kernel
theorem dX1_up_70 : decode cX1_up 70 = .ok (.iadd, 1) := by decide +kernel
theorem dX1_up_71 : decode cX1_up 71 = .ok (.iaload, 1) := by decide +kernel
theorem dX1_up_72 : decode cX1_up 72 = .ok (.iastore, 1) := by decide +kernel
theorem dX1_up_73 : decode cX1_up 73 = .ok (.iinc 1 1, 3) := by decide +kernel
theorem dX1_up_76 : decode cX1_up 76 = .ok (.goto (-39), 3) := by decide +kernel
theorem dX1_up_79 : decode cX1_up 79 = .ok (.aload_n 0, 1) := by decide +kernel
theorem dX1_up_80 : decode cX1_up 80 = .ok (.getfield 16, 3) := by decide +kernel
theorem dX1_up_83 : decode cX1_up 83 = .ok (.bipush 63, 2) := by decide +kernel
theorem dX1_up_85 : decode cX1_up 85 = .ok (.iconst 0, 1) := by decide +kernel
theorem dX1_up_86 : decode cX1_up 86 = .ok (.bastore, 1) := by decide +kernel
theorem dX1_up_87 : decode cX1_up 87 = .ok (.return_, 1) := by decide +kernel
def wsX1_from : List Cond := .code yX1_from cX1_from 4 (some .int) :: ([.fieldLink RX1 16 "SegmentBoxModel" "isHeld" "[Z"] ++ wsX10)
theorem dX1_from_0 : decode cX1_from 0 = .ok (.iload_n 1, 1) := by decide +kernel
theorem dX1_from_1 : decode cX1_from 1 = .ok (.istore_n 2, 1) := by decide +kernel
theorem dX1_from_2 : decode cX1_from 2 = .ok (.iconst 0, 1) := by decide +kernel
theorem dX1_from_3 : decode cX1_from 3 = .ok (.istore_n 3, 1) := by decide +kernel
theorem dX1_from_4 : decode cX1_from 4 = .ok (.iload_n 3, 1) := by decide +kernel
theorem dX1_from_5 : decode cX1_from 5 = .ok (.bipush 64, 2) := by decide +kernel
theorem dX1_from_7 : decode cX1_from 7 = .ok (.if_icmp .ge 45, 3) := by decide +kernel
theorem dX1_from_10 : decode cX1_from 10 = .ok (.aload_n 0, 1) := by decide +kernel
theorem dX1_from_11 : decode cX1_from 11 = .ok (.getfield 16, 3) := by decide +kernel
theorem dX1_from_14 : decode cX1_from 14 = .ok (.iload_n 3, 1) := by decide +kernel
theorem dX1_from_15 : decode cX1_from 15 = .ok (.baload, 1) := by decide +kernel
theorem dX1_from_16 : decode cX1_from 16 = .ok (.ifCond .eq 30, 3) := by decide +kernel
theorem dX1_from_19 : decode cX1_from 19 = .ok (.iload_n 3, 1) := by decide +kernel
theorem dX1_from_20 : decode cX1_from 20 = .ok (.ifCond .le 17, 3) := by decide +kernel
theorem dX1_from_23 : decode cX1_from 23 = .ok (.aload_n 0, 1) := by decide +kernel
theorem dX1_from_24 : decode cX1_from 24 = .ok (.getfield 16, 3) := by decide +kernel
theorem dX1_from_27 : decode cX1_from 27 = .ok (.iload_n 3, 1) := by decide +kernel
theorem dX1_from_28 : decode cX1_from 28 = .ok (.iconst 1, 1) := by decide +kernel
theorem dX1_from_29 : decode cX1_from 29 = .ok (.isub, 1) := by decide +kernel
theorem dX1_from_30 : decode cX1_from 30 = .ok (.baload, 1) := by decide +kernel
theorem dX1_from_31 : decode cX1_from 31 = .ok (.ifCond .eq 6, 3) := by decide +kernel
theorem dX1_from_34 : decode cX1_from 34 = .ok (.goto 12, 3) := by decide +kernel
theorem dX1_from_37 : decode cX1_from 37 = .ok (.iload_n 2, 1) := by decide +kernel
theorem dX1_from_38 : decode cX1_from 38 = .ok (.ifCond .ne 5, 3) := by decide +kernel
theorem dX1_from_41 : decode cX1_from 41 = .ok (.iload_n 3, 1) := by decide +kernel
theorem dX1_from_42 : decode cX1_from 42 = .ok (.ireturn, 1) := by decide +kernel
theorem dX1_from_43 : decode cX1_from 43 = .ok (.iinc 2 (-1), 3) := by decide +kernel
theorem dX1_from_46 : decode cX1_from 46 = .ok (.iinc 3 1, 3) := by decide +kernel
theorem dX1_from_49 : decode cX1_from 49 = .ok (.goto (-45), 3) := by decide +kernel
theorem dX1_from_52 : decode cX1_from 52 = .ok (.iconst (-1), 1) := by decide +kernel
theorem dX1_from_53 : decode cX1_from 53 = .ok (.ireturn, 1) := by decide +kernel
def wsX1_segment : List Cond := .code yX1_segment cX1_segment 8 (some .int) :: ([.fieldLink RX1 20 "SegmentBoxModel" "thrown" "I", .fieldLink RX1 27 "SegmentBoxModel" "many" "I", .fieldLink RX1 24 "SegmentBoxModel" "next" "I", .fieldLink RX1 16 "SegmentBoxModel" "isHeld" "[Z", .fieldLink RX1 30 "SegmentBoxModel" "hasEnd" "Z", .fieldLink RX1 34 "SegmentBoxModel" "end" "I", .fieldLink RX1 13 "SegmentBoxModel" "byteAt" "[I", .methodLink RX1 37 yX1_up, .instanceMethod yX1_up, .selects RX1 yX1_up yX1_up, .initialized RX1, .code yX1_up cX1_up 2 none, .fieldLink RX1 9 "SegmentBoxModel" "unread" "[I"] ++ wsX10)
set_option maxRecDepth 20000 in
theorem gX1_segment_X1_up : GoodIn wsX1_segment (wsV RX1 37 RX1 yX1_up wsX1_up) := goodIn_sub (by decide +kernel) (by decide +kernel)
theorem dX1_segment_0 : decode cX1_segment 0 = .ok (.aload_n 0, 1) := by decide +kernel
theorem dX1_segment_1 : decode cX1_segment 1 = .ok (.iload 4, 2) := by decide +kernel
theorem dX1_segment_3 : decode cX1_segment 3 = .ok (.ifCond .lt 10, 3) := by decide +kernel
theorem dX1_segment_6 : decode cX1_segment 6 = .ok (.iload 4, 2) := by decide +kernel
theorem dX1_segment_8 : decode cX1_segment 8 = .ok (.bipush 8, 2) := by decide +kernel
theorem dX1_segment_10 : decode cX1_segment 10 = .ok (.if_icmp .le 7, 3) := by decide +kernel
theorem dX1_segment_13 : decode cX1_segment 13 = .ok (.iconst 1, 1) := by decide +kernel
theorem dX1_segment_14 : decode cX1_segment 14 = .ok (.goto 4, 3) := by decide +kernel
theorem dX1_segment_17 : decode cX1_segment 17 = .ok (.iconst 0, 1) := by decide +kernel
theorem dX1_segment_18 : decode cX1_segment 18 = .ok (.putfield 20, 3) := by decide +kernel
theorem dX1_segment_21 : decode cX1_segment 21 = .ok (.aload_n 0, 1) := by decide +kernel
theorem dX1_segment_22 : decode cX1_segment 22 = .ok (.getfield 20, 3) := by decide +kernel
theorem dX1_segment_25 : decode cX1_segment 25 = .ok (.ifCond .le 5, 3) := by decide +kernel
theorem dX1_segment_28 : decode cX1_segment 28 = .ok (.iconst 0, 1) := by decide +kernel
theorem dX1_segment_29 : decode cX1_segment 29 = .ok (.ireturn, 1) := by decide +kernel
theorem dX1_segment_30 : decode cX1_segment 30 = .ok (.aload_n 0, 1) := by decide +kernel
theorem dX1_segment_31 : decode cX1_segment 31 = .ok (.getfield 27, 3) := by decide +kernel
theorem dX1_segment_34 : decode cX1_segment 34 = .ok (.istore 5, 2) := by decide +kernel
theorem dX1_segment_36 : decode cX1_segment 36 = .ok (.iconst 0, 1) := by decide +kernel
theorem dX1_segment_37 : decode cX1_segment 37 = .ok (.istore 6, 2) := by decide +kernel
theorem dX1_segment_39 : decode cX1_segment 39 = .ok (.iload 6, 2) := by decide +kernel
theorem dX1_segment_41 : decode cX1_segment 41 = .ok (.iload 4, 2) := by decide +kernel
theorem dX1_segment_43 : decode cX1_segment 43 = .ok (.if_icmp .ge 114, 3) := by decide +kernel
theorem dX1_segment_46 : decode cX1_segment 46 = .ok (.iload_n 1, 1) := by decide +kernel
theorem dX1_segment_47 : decode cX1_segment 47 = .ok (.iload 6, 2) := by decide +kernel
theorem dX1_segment_49 : decode cX1_segment 49 = .ok (.iadd, 1) := by decide +kernel
theorem dX1_segment_50 : decode cX1_segment 50 = .ok (.aload_n 0, 1) := by decide +kernel
theorem dX1_segment_51 : decode cX1_segment 51 = .ok (.getfield 24, 3) := by decide +kernel
theorem dX1_segment_54 : decode cX1_segment 54 = .ok (.isub, 1) := by decide +kernel
theorem dX1_segment_55 : decode cX1_segment 55 = .ok (.istore 7, 2) := by decide +kernel
theorem dX1_segment_57 : decode cX1_segment 57 = .ok (.iload 7, 2) := by decide +kernel
theorem dX1_segment_59 : decode cX1_segment 59 = .ok (.ifCond .lt 92, 3) := by decide +kernel
theorem dX1_segment_62 : decode cX1_segment 62 = .ok (.iload 7, 2) := by decide +kernel
theorem dX1_segment_64 : decode cX1_segment 64 = .ok (.bipush 64, 2) := by decide +kernel
theorem dX1_segment_66 : decode cX1_segment 66 = .ok (.aload_n 0, 1) := by decide +kernel
theorem dX1_segment_67 : decode cX1_segment 67 = .ok (.getfield 27, 3) := by decide +kernel
theorem dX1_segment_70 : decode cX1_segment 70 = .ok (.isub, 1) := by decide +kernel
theorem dX1_segment_71 : decode cX1_segment 71 = .ok (.if_icmp .ge 80, 3) := by decide +kernel
theorem dX1_segment_74 : decode cX1_segment 74 = .ok (.aload_n 0, 1) := by decide +kernel
theorem dX1_segment_75 : decode cX1_segment 75 = .ok (.getfield 16, 3) := by decide +kernel
theorem dX1_segment_78 : decode cX1_segment 78 = .ok (.iload 7, 2) := by decide +kernel
theorem dX1_segment_80 : decode cX1_segment 80 = .ok (.baload, 1) := by decide +kernel
theorem dX1_segment_81 : decode cX1_segment 81 = .ok (.ifCond .ne 70, 3) := by decide +kernel
theorem dX1_segment_84 : decode cX1_segment 84 = .ok (.aload_n 0, 1) := by decide +kernel
theorem dX1_segment_85 : decode cX1_segment 85 = .ok (.getfield 30, 3) := by decide +kernel
theorem dX1_segment_88 : decode cX1_segment 88 = .ok (.ifCond .eq 20, 3) := by decide +kernel
theorem dX1_segment_91 : decode cX1_segment 91 = .ok (.iload 7, 2) := by decide +kernel
theorem dX1_segment_93 : decode cX1_segment 93 = .ok (.aload_n 0, 1) := by decide +kernel
theorem dX1_segment_94 : decode cX1_segment 94 = .ok (.getfield 34, 3) := by decide +kernel
theorem dX1_segment_97 : decode cX1_segment 97 = .ok (.aload_n 0, 1) := by decide +kernel
theorem dX1_segment_98 : decode cX1_segment 98 = .ok (.getfield 24, 3) := by decide +kernel
theorem dX1_segment_101 : decode cX1_segment 101 = .ok (.isub, 1) := by decide +kernel
theorem dX1_segment_102 : decode cX1_segment 102 = .ok (.if_icmp .lt 6, 3) := by decide +kernel
theorem dX1_segment_105 : decode cX1_segment 105 = .ok (.goto 46, 3) := by decide +kernel
theorem dX1_segment_108 : decode cX1_segment 108 = .ok (.aload_n 0, 1) := by decide +kernel
theorem dX1_segment_109 : decode cX1_segment 109 = .ok (.getfield 16, 3) := by decide +kernel
theorem dX1_segment_112 : decode cX1_segment 112 = .ok (.iload 7, 2) := by decide +kernel
theorem dX1_segment_114 : decode cX1_segment 114 = .ok (.iconst 1, 1) := by decide +kernel
theorem dX1_segment_115 : decode cX1_segment 115 = .ok (.bastore, 1) := by decide +kernel
theorem dX1_segment_116 : decode cX1_segment 116 = .ok (.aload_n 0, 1) := by decide +kernel
theorem dX1_segment_117 : decode cX1_segment 117 = .ok (.getfield 13, 3) := by decide +kernel
theorem dX1_segment_120 : decode cX1_segment 120 = .ok (.iload 7, 2) := by decide +kernel
theorem dX1_segment_122 : decode cX1_segment 122 = .ok (.lload_n 2, 1) := by decide +kernel
theorem dX1_segment_123 : decode cX1_segment 123 = .ok (.bipush 8, 2) := by decide +kernel
theorem dX1_segment_125 : decode cX1_segment 125 = .ok (.iload 6, 2) := by decide +kernel
theorem dX1_segment_127 : decode cX1_segment 127 = .ok (.imul, 1) := by decide +kernel
theorem dX1_segment_128 : decode cX1_segment 128 = .ok (.lshr, 1) := by decide +kernel
theorem dX1_segment_129 : decode cX1_segment 129 = .ok (.l2i, 1) := by decide +kernel
theorem dX1_segment_130 : decode cX1_segment 130 = .ok (.sipush 255, 3) := by decide +kernel
theorem dX1_segment_133 : decode cX1_segment 133 = .ok (.iand, 1) := by decide +kernel
theorem dX1_segment_134 : decode cX1_segment 134 = .ok (.iastore, 1) := by decide +kernel
theorem dX1_segment_135 : decode cX1_segment 135 = .ok (.aload_n 0, 1) := by decide +kernel
theorem dX1_segment_136 : decode cX1_segment 136 = .ok (.getfield 16, 3) := by decide +kernel
theorem dX1_segment_139 : decode cX1_segment 139 = .ok (.iconst 0, 1) := by decide +kernel
theorem dX1_segment_140 : decode cX1_segment 140 = .ok (.baload, 1) := by decide +kernel
theorem dX1_segment_141 : decode cX1_segment 141 = .ok (.ifCond .eq 10, 3) := by decide +kernel
theorem dX1_segment_144 : decode cX1_segment 144 = .ok (.aload_n 0, 1) := by decide +kernel
theorem dX1_segment_145 : decode cX1_segment 145 = .ok (.invokevirtual 37, 3) := by decide +kernel
theorem dX1_segment_148 : decode cX1_segment 148 = .ok (.goto (-13), 3) := by decide +kernel
theorem dX1_segment_151 : decode cX1_segment 151 = .ok (.iinc 6 1, 3) := by decide +kernel
theorem dX1_segment_154 : decode cX1_segment 154 = .ok (.goto (-115), 3) := by decide +kernel
theorem dX1_segment_157 : decode cX1_segment 157 = .ok (.aload_n 0, 1) := by decide +kernel
theorem dX1_segment_158 : decode cX1_segment 158 = .ok (.getfield 27, 3) := by decide +kernel
theorem dX1_segment_161 : decode cX1_segment 161 = .ok (.iload 5, 2) := by decide +kernel
theorem dX1_segment_163 : decode cX1_segment 163 = .ok (.isub, 1) := by decide +kernel
theorem dX1_segment_164 : decode cX1_segment 164 = .ok (.ireturn, 1) := by decide +kernel
def wsX1_end : List Cond := .code yX1_end cX1_end 4 (some .boolean) :: ([.fieldLink RX1 20 "SegmentBoxModel" "thrown" "I", .fieldLink RX1 24 "SegmentBoxModel" "next" "I", .fieldLink RX1 30 "SegmentBoxModel" "hasEnd" "Z", .fieldLink RX1 27 "SegmentBoxModel" "many" "I", .fieldLink RX1 16 "SegmentBoxModel" "isHeld" "[Z", .fieldLink RX1 34 "SegmentBoxModel" "end" "I"] ++ wsX10)
theorem dX1_end_0 : decode cX1_end 0 = .ok (.aload_n 0, 1) := by decide +kernel
theorem dX1_end_1 : decode cX1_end 1 = .ok (.iconst 0, 1) := by decide +kernel
theorem dX1_end_2 : decode cX1_end 2 = .ok (.putfield 20, 3) := by decide +kernel
theorem dX1_end_5 : decode cX1_end 5 = .ok (.iload_n 1, 1) := by decide +kernel
theorem dX1_end_6 : decode cX1_end 6 = .ok (.aload_n 0, 1) := by decide +kernel
theorem dX1_end_7 : decode cX1_end 7 = .ok (.getfield 24, 3) := by decide +kernel
theorem dX1_end_10 : decode cX1_end 10 = .ok (.isub, 1) := by decide +kernel
theorem dX1_end_11 : decode cX1_end 11 = .ok (.istore_n 2, 1) := by decide +kernel
theorem dX1_end_12 : decode cX1_end 12 = .ok (.aload_n 0, 1) := by decide +kernel
theorem dX1_end_13 : decode cX1_end 13 = .ok (.getfield 30, 3) := by decide +kernel
theorem dX1_end_16 : decode cX1_end 16 = .ok (.ifCond .ne 18, 3) := by decide +kernel
theorem dX1_end_19 : decode cX1_end 19 = .ok (.iload_n 2, 1) := by decide +kernel
theorem dX1_end_20 : decode cX1_end 20 = .ok (.ifCond .lt 14, 3) := by decide +kernel
theorem dX1_end_23 : decode cX1_end 23 = .ok (.iload_n 2, 1) := by decide +kernel
theorem dX1_end_24 : decode cX1_end 24 = .ok (.bipush 64, 2) := by decide +kernel
theorem dX1_end_26 : decode cX1_end 26 = .ok (.aload_n 0, 1) := by decide +kernel
theorem dX1_end_27 : decode cX1_end 27 = .ok (.getfield 27, 3) := by decide +kernel
theorem dX1_end_30 : decode cX1_end 30 = .ok (.isub, 1) := by decide +kernel
theorem dX1_end_31 : decode cX1_end 31 = .ok (.if_icmp .le 5, 3) := by decide +kernel
theorem dX1_end_34 : decode cX1_end 34 = .ok (.iconst 0, 1) := by decide +kernel
theorem dX1_end_35 : decode cX1_end 35 = .ok (.ireturn, 1) := by decide +kernel
theorem dX1_end_36 : decode cX1_end 36 = .ok (.iload_n 2, 1) := by decide +kernel
theorem dX1_end_37 : decode cX1_end 37 = .ok (.istore_n 3, 1) := by decide +kernel
theorem dX1_end_38 : decode cX1_end 38 = .ok (.iload_n 3, 1) := by decide +kernel
theorem dX1_end_39 : decode cX1_end 39 = .ok (.bipush 64, 2) := by decide +kernel
theorem dX1_end_41 : decode cX1_end 41 = .ok (.if_icmp .ge 20, 3) := by decide +kernel
theorem dX1_end_44 : decode cX1_end 44 = .ok (.aload_n 0, 1) := by decide +kernel
theorem dX1_end_45 : decode cX1_end 45 = .ok (.getfield 16, 3) := by decide +kernel
theorem dX1_end_48 : decode cX1_end 48 = .ok (.iload_n 3, 1) := by decide +kernel
theorem dX1_end_49 : decode cX1_end 49 = .ok (.baload, 1) := by decide +kernel
theorem dX1_end_50 : decode cX1_end 50 = .ok (.ifCond .eq 5, 3) := by decide +kernel
theorem dX1_end_53 : decode cX1_end 53 = .ok (.iconst 0, 1) := by decide +kernel
theorem dX1_end_54 : decode cX1_end 54 = .ok (.ireturn, 1) := by decide +kernel
theorem dX1_end_55 : decode cX1_end 55 = .ok (.iinc 3 1, 3) := by decide +kernel
theorem dX1_end_58 : decode cX1_end 58 = .ok (.goto (-20), 3) := by decide +kernel
theorem dX1_end_61 : decode cX1_end 61 = .ok (.aload_n 0, 1) := by decide +kernel
theorem dX1_end_62 : decode cX1_end 62 = .ok (.iconst 1, 1) := by decide +kernel
theorem dX1_end_63 : decode cX1_end 63 = .ok (.putfield 30, 3) := by decide +kernel
theorem dX1_end_66 : decode cX1_end 66 = .ok (.aload_n 0, 1) := by decide +kernel
theorem dX1_end_67 : decode cX1_end 67 = .ok (.iload_n 1, 1) := by decide +kernel
theorem dX1_end_68 : decode cX1_end 68 = .ok (.putfield 34, 3) := by decide +kernel
theorem dX1_end_71 : decode cX1_end 71 = .ok (.iconst 1, 1) := by decide +kernel
theorem dX1_end_72 : decode cX1_end 72 = .ok (.ireturn, 1) := by decide +kernel
def wsX1_read : List Cond := .code yX1_read cX1_read 3 (some .int) :: ([.fieldLink RX1 20 "SegmentBoxModel" "thrown" "I", .fieldLink RX1 27 "SegmentBoxModel" "many" "I", .fieldLink RX1 30 "SegmentBoxModel" "hasEnd" "Z", .fieldLink RX1 24 "SegmentBoxModel" "next" "I", .fieldLink RX1 34 "SegmentBoxModel" "end" "I", .fieldLink RX1 9 "SegmentBoxModel" "unread" "[I"] ++ wsX10)
theorem dX1_read_0 : decode cX1_read 0 = .ok (.aload_n 0, 1) := by decide +kernel
theorem dX1_read_1 : decode cX1_read 1 = .ok (.iconst 0, 1) := by decide +kernel
theorem dX1_read_2 : decode cX1_read 2 = .ok (.putfield 20, 3) := by decide +kernel
theorem dX1_read_5 : decode cX1_read 5 = .ok (.aload_n 0, 1) := by decide +kernel
theorem dX1_read_6 : decode cX1_read 6 = .ok (.getfield 27, 3) := by decide +kernel
theorem dX1_read_9 : decode cX1_read 9 = .ok (.ifCond .ne 28, 3) := by decide +kernel
theorem dX1_read_12 : decode cX1_read 12 = .ok (.aload_n 0, 1) := by decide +kernel
theorem dX1_read_13 : decode cX1_read 13 = .ok (.getfield 30, 3) := by decide +kernel
theorem dX1_read_16 : decode cX1_read 16 = .ok (.ifCond .eq 19, 3) := by decide +kernel
theorem dX1_read_19 : decode cX1_read 19 = .ok (.aload_n 0, 1) := by decide +kernel
theorem dX1_read_20 : decode cX1_read 20 = .ok (.getfield 24, 3) := by decide +kernel
theorem dX1_read_23 : decode cX1_read 23 = .ok (.aload_n 0, 1) := by decide +kernel
theorem dX1_read_24 : decode cX1_read 24 = .ok (.getfield 34, 3) := by decide +kernel
theorem dX1_read_27 : decode cX1_read 27 = .ok (.if_icmp .ne 8, 3) := by decide +kernel
theorem dX1_read_30 : decode cX1_read 30 = .ok (.bipush (-2), 2) := by decide +kernel
theorem dX1_read_32 : decode cX1_read 32 = .ok (.goto 4, 3) := by decide +kernel
theorem dX1_read_35 : decode cX1_read 35 = .ok (.iconst (-1), 1) := by decide +kernel
theorem dX1_read_36 : decode cX1_read 36 = .ok (.ireturn, 1) := by decide +kernel
theorem dX1_read_37 : decode cX1_read 37 = .ok (.aload_n 0, 1) := by decide +kernel
theorem dX1_read_38 : decode cX1_read 38 = .ok (.getfield 9, 3) := by decide +kernel
theorem dX1_read_41 : decode cX1_read 41 = .ok (.iconst 0, 1) := by decide +kernel
theorem dX1_read_42 : decode cX1_read 42 = .ok (.iaload, 1) := by decide +kernel
theorem dX1_read_43 : decode cX1_read 43 = .ok (.istore_n 1, 1) := by decide +kernel
theorem dX1_read_44 : decode cX1_read 44 = .ok (.aload_n 0, 1) := by decide +kernel
theorem dX1_read_45 : decode cX1_read 45 = .ok (.dup, 1) := by decide +kernel
theorem dX1_read_46 : decode cX1_read 46 = .ok (.getfield 27, 3) := by decide +kernel
theorem dX1_read_49 : decode cX1_read 49 = .ok (.iconst 1, 1) := by decide +kernel
theorem dX1_read_50 : decode cX1_read 50 = .ok (.isub, 1) := by decide +kernel
theorem dX1_read_51 : decode cX1_read 51 = .ok (.putfield 27, 3) := by decide +kernel
theorem dX1_read_54 : decode cX1_read 54 = .ok (.iconst 0, 1) := by decide +kernel
theorem dX1_read_55 : decode cX1_read 55 = .ok (.istore_n 2, 1) := by decide +kernel
theorem dX1_read_56 : decode cX1_read 56 = .ok (.iload_n 2, 1) := by decide +kernel
theorem dX1_read_57 : decode cX1_read 57 = .ok (.aload_n 0, 1) := by decide +kernel
theorem dX1_read_58 : decode cX1_read 58 = .ok (.getfield 27, 3) := by decide +kernel
theorem dX1_read_61 : decode cX1_read 61 = .ok (.if_icmp .ge 23, 3) := by decide +kernel
theorem dX1_read_64 : decode cX1_read 64 = .ok (.aload_n 0, 1) := by decide +kernel
theorem dX1_read_65 : decode cX1_read 65 = .ok (.getfield 9, 3) := by decide +kernel
theorem dX1_read_68 : decode cX1_read 68 = .ok (.iload_n 2, 1) := by decide +kernel
theorem dX1_read_69 : decode cX1_read 69 = .ok (.aload_n 0, 1) := by decide +kernel
theorem dX1_read_70 : decode cX1_read 70 = .ok (.getfield 9, 3) := by decide +kernel
theorem dX1_read_73 : decode cX1_read 73 = .ok (.iload_n 2, 1) := by decide +kernel
theorem dX1_read_74 : decode cX1_read 74 = .ok (.iconst 1, 1) := by decide +kernel
theorem dX1_read_75 : decode cX1_read 75 = .ok (.iadd, 1) := by decide +kernel
theorem dX1_read_76 : decode cX1_read 76 = .ok (.iaload, 1) := by decide +kernel
theorem dX1_read_77 : decode cX1_read 77 = .ok (.iastore, 1) := by decide +kernel
theorem dX1_read_78 : decode cX1_read 78 = .ok (.iinc 2 1, 3) := by decide +kernel
theorem dX1_read_81 : decode cX1_read 81 = .ok (.goto (-25), 3) := by decide +kernel
theorem dX1_read_84 : decode cX1_read 84 = .ok (.iload_n 1, 1) := by decide +kernel
theorem dX1_read_85 : decode cX1_read 85 = .ok (.ireturn, 1) := by decide +kernel
def wsX1_told : List Cond := .code yX1_told cX1_told 4 (some .int) :: ([.fieldLink RX1 20 "SegmentBoxModel" "thrown" "I", .fieldLink RX1 24 "SegmentBoxModel" "next" "I", .fieldLink RX1 27 "SegmentBoxModel" "many" "I", .fieldLink RX1 16 "SegmentBoxModel" "isHeld" "[Z", .methodLink RX1 40 yX1_from, .instanceMethod yX1_from, .selects RX1 yX1_from yX1_from, .initialized RX1, .code yX1_from cX1_from 4 (some .int), .fieldLink RX1 30 "SegmentBoxModel" "hasEnd" "Z"] ++ wsX10)
set_option maxRecDepth 20000 in
theorem gX1_told_X1_from : GoodIn wsX1_told (wsV RX1 40 RX1 yX1_from wsX1_from) := goodIn_sub (by decide +kernel) (by decide +kernel)
theorem dX1_told_0 : decode cX1_told 0 = .ok (.aload_n 0, 1) := by decide +kernel
theorem dX1_told_1 : decode cX1_told 1 = .ok (.iload_n 1, 1) := by decide +kernel
theorem dX1_told_2 : decode cX1_told 2 = .ok (.ifCond .lt 8, 3) := by decide +kernel
theorem dX1_told_5 : decode cX1_told 5 = .ok (.iload_n 1, 1) := by decide +kernel
theorem dX1_told_6 : decode cX1_told 6 = .ok (.iconst 5, 1) := by decide +kernel
theorem dX1_told_7 : decode cX1_told 7 = .ok (.if_icmp .le 7, 3) := by decide +kernel
theorem dX1_told_10 : decode cX1_told 10 = .ok (.iconst 1, 1) := by decide +kernel
theorem dX1_told_11 : decode cX1_told 11 = .ok (.goto 4, 3) := by decide +kernel
theorem dX1_told_14 : decode cX1_told 14 = .ok (.iconst 0, 1) := by decide +kernel
theorem dX1_told_15 : decode cX1_told 15 = .ok (.putfield 20, 3) := by decide +kernel
theorem dX1_told_18 : decode cX1_told 18 = .ok (.aload_n 0, 1) := by decide +kernel
theorem dX1_told_19 : decode cX1_told 19 = .ok (.getfield 20, 3) := by decide +kernel
theorem dX1_told_22 : decode cX1_told 22 = .ok (.ifCond .le 5, 3) := by decide +kernel
theorem dX1_told_25 : decode cX1_told 25 = .ok (.iconst 0, 1) := by decide +kernel
theorem dX1_told_26 : decode cX1_told 26 = .ok (.ireturn, 1) := by decide +kernel
theorem dX1_told_27 : decode cX1_told 27 = .ok (.iconst 0, 1) := by decide +kernel
theorem dX1_told_28 : decode cX1_told 28 = .ok (.istore_n 2, 1) := by decide +kernel
theorem dX1_told_29 : decode cX1_told 29 = .ok (.iload_n 1, 1) := by decide +kernel
theorem dX1_told_30 : decode cX1_told 30 = .ok (.tableswitch 96 0 4 #[34, 39, 47, 52, 80], 34) := by decide +kernel
theorem dX1_told_64 : decode cX1_told 64 = .ok (.aload_n 0, 1) := by decide +kernel
theorem dX1_told_65 : decode cX1_told 65 = .ok (.getfield 24, 3) := by decide +kernel
theorem dX1_told_68 : decode cX1_told 68 = .ok (.ireturn, 1) := by decide +kernel
theorem dX1_told_69 : decode cX1_told 69 = .ok (.bipush 64, 2) := by decide +kernel
theorem dX1_told_71 : decode cX1_told 71 = .ok (.aload_n 0, 1) := by decide +kernel
theorem dX1_told_72 : decode cX1_told 72 = .ok (.getfield 27, 3) := by decide +kernel
theorem dX1_told_75 : decode cX1_told 75 = .ok (.isub, 1) := by decide +kernel
theorem dX1_told_76 : decode cX1_told 76 = .ok (.ireturn, 1) := by decide +kernel
theorem dX1_told_77 : decode cX1_told 77 = .ok (.aload_n 0, 1) := by decide +kernel
theorem dX1_told_78 : decode cX1_told 78 = .ok (.getfield 27, 3) := by decide +kernel
theorem dX1_told_81 : decode cX1_told 81 = .ok (.ireturn, 1) := by decide +kernel
theorem dX1_told_82 : decode cX1_told 82 = .ok (.iconst 0, 1) := by decide +kernel
theorem dX1_told_83 : decode cX1_told 83 = .ok (.istore_n 3, 1) := by decide +kernel
theorem dX1_told_84 : decode cX1_told 84 = .ok (.iload_n 3, 1) := by decide +kernel
theorem dX1_told_85 : decode cX1_told 85 = .ok (.bipush 64, 2) := by decide +kernel
theorem dX1_told_87 : decode cX1_told 87 = .ok (.if_icmp .ge 21, 3) := by decide +kernel
theorem dX1_told_90 : decode cX1_told 90 = .ok (.aload_n 0, 1) := by decide +kernel
theorem dX1_told_91 : decode cX1_told 91 = .ok (.getfield 16, 3) := by decide +kernel
theorem dX1_told_94 : decode cX1_told 94 = .ok (.iload_n 3, 1) := by decide +kernel
theorem dX1_told_95 : decode cX1_told 95 = .ok (.baload, 1) := by decide +kernel
theorem dX1_told_96 : decode cX1_told 96 = .ok (.ifCond .eq 6, 3) := by decide +kernel
theorem dX1_told_99 : decode cX1_told 99 = .ok (.iinc 2 1, 3) := by decide +kernel
theorem dX1_told_102 : decode cX1_told 102 = .ok (.iinc 3 1, 3) := by decide +kernel
theorem dX1_told_105 : decode cX1_told 105 = .ok (.goto (-21), 3) := by decide +kernel
theorem dX1_told_108 : decode cX1_told 108 = .ok (.iload_n 2, 1) := by decide +kernel
theorem dX1_told_109 : decode cX1_told 109 = .ok (.ireturn, 1) := by decide +kernel
theorem dX1_told_110 : decode cX1_told 110 = .ok (.aload_n 0, 1) := by decide +kernel
theorem dX1_told_111 : decode cX1_told 111 = .ok (.iload_n 2, 1) := by decide +kernel
theorem dX1_told_112 : decode cX1_told 112 = .ok (.invokevirtual 40, 3) := by decide +kernel
theorem dX1_told_115 : decode cX1_told 115 = .ok (.ifCond .lt 9, 3) := by decide +kernel
theorem dX1_told_118 : decode cX1_told 118 = .ok (.iinc 2 1, 3) := by decide +kernel
theorem dX1_told_121 : decode cX1_told 121 = .ok (.goto (-11), 3) := by decide +kernel
theorem dX1_told_124 : decode cX1_told 124 = .ok (.iload_n 2, 1) := by decide +kernel
theorem dX1_told_125 : decode cX1_told 125 = .ok (.ireturn, 1) := by decide +kernel
theorem dX1_told_126 : decode cX1_told 126 = .ok (.aload_n 0, 1) := by decide +kernel
theorem dX1_told_127 : decode cX1_told 127 = .ok (.getfield 30, 3) := by decide +kernel
theorem dX1_told_130 : decode cX1_told 130 = .ok (.ifCond .eq 7, 3) := by decide +kernel
theorem dX1_told_133 : decode cX1_told 133 = .ok (.iconst 1, 1) := by decide +kernel
theorem dX1_told_134 : decode cX1_told 134 = .ok (.goto 4, 3) := by decide +kernel
theorem dX1_told_137 : decode cX1_told 137 = .ok (.iconst 0, 1) := by decide +kernel
theorem dX1_told_138 : decode cX1_told 138 = .ok (.ireturn, 1) := by decide +kernel
def wsX1_block : List Cond := .code yX1_block cX1_block 5 (some .int) :: ([.methodLink RX1 40 yX1_from, .instanceMethod yX1_from, .selects RX1 yX1_from yX1_from, .initialized RX1, .code yX1_from cX1_from 4 (some .int), .fieldLink RX1 16 "SegmentBoxModel" "isHeld" "[Z", .fieldLink RX1 20 "SegmentBoxModel" "thrown" "I", .fieldLink RX1 24 "SegmentBoxModel" "next" "I"] ++ wsX10)
set_option maxRecDepth 20000 in
theorem gX1_block_X1_from : GoodIn wsX1_block (wsV RX1 40 RX1 yX1_from wsX1_from) := goodIn_sub (by decide +kernel) (by decide +kernel)
theorem dX1_block_0 : decode cX1_block 0 = .ok (.iload_n 1, 1) := by decide +kernel
theorem dX1_block_1 : decode cX1_block 1 = .ok (.ifCond .ge 7, 3) := by decide +kernel
theorem dX1_block_4 : decode cX1_block 4 = .ok (.iconst (-1), 1) := by decide +kernel
theorem dX1_block_5 : decode cX1_block 5 = .ok (.goto 8, 3) := by decide +kernel
theorem dX1_block_8 : decode cX1_block 8 = .ok (.aload_n 0, 1) := by decide +kernel
theorem dX1_block_9 : decode cX1_block 9 = .ok (.iload_n 1, 1) := by decide +kernel
theorem dX1_block_10 : decode cX1_block 10 = .ok (.invokevirtual 40, 3) := by decide +kernel
theorem dX1_block_13 : decode cX1_block 13 = .ok (.istore_n 3, 1) := by decide +kernel
theorem dX1_block_14 : decode cX1_block 14 = .ok (.iconst 0, 1) := by decide +kernel
theorem dX1_block_15 : decode cX1_block 15 = .ok (.istore 4, 2) := by decide +kernel
theorem dX1_block_17 : decode cX1_block 17 = .ok (.aload_n 0, 1) := by decide +kernel
theorem dX1_block_18 : decode cX1_block 18 = .ok (.iload_n 3, 1) := by decide +kernel
theorem dX1_block_19 : decode cX1_block 19 = .ok (.ifCond .ge 7, 3) := by decide +kernel
theorem dX1_block_22 : decode cX1_block 22 = .ok (.iconst 1, 1) := by decide +kernel
theorem dX1_block_23 : decode cX1_block 23 = .ok (.goto 4, 3) := by decide +kernel
theorem dX1_block_26 : decode cX1_block 26 = .ok (.iconst 0, 1) := by decide +kernel
theorem dX1_block_27 : decode cX1_block 27 = .ok (.putfield 20, 3) := by decide +kernel
theorem dX1_block_30 : decode cX1_block 30 = .ok (.aload_n 0, 1) := by decide +kernel
theorem dX1_block_31 : decode cX1_block 31 = .ok (.getfield 20, 3) := by decide +kernel
theorem dX1_block_34 : decode cX1_block 34 = .ok (.ifCond .le 5, 3) := by decide +kernel
theorem dX1_block_37 : decode cX1_block 37 = .ok (.iconst 0, 1) := by decide +kernel
theorem dX1_block_38 : decode cX1_block 38 = .ok (.ireturn, 1) := by decide +kernel
theorem dX1_block_39 : decode cX1_block 39 = .ok (.iload_n 3, 1) := by decide +kernel
theorem dX1_block_40 : decode cX1_block 40 = .ok (.iload 4, 2) := by decide +kernel
theorem dX1_block_42 : decode cX1_block 42 = .ok (.iadd, 1) := by decide +kernel
theorem dX1_block_43 : decode cX1_block 43 = .ok (.bipush 64, 2) := by decide +kernel
theorem dX1_block_45 : decode cX1_block 45 = .ok (.if_icmp .ge 21, 3) := by decide +kernel
theorem dX1_block_48 : decode cX1_block 48 = .ok (.aload_n 0, 1) := by decide +kernel
theorem dX1_block_49 : decode cX1_block 49 = .ok (.getfield 16, 3) := by decide +kernel
theorem dX1_block_52 : decode cX1_block 52 = .ok (.iload_n 3, 1) := by decide +kernel
theorem dX1_block_53 : decode cX1_block 53 = .ok (.iload 4, 2) := by decide +kernel
theorem dX1_block_55 : decode cX1_block 55 = .ok (.iadd, 1) := by decide +kernel
theorem dX1_block_56 : decode cX1_block 56 = .ok (.baload, 1) := by decide +kernel
theorem dX1_block_57 : decode cX1_block 57 = .ok (.ifCond .eq 9, 3) := by decide +kernel
theorem dX1_block_60 : decode cX1_block 60 = .ok (.iinc 4 1, 3) := by decide +kernel
theorem dX1_block_63 : decode cX1_block 63 = .ok (.goto (-24), 3) := by decide +kernel
theorem dX1_block_66 : decode cX1_block 66 = .ok (.iload_n 2, 1) := by decide +kernel
theorem dX1_block_67 : decode cX1_block 67 = .ok (.ifCond .eq 8, 3) := by decide +kernel
theorem dX1_block_70 : decode cX1_block 70 = .ok (.iload 4, 2) := by decide +kernel
theorem dX1_block_72 : decode cX1_block 72 = .ok (.goto 9, 3) := by decide +kernel
theorem dX1_block_75 : decode cX1_block 75 = .ok (.aload_n 0, 1) := by decide +kernel
theorem dX1_block_76 : decode cX1_block 76 = .ok (.getfield 24, 3) := by decide +kernel
theorem dX1_block_79 : decode cX1_block 79 = .ok (.iload_n 3, 1) := by decide +kernel
theorem dX1_block_80 : decode cX1_block 80 = .ok (.iadd, 1) := by decide +kernel
theorem dX1_block_81 : decode cX1_block 81 = .ok (.ireturn, 1) := by decide +kernel
def wsX1_held : List Cond := .code yX1_held cX1_held 3 (some .boolean) :: ([.fieldLink RX1 20 "SegmentBoxModel" "thrown" "I", .fieldLink RX1 24 "SegmentBoxModel" "next" "I", .fieldLink RX1 16 "SegmentBoxModel" "isHeld" "[Z"] ++ wsX10)
theorem dX1_held_0 : decode cX1_held 0 = .ok (.aload_n 0, 1) := by decide +kernel
theorem dX1_held_1 : decode cX1_held 1 = .ok (.iconst 0, 1) := by decide +kernel
theorem dX1_held_2 : decode cX1_held 2 = .ok (.putfield 20, 3) := by decide +kernel
theorem dX1_held_5 : decode cX1_held 5 = .ok (.iload_n 1, 1) := by decide +kernel
theorem dX1_held_6 : decode cX1_held 6 = .ok (.aload_n 0, 1) := by decide +kernel
theorem dX1_held_7 : decode cX1_held 7 = .ok (.getfield 24, 3) := by decide +kernel
theorem dX1_held_10 : decode cX1_held 10 = .ok (.isub, 1) := by decide +kernel
theorem dX1_held_11 : decode cX1_held 11 = .ok (.istore_n 2, 1) := by decide +kernel
theorem dX1_held_12 : decode cX1_held 12 = .ok (.iload_n 2, 1) := by decide +kernel
theorem dX1_held_13 : decode cX1_held 13 = .ok (.ifCond .lt 22, 3) := by decide +kernel
theorem dX1_held_16 : decode cX1_held 16 = .ok (.iload_n 2, 1) := by decide +kernel
theorem dX1_held_17 : decode cX1_held 17 = .ok (.bipush 64, 2) := by decide +kernel
theorem dX1_held_19 : decode cX1_held 19 = .ok (.if_icmp .ge 16, 3) := by decide +kernel
theorem dX1_held_22 : decode cX1_held 22 = .ok (.aload_n 0, 1) := by decide +kernel
theorem dX1_held_23 : decode cX1_held 23 = .ok (.getfield 16, 3) := by decide +kernel
theorem dX1_held_26 : decode cX1_held 26 = .ok (.iload_n 2, 1) := by decide +kernel
theorem dX1_held_27 : decode cX1_held 27 = .ok (.baload, 1) := by decide +kernel
theorem dX1_held_28 : decode cX1_held 28 = .ok (.ifCond .eq 7, 3) := by decide +kernel
theorem dX1_held_31 : decode cX1_held 31 = .ok (.iconst 1, 1) := by decide +kernel
theorem dX1_held_32 : decode cX1_held 32 = .ok (.goto 4, 3) := by decide +kernel
theorem dX1_held_35 : decode cX1_held 35 = .ok (.iconst 0, 1) := by decide +kernel
theorem dX1_held_36 : decode cX1_held 36 = .ok (.ireturn, 1) := by decide +kernel
def wsL_m : List Cond := [.methodLink RL 41 yX1_segment, .instanceMethod yX1_segment, .selects RX1 yX1_segment yX1_segment, .code yX1_segment cX1_segment 8 (some .int), .fieldLink RX1 20 "SegmentBoxModel" "thrown" "I", .fieldLink RX1 27 "SegmentBoxModel" "many" "I", .fieldLink RX1 24 "SegmentBoxModel" "next" "I", .fieldLink RX1 16 "SegmentBoxModel" "isHeld" "[Z", .fieldLink RX1 30 "SegmentBoxModel" "hasEnd" "Z", .fieldLink RX1 34 "SegmentBoxModel" "end" "I", .fieldLink RX1 13 "SegmentBoxModel" "byteAt" "[I", .methodLink RX1 37 yX1_up, .instanceMethod yX1_up, .selects RX1 yX1_up yX1_up, .initialized RX1, .code yX1_up cX1_up 2 none, .fieldLink RX1 9 "SegmentBoxModel" "unread" "[I", .methodLink RL 50 yX1_end, .instanceMethod yX1_end, .selects RX1 yX1_end yX1_end, .code yX1_end cX1_end 4 (some .boolean), .methodLink RL 54 yX1_read, .instanceMethod yX1_read, .selects RX1 yX1_read yX1_read, .code yX1_read cX1_read 3 (some .int), .methodLink RL 58 yX1_told, .instanceMethod yX1_told, .selects RX1 yX1_told yX1_told, .code yX1_told cX1_told 4 (some .int), .methodLink RX1 40 yX1_from, .instanceMethod yX1_from, .selects RX1 yX1_from yX1_from, .code yX1_from cX1_from 4 (some .int), .methodLink RL 62 yX1_block, .instanceMethod yX1_block, .selects RX1 yX1_block yX1_block, .code yX1_block cX1_block 5 (some .int), .methodLink RL 66 yX1_held, .instanceMethod yX1_held, .selects RX1 yX1_held yX1_held, .code yX1_held cX1_held 3 (some .boolean)] ++ wsX10
set_option maxRecDepth 20000 in
theorem wsL_m_in : ∀ w ∈ wsL_m, w ∈ lw_tbl := by decide +kernel
set_option maxRecDepth 20000 in
theorem gL_m_X1_segment : GoodIn wsL_m (wsV RL 41 RX1 yX1_segment wsX1_segment) := goodIn_sub (by decide +kernel) (by decide +kernel)
set_option maxRecDepth 20000 in
theorem gL_m_X1_end : GoodIn wsL_m (wsV RL 50 RX1 yX1_end wsX1_end) := goodIn_sub (by decide +kernel) (by decide +kernel)
set_option maxRecDepth 20000 in
theorem gL_m_X1_read : GoodIn wsL_m (wsV RL 54 RX1 yX1_read wsX1_read) := goodIn_sub (by decide +kernel) (by decide +kernel)
set_option maxRecDepth 20000 in
theorem gL_m_X1_told : GoodIn wsL_m (wsV RL 58 RX1 yX1_told wsX1_told) := goodIn_sub (by decide +kernel) (by decide +kernel)
set_option maxRecDepth 20000 in
theorem gL_m_X1_block : GoodIn wsL_m (wsV RL 62 RX1 yX1_block wsX1_block) := goodIn_sub (by decide +kernel) (by decide +kernel)
set_option maxRecDepth 20000 in
theorem gL_m_X1_held : GoodIn wsL_m (wsV RL 66 RX1 yX1_held wsX1_held) := goodIn_sub (by decide +kernel) (by decide +kernel)
end
section
-- the uN family: pasted from kit/laws/BITS.to-paste (a starting text)
def uN (x : Int64) : Nat := x.toUInt64.toNat
theorem uN_lt (x : Int64) : uN x < 18446744073709551616 := x.toUInt64.toNat_lt
theorem uN_inj {x y : Int64} (h : uN x = uN y) : x = y := congrArg UInt64.toInt64 (UInt64.toNat_inj.mp h)
theorem uN_add (x y : Int64) : uN (x + y) = (uN x + uN y) % 18446744073709551616 := by
  show (x.toUInt64 + y.toUInt64).toNat = _
  exact UInt64.toNat_add _ _
theorem uN_shl (x : Int64) : uN (x <<< ((1 : Int32).toInt64 &&& 63)) = (2 * uN x) % 18446744073709551616 := by
  have h : (((1 : Int32).toInt64 &&& 63).toBitVec.smod 64).toNat = 1 := by decide
  show (x.toBitVec <<< (((1 : Int32).toInt64 &&& 63).toBitVec.smod 64).toNat).toNat = _
  rw [h, BitVec.toNat_shiftLeft, Nat.shiftLeft_eq, Nat.mul_comm]
  rfl
theorem uN_shr (x : Int64) (s : UInt64) : uN (x.toUInt64 >>> s).toInt64 = uN x / 2 ^ (s.toNat % 64) := by
  show (x.toUInt64 >>> s).toNat = _
  rw [UInt64.toNat_shiftRight, Nat.shiftRight_eq_div_pow]
  rfl
theorem uN_bit (x : Int64) : (x &&& 1) = 0 ↔ uN x % 2 = 0 := by
  have h : uN (x &&& 1) = uN x % 2 := by
    show (x.toUInt64 &&& Int64.toUInt64 1).toNat = _
    rw [UInt64.toNat_and]
    exact Nat.and_two_pow_sub_one_eq_mod _ 1
  rw [← h]
  exact ⟨fun z => by rw [z]; rfl, fun z => uN_inj (z.trans rfl)⟩
theorem uN_sk (x : Int64) {k : Nat} (hk : k < 64) : uN (x.toUInt64 >>> ((nI k).toInt64.toUInt64 &&& Int64.toUInt64 63)).toInt64 = uN x / 2 ^ k := by
  have h : ((nI k).toInt64.toUInt64 &&& Int64.toUInt64 63).toNat % 64 = k := by
    rw [nI_l (by omega), UInt64.toNat_and]
    have e : (lN k).toUInt64.toNat = k % 2 ^ 64 := rfl
    have e2 : (Int64.toUInt64 63).toNat = 2 ^ 6 - 1 := by decide
    rw [e, e2, Nat.and_two_pow_sub_one_eq_mod]
    omega
  rw [uN_shr, h]
theorem uN_and (x y : Int64) : uN (x &&& y) = uN x &&& uN y := UInt64.toNat_and _ _
theorem uN_orr (x y : Int64) : uN (x ||| y) = uN x ||| uN y := UInt64.toNat_or _ _
theorem uN_xorr (x y : Int64) : uN (x ^^^ y) = uN x ^^^ uN y := UInt64.toNat_xor _ _
theorem uN_sub (x y : Int64) (h : uN y ≤ uN x) : uN (x - y) = uN x - uN y := by
  show (x.toUInt64 - y.toUInt64).toNat = _
  rw [UInt64.toNat_sub]
  have h1 := uN_lt x
  have h2 := uN_lt y
  show (2 ^ 64 - uN y + uN x) % 2 ^ 64 = _
  omega
/-! counting -/
def sg_c (p : Nat → Bool) : Nat → Nat
  | 0 => 0
  | n + 1 => sg_c p n + (if p n then 1 else 0)
theorem sg_c_le (p : Nat → Bool) (n : Nat) : sg_c p n ≤ n := by
  induction n with
  | zero => exact Nat.le_refl 0
  | succ n ih => simp only [sg_c]; split <;> omega
theorem sg_c_mono (p : Nat → Bool) (a b : Nat) : sg_c p a ≤ sg_c p (a + b) := by
  induction b with
  | zero => exact Nat.le_refl _
  | succ b ih => rw [← Nat.add_assoc]; simp only [sg_c]; omega
theorem sg_c_mono' (p : Nat → Bool) {a b : Nat} (h : a ≤ b) : sg_c p a ≤ sg_c p b := by
  have := sg_c_mono p a (b - a)
  rwa [Nat.add_sub_cancel' h] at this
theorem sg_c_add (p : Nat → Bool) (a b : Nat) : sg_c p (a + b) = sg_c p a + sg_c (fun k => p (a + k)) b := by
  induction b with
  | zero => rfl
  | succ b ih => rw [← Nat.add_assoc]; simp only [sg_c, ih]; omega
theorem sg_c_congr {p q : Nat → Bool} (n : Nat) (h : ∀ k, k < n → p k = q k) : sg_c p n = sg_c q n := by
  induction n with
  | zero => rfl
  | succ n ih => simp only [sg_c]; rw [ih (fun k hk => h k (by omega)), h n (by omega)]
/-- the place of the i-th that holds is one alone -/
theorem sg_c_uni {p : Nat → Bool} {a b : Nat} (ha : p a = true) (hb : p b = true) (h : sg_c p a = sg_c p b) : a = b := by
  rcases Nat.lt_trichotomy a b with q | q | q
  · have := sg_c_mono' p (show a + 1 ≤ b from q)
    simp only [sg_c, ha, if_true] at this
    omega
  · exact q
  · have := sg_c_mono' p (show b + 1 ≤ a from q)
    simp only [sg_c, hb, if_true] at this
    omega
/-! Long.bitCount -/
def pc8 (l : Nat) : Nat := sg_c (fun k => l.testBit k) 8
def m5 : Nat → Nat
  | 0 => 0
  | n + 1 => 0x55 + 256 * m5 n
def m3 : Nat → Nat
  | 0 => 0
  | n + 1 => 0x33 + 256 * m3 n
def mf : Nat → Nat
  | 0 => 0
  | n + 1 => 0x0f + 256 * mf n
def pcs : Nat → Nat → Nat
  | 0, _ => 0
  | n + 1, x => pc8 (x % 256) + 256 * pcs n (x / 256)
def pcT : Nat → Nat → Nat
  | 0, _ => 0
  | n + 1, x => pc8 (x % 256) + pcT n (x / 256)
def bcF (n x : Nat) : Nat := (((x - ((x / 2) &&& m5 n)) &&& m3 n) + (((x - ((x / 2) &&& m5 n)) / 4) &&& m3 n) + (((x - ((x / 2) &&& m5 n)) &&& m3 n) + (((x - ((x / 2) &&& m5 n)) / 4) &&& m3 n)) / 16) &&& mf n
theorem and_sp (a b c d : Nat) (ha : a < 256) (hc : c < 256) : (a + 256 * b) &&& (c + 256 * d) = (a &&& c) + 256 * (b &&& d) := by
  have e : ∀ u v : Nat, u + 256 * v = 2 ^ 8 * v + u := fun u v => by omega
  have hac : (a &&& c) < 2 ^ 8 := Nat.and_lt_two_pow _ hc
  rw [e, e, e]
  apply Nat.eq_of_testBit_eq
  intro j
  rw [Nat.testBit_and, Nat.testBit_two_pow_mul_add b ha, Nat.testBit_two_pow_mul_add d hc, Nat.testBit_two_pow_mul_add _ hac]
  split <;> rw [Nat.testBit_and]
theorem bc_a : ∀ l, l < 256 → ∀ r, r < 2 → ((l / 2 + 128 * r) &&& 0x55) = (l / 2) &&& 0x55 := by decide +kernel
theorem bc_b : ∀ l, l < 256 → ∀ r, r < 4 → ((l / 4 + 64 * r) &&& 0x33) = (l / 4) &&& 0x33 := by decide +kernel
theorem bc_c : ∀ z, z < 103 → ∀ r, r < 7 → ((z + z / 16 + 16 * r) &&& 0x0f) = (z + z / 16) &&& 0x0f := by decide +kernel
theorem bc_d : ∀ l, l < 256 → ((((l - ((l / 2) &&& 0x55)) &&& 0x33) + (((l - ((l / 2) &&& 0x55)) / 4) &&& 0x33) + (((l - ((l / 2) &&& 0x55)) &&& 0x33) + (((l - ((l / 2) &&& 0x55)) / 4) &&& 0x33)) / 16) &&& 0x0f) = pc8 l := by decide +kernel
theorem m3_16 (n : Nat) : m3 n % 16 ≤ 3 := by
  cases n with
  | zero => decide
  | succ n => simp only [m3]; omega
theorem and_m3 (a n : Nat) : (a &&& m3 n) % 16 ≤ 3 := by
  rw [show (16 : Nat) = 2 ^ 4 from rfl, Nat.and_mod_two_pow]
  exact Nat.le_trans Nat.and_le_right (m3_16 n)
theorem bcF_eq : ∀ n x, bcF n x = pcs n x := by
  intro n
  induction n with
  | zero => intro x; simp [bcF, pcs, mf]
  | succ n ih =>
    intro x
    have ih := ih (x / 256)
    simp only [pcs]
    rw [← ih]
    have hl : x % 256 < 256 := Nat.mod_lt _ (by decide)
    have hx : x = x % 256 + 256 * (x / 256) := by omega
    generalize x % 256 = l at hl hx ⊢
    generalize x / 256 = h at hx ⊢
    subst hx
    unfold bcF
    have h1 : (l + 256 * h) / 2 = (l / 2 + 128 * (h % 2)) + 256 * (h / 2) := by omega
    have h2 : ((l + 256 * h) / 2) &&& m5 (n + 1) = ((l / 2) &&& 0x55) + 256 * ((h / 2) &&& m5 n) := by
      rw [h1, m5, and_sp _ _ _ _ (by omega) (by decide), bc_a l hl _ (Nat.mod_lt _ (by decide))]
    have hd := bc_d l hl
    rw [h2]
    have ha : (l / 2) &&& 0x55 ≤ l := Nat.le_trans Nat.and_le_left (Nat.div_le_self _ _)
    have hb : (h / 2) &&& m5 n ≤ h := Nat.le_trans Nat.and_le_left (Nat.div_le_self _ _)
    generalize (l / 2) &&& 0x55 = a at ha hd ⊢
    generalize (h / 2) &&& m5 n = b at hb ⊢
    have h3 : l + 256 * h - (a + 256 * b) = (l - a) + 256 * (h - b) := by omega
    rw [h3]
    have hy : l - a < 256 := by omega
    generalize l - a = y at hy hd ⊢
    generalize h - b = g
    have h4 : (y + 256 * g) &&& m3 (n + 1) = (y &&& 0x33) + 256 * (g &&& m3 n) := by
      rw [m3, and_sp _ _ _ _ hy (by decide)]
    have h5 : ((y + 256 * g) / 4) &&& m3 (n + 1) = ((y / 4) &&& 0x33) + 256 * ((g / 4) &&& m3 n) := by
      rw [show (y + 256 * g) / 4 = (y / 4 + 64 * (g % 4)) + 256 * (g / 4) by omega, m3, and_sp _ _ _ _ (by omega) (by decide), bc_b y hy _ (Nat.mod_lt _ (by decide))]
    rw [h4, h5]
    have z1 : (y &&& 0x33) ≤ 51 := Nat.and_le_right
    have z2 : ((y / 4) &&& 0x33) ≤ 51 := Nat.and_le_right
    have z3 := and_m3 g n
    have z4 := and_m3 (g / 4) n
    generalize (y &&& 0x33) = u at z1 hd ⊢
    generalize ((y / 4) &&& 0x33) = v at z2 hd ⊢
    generalize (g &&& m3 n) = w at z3 ⊢
    generalize ((g / 4) &&& m3 n) = k at z4 ⊢
    have h6 : u + 256 * w + (v + 256 * k) + (u + 256 * w + (v + 256 * k)) / 16 = ((u + v) + (u + v) / 16 + 16 * ((w + k) % 16)) + 256 * (w + k + (w + k) / 16) := by omega
    rw [h6, mf, and_sp _ _ _ _ (by omega) (by decide), bc_c (u + v) (by omega) _ (by omega), hd]
theorem pcs_sum (n x : Nat) : sg_c (fun k => x.testBit k) (8 * n) = pcT n x := by
  induction n generalizing x with
  | zero => rfl
  | succ n ih =>
    simp only [pcT]
    have hl : x % 256 < 2 ^ 8 := Nat.mod_lt _ (by decide)
    have hx : x = 2 ^ 8 * (x / 256) + x % 256 := by omega
    have t : ∀ j, x.testBit j = if j < 8 then (x % 256).testBit j else (x / 256).testBit (j - 8) := by
      intro j
      have q := Nat.testBit_two_pow_mul_add (x / 256) hl j
      rw [← hx] at q
      exact q
    rw [show 8 * (n + 1) = 8 + 8 * n by omega, sg_c_add, ← ih (x / 256)]
    congr 1
    · exact sg_c_congr 8 (fun k hk => by rw [t, if_pos hk])
    · exact sg_c_congr _ (fun k _ => by rw [t, if_neg (by omega)]; congr 1; omega)
theorem pc8_le (l : Nat) : pc8 l ≤ 8 := sg_c_le _ 8
theorem bc_e1 (a b d : Nat) (h : a < 256) : (a + 256 * b) / 256 = b := by omega
theorem bc_e2 (a b d : Nat) (ha : a < 256) (hb : b < 256) : (a + 256 * (b + 256 * d)) / 65536 = d := by omega
theorem bc_e3 (a b c d f : Nat) (ha : a < 256) (hb : b < 256) (hc : c < 256) (hd : d < 256) : (a + 256 * (b + 256 * (c + 256 * (d + 256 * f)))) / 4294967296 = f := by
  have h1 : (a + 256 * (b + 256 * (c + 256 * (d + 256 * f)))) / 65536 = c + 256 * (d + 256 * f) := bc_e2 a b _ ha hb
  have h2 : (c + 256 * (d + 256 * f)) / 65536 = f := bc_e2 c d f hc hd
  rw [show (4294967296 : Nat) = 65536 * 65536 from rfl, ← Nat.div_div_eq_div_mul, h1, h2]
def dg8 (a0 a1 a2 a3 a4 a5 a6 a7 : Nat) : Nat := a0 + 256 * (a1 + 256 * (a2 + 256 * (a3 + 256 * (a4 + 256 * (a5 + 256 * (a6 + 256 * a7))))))
theorem dg8_lt {a0 a1 a2 a3 a4 a5 a6 a7 : Nat} (h0 : a0 < 256) (h1 : a1 < 256) (h2 : a2 < 256) (h3 : a3 < 256) (h4 : a4 < 256) (h5 : a5 < 256) (h6 : a6 < 256) (h7 : a7 < 256) : dg8 a0 a1 a2 a3 a4 a5 a6 a7 < 2 ^ 64 := by
  unfold dg8
  omega
theorem bc_end (x : Nat) : ∀ t, t = pcs 8 x → t + t / 256 < 2 ^ 64 ∧ (t + t / 256) + (t + t / 256) / 65536 < 2 ^ 64 ∧ ((t + t / 256) + (t + t / 256) / 65536) + ((t + t / 256) + (t + t / 256) / 65536) / 4294967296 < 2 ^ 64 ∧ (((t + t / 256) + (t + t / 256) / 65536) + ((t + t / 256) + (t + t / 256) / 65536) / 4294967296) % 128 = pcT 8 x := by
  intro t ht
  simp only [pcs, pcT] at ht ⊢
  have q0 := pc8_le (x % 256)
  have q1 := pc8_le (x / 256 % 256)
  have q2 := pc8_le (x / 256 / 256 % 256)
  have q3 := pc8_le (x / 256 / 256 / 256 % 256)
  have q4 := pc8_le (x / 256 / 256 / 256 / 256 % 256)
  have q5 := pc8_le (x / 256 / 256 / 256 / 256 / 256 % 256)
  have q6 := pc8_le (x / 256 / 256 / 256 / 256 / 256 / 256 % 256)
  have q7 := pc8_le (x / 256 / 256 / 256 / 256 / 256 / 256 / 256 % 256)
  generalize pc8 (x % 256) = p0 at q0 ht ⊢
  generalize pc8 (x / 256 % 256) = p1 at q1 ht ⊢
  generalize pc8 (x / 256 / 256 % 256) = p2 at q2 ht ⊢
  generalize pc8 (x / 256 / 256 / 256 % 256) = p3 at q3 ht ⊢
  generalize pc8 (x / 256 / 256 / 256 / 256 % 256) = p4 at q4 ht ⊢
  generalize pc8 (x / 256 / 256 / 256 / 256 / 256 % 256) = p5 at q5 ht ⊢
  generalize pc8 (x / 256 / 256 / 256 / 256 / 256 / 256 % 256) = p6 at q6 ht ⊢
  generalize pc8 (x / 256 / 256 / 256 / 256 / 256 / 256 / 256 % 256) = p7 at q7 ht ⊢
  have f1 : t / 256 = p1 + 256 * (p2 + 256 * (p3 + 256 * (p4 + 256 * (p5 + 256 * (p6 + 256 * (p7 + 256 * 0)))))) := by rw [ht]; exact bc_e1 _ _ 0 (by omega)
  have f2 : t + t / 256 = dg8 (p0 + p1) (p1 + p2) (p2 + p3) (p3 + p4) (p4 + p5) (p5 + p6) (p6 + p7) p7 := by
    rw [f1, ht]; clear f1 ht; unfold dg8; simp only [Nat.mul_add, Nat.mul_zero, ← Nat.mul_assoc]; omega
  have f3 : dg8 (p0 + p1) (p1 + p2) (p2 + p3) (p3 + p4) (p4 + p5) (p5 + p6) (p6 + p7) p7 / 65536 = (p2 + p3) + 256 * ((p3 + p4) + 256 * ((p4 + p5) + 256 * ((p5 + p6) + 256 * ((p6 + p7) + 256 * p7)))) := bc_e2 _ _ _ (by omega) (by omega)
  have f4 : dg8 (p0 + p1) (p1 + p2) (p2 + p3) (p3 + p4) (p4 + p5) (p5 + p6) (p6 + p7) p7 + dg8 (p0 + p1) (p1 + p2) (p2 + p3) (p3 + p4) (p4 + p5) (p5 + p6) (p6 + p7) p7 / 65536 = dg8 (p0 + p1 + p2 + p3) (p1 + p2 + p3 + p4) (p2 + p3 + p4 + p5) (p3 + p4 + p5 + p6) (p4 + p5 + p6 + p7) (p5 + p6 + p7) (p6 + p7) p7 := by
    rw [f3]; clear f1 f2 f3 ht; unfold dg8; simp only [Nat.mul_add, ← Nat.mul_assoc]; omega
  have f5 : dg8 (p0 + p1 + p2 + p3) (p1 + p2 + p3 + p4) (p2 + p3 + p4 + p5) (p3 + p4 + p5 + p6) (p4 + p5 + p6 + p7) (p5 + p6 + p7) (p6 + p7) p7 / 4294967296 = (p4 + p5 + p6 + p7) + 256 * ((p5 + p6 + p7) + 256 * ((p6 + p7) + 256 * p7)) := bc_e3 _ _ _ _ _ (by omega) (by omega) (by omega) (by omega)
  have f6 : dg8 (p0 + p1 + p2 + p3) (p1 + p2 + p3 + p4) (p2 + p3 + p4 + p5) (p3 + p4 + p5 + p6) (p4 + p5 + p6 + p7) (p5 + p6 + p7) (p6 + p7) p7 + dg8 (p0 + p1 + p2 + p3) (p1 + p2 + p3 + p4) (p2 + p3 + p4 + p5) (p3 + p4 + p5 + p6) (p4 + p5 + p6 + p7) (p5 + p6 + p7) (p6 + p7) p7 / 4294967296 = dg8 (p0 + p1 + p2 + p3 + p4 + p5 + p6 + p7) (p1 + p2 + p3 + p4 + p5 + p6 + p7) (p2 + p3 + p4 + p5 + p6 + p7) (p3 + p4 + p5 + p6 + p7) (p4 + p5 + p6 + p7) (p5 + p6 + p7) (p6 + p7) p7 := by
    rw [f5]; clear f1 f2 f3 f4 f5 ht; unfold dg8; simp only [Nat.mul_add, ← Nat.mul_assoc]; omega
  rw [f2, f4, f6]
  clear f1 f2 f3 f4 f5 f6 ht
  refine ⟨dg8_lt (by omega) (by omega) (by omega) (by omega) (by omega) (by omega) (by omega) (by omega), dg8_lt (by omega) (by omega) (by omega) (by omega) (by omega) (by omega) (by omega) (by omega), dg8_lt (by omega) (by omega) (by omega) (by omega) (by omega) (by omega) (by omega) (by omega), ?_⟩
  unfold dg8
  generalize 256 * (p2 + p3 + p4 + p5 + p6 + p7 + 256 * (p3 + p4 + p5 + p6 + p7 + 256 * (p4 + p5 + p6 + p7 + 256 * (p5 + p6 + p7 + 256 * (p6 + p7 + 256 * p7))))) = z
  omega
/-- bit k of a long -/
def sg_b (x : Int64) (k : Nat) : Bool := (uN x).testBit k
def g_sh (x : Int64) (a : Int32) : Int64 := (x.toUInt64 >>> (a.toInt64.toUInt64 &&& Int64.toUInt64 63)).toInt64
theorem g_sh_uN (x : Int64) {k : Nat} (hk : k < 64) : uN (g_sh x (nI k)) = uN x / 2 ^ k := uN_sk x hk
def g_bc1 (x : Int64) : Int64 := x - (g_sh x 1 &&& 6148914691236517205)
def g_bc2 (x : Int64) : Int64 := (x &&& 3689348814741910323) + (g_sh x 2 &&& 3689348814741910323)
def g_bc3 (x : Int64) : Int64 := (x + g_sh x 4) &&& 1085102592571150095
def g_bc4 (x : Int64) : Int64 := x + g_sh x 8
def g_bc5 (x : Int64) : Int64 := x + g_sh x 16
def g_bc6 (x : Int64) : Int64 := x + g_sh x 32
def g_bc (x : Int64) : Int32 := (g_bc6 (g_bc5 (g_bc4 (g_bc3 (g_bc2 (g_bc1 x)))))).toInt32 &&& 127
theorem bc_m5 : m5 8 = 6148914691236517205 := by decide +kernel
theorem bc_m3 : m3 8 = 3689348814741910323 := by decide +kernel
theorem bc_mf : mf 8 = 1085102592571150095 := by decide +kernel
theorem g_bc_eq (x : Int64) : g_bc x = nI (sg_c (sg_b x) 64) := by
  have hx := uN_lt x
  unfold g_bc
  have k1 : uN (g_sh x 1) = uN x / 2 := g_sh_uN x (k := 1) (by decide)
  have c5 : uN 6148914691236517205 = m5 8 := by rw [bc_m5]; decide
  have c3 : uN 3689348814741910323 = m3 8 := by rw [bc_m3]; decide
  have cf : uN 1085102592571150095 = mf 8 := by rw [bc_mf]; decide
  have b1 : uN (g_bc1 x) = uN x - ((uN x / 2) &&& m5 8) := by
    have e : uN (g_sh x 1 &&& 6148914691236517205) = (uN x / 2) &&& m5 8 := by rw [uN_and, k1, c5]
    unfold g_bc1
    rw [uN_sub _ _ (by rw [e]; exact Nat.le_trans Nat.and_le_left (Nat.div_le_self _ _)), e]
  generalize g_bc1 x = x1 at b1 ⊢
  have k2 : uN (g_sh x1 2) = uN x1 / 4 := g_sh_uN x1 (k := 2) (by decide)
  have l3 : m3 8 < 2 ^ 62 := by rw [bc_m3]; decide
  have b2 : uN (g_bc2 x1) = ((uN x1) &&& m3 8) + ((uN x1 / 4) &&& m3 8) := by
    have u1 : (uN x1 &&& m3 8) ≤ m3 8 := Nat.and_le_right
    have u2 : (uN x1 / 4 &&& m3 8) ≤ m3 8 := Nat.and_le_right
    unfold g_bc2
    rw [uN_add, uN_and, uN_and, k2, c3, Nat.mod_eq_of_lt (by omega)]
  have b2le : uN (g_bc2 x1) < 2 ^ 63 := by
    rw [b2]
    have u1 : (uN x1 &&& m3 8) ≤ m3 8 := Nat.and_le_right
    have u2 : (uN x1 / 4 &&& m3 8) ≤ m3 8 := Nat.and_le_right
    omega
  generalize g_bc2 x1 = x2 at b2 b2le ⊢
  have k3 : uN (g_sh x2 4) = uN x2 / 16 := g_sh_uN x2 (k := 4) (by decide)
  have b3 : uN (g_bc3 x2) = bcF 8 (uN x) := by
    unfold g_bc3
    rw [uN_and, uN_add, k3, cf, Nat.mod_eq_of_lt (by omega), b2, b1]
    rfl
  generalize g_bc3 x2 = x3 at b3 ⊢
  rw [bcF_eq] at b3
  obtain ⟨r1, r2, r3, r4⟩ := bc_end (uN x) _ b3
  have k4 : uN (g_sh x3 8) = uN x3 / 256 := g_sh_uN x3 (k := 8) (by decide)
  have b4 : uN (g_bc4 x3) = uN x3 + uN x3 / 256 := by
    unfold g_bc4
    rw [uN_add, k4, Nat.mod_eq_of_lt r1]
  rw [← b4] at r2 r3 r4
  generalize g_bc4 x3 = x4 at r2 r3 r4 ⊢
  have k5 : uN (g_sh x4 16) = uN x4 / 65536 := g_sh_uN x4 (k := 16) (by decide)
  have b5 : uN (g_bc5 x4) = uN x4 + uN x4 / 65536 := by
    unfold g_bc5
    rw [uN_add, k5, Nat.mod_eq_of_lt r2]
  rw [← b5] at r3 r4
  generalize g_bc5 x4 = x5 at r3 r4 ⊢
  have k6 : uN (g_sh x5 32) = uN x5 / 4294967296 := g_sh_uN x5 (k := 32) (by decide)
  have b6 : uN (g_bc6 x5) = uN x5 + uN x5 / 4294967296 := by
    unfold g_bc6
    rw [uN_add, k6, Nat.mod_eq_of_lt r3]
  rw [← b6] at r4
  generalize g_bc6 x5 = x6 at r4 ⊢
  rw [pk_and x6.toInt32 7 (by decide)]
  have hb : x6.toInt32.toBitVec.toNat % 2 ^ 7 = uN x6 % 128 := by
    rw [Int64.toBitVec_toInt32, BitVec.signExtend_eq_setWidth_of_le _ (by decide), BitVec.toNat_setWidth]
    show uN x6 % 2 ^ 32 % 2 ^ 7 = _
    omega
  rw [hb, r4, ← pcs_sum 8 (uN x)]
  rfl
end
section
/-! the mathematical value: bs (the number of the first byte that is not read), u bytes wait, T q: the byte at bs + q is taken, B q: that byte; e: the END's distance from bs -/
def updB (T : Nat → Bool) (k : Nat) : Nat → Bool := fun j => if j = k then true else T j
def bI (c : Prop) [Decidable c] : Int32 := if c then 1 else 0
theorem bI_t {c : Prop} [Decidable c] (h : c) : (1 : Int32) = bI c := (if_pos h).symm
theorem bI_f {c : Prop} [Decidable c] (h : ¬ c) : (0 : Int32) = bI c := (if_neg h).symm
theorem bI_iff {c d : Prop} [Decidable c] [Decidable d] (h : c ↔ d) : bI c = bI d := by
  unfold bI
  by_cases hc : c
  · rw [if_pos hc, if_pos (h.mp hc)]
  · rw [if_neg hc, if_neg (fun q => hc (h.mpr q))]
theorem bI_0 {c : Prop} [Decidable c] : bI c = 0 ↔ ¬ c := by
  unfold bI
  by_cases hc : c
  · rw [if_pos hc]; exact ⟨fun h => absurd h (by decide), fun h => absurd hc h⟩
  · rw [if_neg hc]; exact ⟨fun _ => hc, fun _ => rfl⟩
abbrev c_held (hb : Int64) (a : Int32) : Prop := ¬ a < 0 ∧ a < 64 ∧ ¬ (g_sh hb a &&& 1) = 0
abbrev c_from (hb : Int64) (a : Int32) : Prop := ¬ a < 0 ∧ a < 64 ∧ ¬ g_sh hb a = 0
abbrev c_bef (nx ek en a : Int32) : Prop := ek = 0 ∨ a < en - nx
abbrev c_ok (nx un ek en : Int32) (hb : Int64) (a : Int32) : Prop := ¬ a < 0 ∧ a < 64 - un ∧ ¬ c_held hb a ∧ c_bef nx ek en a
def c_tk (nx un ek en n v : Int32) (S : Int64 × (Nat → Int32)) : Int64 × (Nat → Int32) :=
  if c_ok nx un ek en S.1 (n - nx) then (S.1 ||| ((1 : Int64) <<< ((n - nx).toInt64 &&& 63)), upd S.2 (n &&& 63).toNatClampNeg (vp_nar .byte v)) else S
def c_by (v : Int64) (i : Nat) : Int32 := (g_sh v (8 * nI i)).toInt32.toInt8.toInt32
def c_sg (nx un ek en n : Int32) (v : Int64) : Nat → Int64 × (Nat → Int32) → Int64 × (Nat → Int32)
  | 0, S => S
  | i + 1, S => c_tk nx un ek en (n + nI i) (c_by v i) (c_sg nx un ek en n v i S)
def c_st (hb : Int64) : Int64 := hb &&& ((hb <<< ((1 : Int32).toInt64 &&& 63)) ^^^ (-1))
/-- the beginnings of blocks -/
def st (p : Nat → Bool) (k : Nat) : Bool := p k && !(decide (0 < k) && p (k - 1))
/-! bits -/
theorem sg_b_big {x : Int64} {k : Nat} (h : 64 ≤ k) : sg_b x k = false := Nat.testBit_lt_two_pow (Nat.lt_of_lt_of_le (uN_lt x) (Nat.pow_le_pow_right (n := 2) (by decide) h))
theorem sg_b_sh {x : Int64} {a : Nat} (ha : a < 64) (k : Nat) : sg_b (g_sh x (nI a)) k = sg_b x (a + k) := by
  unfold sg_b
  rw [g_sh_uN x ha, Nat.testBit_div_two_pow, Nat.add_comm]
theorem sg_b_bit (x : Int64) : (x &&& 1) = 0 ↔ sg_b x 0 = false := by
  rw [uN_bit]
  unfold sg_b
  rw [Nat.testBit_zero]
  have := Nat.mod_two_eq_zero_or_one (uN x)
  rcases this with h | h <;> rw [h] <;> decide
theorem sg_held {hb : Int64} {k : Nat} (h : k < 64) : c_held hb (nI k) ↔ sg_b hb k = true := by
  unfold c_held
  rw [sg_b_bit, sg_b_sh h, Nat.add_zero]
  constructor
  · intro q
    simpa using q.2.2
  · intro q
    exact ⟨nI_pos (by omega), nI_lt h (by decide), by rw [q]; decide⟩
theorem sg_held_out {hb : Int64} {a : Int32} (h : ¬ ∃ k, k < 64 ∧ a = nI k) : ¬ c_held hb a := by
  intro q
  rcases pk_ix a (n := 64) (by decide) with c | c | c
  · exact q.1 c
  · exact absurd q.2.1 (by
      have e : (64 : Int32) ≤ a := c
      rw [Int32.le_iff_toInt_le] at e
      rw [Int32.lt_iff_toInt_lt]
      omega)
  · exact h c
theorem sg_z {x : Int64} : x = 0 ↔ ∀ k, sg_b x k = false := by
  constructor
  · intro h k
    rw [h]
    exact Nat.zero_testBit k
  · intro h
    exact uN_inj (Nat.eq_of_testBit_eq (fun k => by rw [show (uN x).testBit k = false from h k]; exact (Nat.zero_testBit k).symm))
theorem sg_from {hb : Int64} {k : Nat} (h : k < 64) : c_from hb (nI k) ↔ ∃ j, j < 64 ∧ k ≤ j ∧ sg_b hb j = true := by
  unfold c_from
  constructor
  · intro q
    apply Classical.byContradiction
    intro hn
    apply q.2.2
    rw [sg_z]
    intro j
    rw [sg_b_sh h]
    by_cases hj : k + j < 64
    · cases hs : sg_b hb (k + j) with
      | false => rfl
      | true => exact absurd ⟨k + j, hj, by omega, hs⟩ hn
    · exact sg_b_big (by omega)
  · rintro ⟨j, h1, h2, h3⟩
    refine ⟨nI_pos (by omega), nI_lt h (by decide), fun q => ?_⟩
    have := sg_z.mp q (j - k)
    rw [sg_b_sh h, Nat.add_sub_cancel' h2, h3] at this
    cases this
theorem sg_cu : ∀ k, k < 64 → (((nI k).toInt64 &&& 63).toBitVec.smod 64).toNat = k := by decide +kernel
theorem sg_one {a : Nat} (ha : a < 64) : uN ((1 : Int64) <<< ((nI a).toInt64 &&& 63)) = 2 ^ a := by
  show ((1 : Int64).toBitVec <<< (((nI a).toInt64 &&& 63).toBitVec.smod 64).toNat).toNat = _
  rw [sg_cu a ha, BitVec.toNat_shiftLeft, Nat.shiftLeft_eq]
  have e : (1 : Int64).toBitVec.toNat = 1 := by decide
  rw [e, Nat.one_mul, Nat.mod_eq_of_lt (Nat.pow_lt_pow_right (by decide) ha)]
theorem sg_b_or {x : Int64} {a : Nat} (ha : a < 64) (k : Nat) : sg_b (x ||| ((1 : Int64) <<< ((nI a).toInt64 &&& 63))) k = (sg_b x k || decide (a = k)) := by
  unfold sg_b
  rw [uN_orr, Nat.testBit_or, sg_one ha, Nat.testBit_two_pow]
theorem sg_m1 : uN (-1 : Int64) = 2 ^ 64 - 1 := by decide
theorem sg_b_st (hb : Int64) {k : Nat} (hk : k < 64) : sg_b (c_st hb) k = st (sg_b hb) k := by
  unfold c_st sg_b st
  rw [uN_and, uN_xorr, uN_shl, sg_m1, Nat.testBit_and, Nat.testBit_xor, Nat.testBit_two_pow_sub_one]
  have e : ((2 * uN hb) % 18446744073709551616).testBit k = (decide (0 < k) && (uN hb).testBit (k - 1)) := by
    rw [show (18446744073709551616 : Nat) = 2 ^ 64 from rfl, Nat.testBit_mod_two_pow]
    cases k with
    | zero => simp
    | succ k => rw [show 2 * uN hb = 2 ^ 1 * uN hb by omega, Nat.testBit_two_pow_mul]; simp [hk]
  rw [e]
  simp [hk]
/-! numbers of bytes and their slots -/
def bN (x : Int32) : Nat := x.toBitVec.toNat
def sl (bs : Int32) (q : Nat) : Nat := ((bs + nI q) &&& 63).toNatClampNeg
theorem sl_eq (bs : Int32) (q : Nat) : sl bs q = (bN bs + q) % 64 := by
  unfold sl
  rw [pk_and (bs + nI q) 6 (by decide), nI_clamp (by omega)]
  unfold bN
  have e : (bs + nI q).toBitVec.toNat = (bs.toBitVec.toNat + q % 2 ^ 32) % 2 ^ 32 := by
    rw [Int32.toBitVec_add, BitVec.toNat_add]
    rfl
  rw [e]
  omega
theorem sl_inj {bs : Int32} {p q : Nat} (hp : p < 64) (hq : q < 64) (h : sl bs p = sl bs q) : p = q := by
  rw [sl_eq, sl_eq] at h
  omega
theorem sl_lt (bs : Int32) (q : Nat) : sl bs q < 64 := by
  rw [sl_eq]; exact Nat.mod_lt _ (by decide)
theorem nI_sub0 (x : Int32) (u : Nat) : x - nI u + nI u = x := Int32.sub_add_cancel x (nI u)
/-- a byte may be taken: in the words of the distance a from NEXT, and of the distance x from the base -/
theorem tk_iff {bs N ek en : Int32} {u e : Nat} {T : Nat → Bool} {held : Int32 → Prop} (hu : u ≤ 64) (hrun : ∀ q, q < u → T q = true) (hheld : ∀ k, k + u < 64 → (held (nI k) ↔ T (u + k) = true))
    (hek : ek = 0 ∨ (u ≤ e ∧ e ≤ 64 ∧ en = bs + nI e)) :
    (¬ (N - (bs + nI u)) < 0 ∧ (N - (bs + nI u)) < 64 - nI u ∧ ¬ held (N - (bs + nI u)) ∧ c_bef (bs + nI u) ek en (N - (bs + nI u))) ↔ ∃ q, q < 64 ∧ N = bs + nI q ∧ T q = false ∧ (ek = 0 ∨ q < e) := by
  have e64 : (64 : Int32) - nI u = nI (64 - u) := pk_sub (a := 64) hu
  constructor
  · rintro ⟨h1, h2, h3, h4⟩
    rw [e64] at h2
    rcases pk_ix (N - (bs + nI u)) (n := 64 - u) (by omega) with c | c | ⟨k, hk, c⟩
    · exact absurd c h1
    · exact absurd h2 (by
        rw [Int32.lt_iff_toInt_lt]
        rw [Int32.le_iff_toInt_le] at c
        omega)
    · have hN : N = bs + nI (u + k) := by
        rw [← nI_add, ← Int32.add_assoc, ← c, Int32.add_comm (bs + nI u), Int32.sub_add_cancel]
      refine ⟨u + k, by omega, hN, ?_, ?_⟩
      · rw [c, hheld k (by omega)] at h3
        simpa using h3
      · rcases hek with q | ⟨q1, q2, q3⟩
        · exact Or.inl q
        · rcases h4 with h4 | h4
          · exact Or.inl h4
          · right
            rw [c, q3] at h4
            have e1 : bs + nI e - (bs + nI u) = nI (e - u) := by
              have : nI e = nI u + nI (e - u) := by rw [nI_add]; congr 1; omega
              rw [this, ← Int32.add_assoc, Int32.add_comm (bs + nI u), Int32.add_sub_cancel]
            rw [e1, nI_ltI (by omega) (by omega)] at h4
            omega
  · rintro ⟨q, hq, rfl, hT, hE⟩
    have huq : u ≤ q := by
      apply Nat.le_of_not_lt
      intro h
      rw [hrun q h] at hT
      cases hT
    have e1 : bs + nI q - (bs + nI u) = nI (q - u) := by
      have : nI q = nI u + nI (q - u) := by rw [nI_add]; congr 1; omega
      rw [this, ← Int32.add_assoc, Int32.add_comm (bs + nI u), Int32.add_sub_cancel]
    rw [e1, e64]
    refine ⟨nI_pos (by omega), nI_lt (by omega) (by omega), ?_, ?_⟩
    · rw [hheld _ (by omega), show u + (q - u) = q by omega, hT]
      decide
    · rcases hE with h | h
      · exact Or.inl h
      · rcases hek with q0 | ⟨q1, q2, q3⟩
        · exact Or.inl q0
        · right
          rw [q3]
          have e2 : bs + nI e - (bs + nI u) = nI (e - u) := by
            have : nI e = nI u + nI (e - u) := by rw [nI_add]; congr 1; omega
            rw [this, ← Int32.add_assoc, Int32.add_comm (bs + nI u), Int32.add_sub_cancel]
          rw [e2]
          exact nI_lt (by omega) (by omega)
end
section
abbrev aS : Type := (Nat → Bool) × (Nat → Int32)
abbrev a_ok (bs N ek : Int32) (e : Nat) (T : Nat → Bool) : Prop := ¬ (N - bs) < 0 ∧ (N - bs) < 64 ∧ T (N - bs).toNatClampNeg = false ∧ (ek = 0 ∨ (N - bs).toNatClampNeg < e)
theorem a_ok_iff {bs N ek : Int32} {e : Nat} {T : Nat → Bool} : a_ok bs N ek e T ↔ ∃ q, q < 64 ∧ N = bs + nI q ∧ T q = false ∧ (ek = 0 ∨ q < e) := by
  constructor
  · rintro ⟨h1, h2, h3, h4⟩
    rcases pk_ix (N - bs) (n := 64) (by decide) with c | c | ⟨k, hk, c⟩
    · exact absurd c h1
    · exact absurd h2 (by
        have e : (64 : Int32) ≤ N - bs := c
        rw [Int32.lt_iff_toInt_lt]
        rw [Int32.le_iff_toInt_le] at e
        omega)
    · rw [c, nI_clamp (by omega)] at h3 h4
      exact ⟨k, hk, by rw [← c, Int32.add_comm, Int32.sub_add_cancel], h3, h4⟩
  · rintro ⟨q, hq, rfl, h3, h4⟩
    have e : bs + nI q - bs = nI q := by rw [Int32.add_comm, Int32.add_sub_cancel]
    unfold a_ok
    rw [e, nI_clamp (by omega)]
    exact ⟨nI_pos (by omega), nI_lt hq (by decide), h3, h4⟩
def a_tk (bs ek : Int32) (e : Nat) (N v : Int32) (S : aS) : aS := if a_ok bs N ek e S.1 then (updB S.1 (N - bs).toNatClampNeg, upd S.2 (N - bs).toNatClampNeg v) else S
theorem a_tk_t {bs ek N v : Int32} {e q : Nat} {S : aS} (hq : q < 64) (hN : N = bs + nI q) (hT : S.1 q = false) (hE : ek = 0 ∨ q < e) : a_tk bs ek e N v S = (updB S.1 q, upd S.2 q v) := by
  unfold a_tk
  rw [if_pos (a_ok_iff.mpr ⟨q, hq, hN, hT, hE⟩)]
  have e : N - bs = nI q := by rw [hN, Int32.add_comm, Int32.add_sub_cancel]
  rw [e, nI_clamp (by omega)]
theorem a_tk_f {bs ek N v : Int32} {e : Nat} {S : aS} (h : ¬ ∃ q, q < 64 ∧ N = bs + nI q ∧ S.1 q = false ∧ (ek = 0 ∨ q < e)) : a_tk bs ek e N v S = S := by
  unfold a_tk
  rw [if_neg (fun z => h (a_ok_iff.mp z))]
def a_by (v : Int64) (i : Nat) : Int32 := (v >>> ((8 * nI i).toInt64 &&& 63)).toInt32 &&& 255
def a_sg (bs ek : Int32) (e : Nat) (n : Int32) (v : Int64) : Nat → aS → aS
  | 0, S => S
  | i + 1, S => a_tk bs ek e (n + nI i) (a_by v i) (a_sg bs ek e n v i S)
/-- what a state keeps -/
def IV (u e : Nat) (ek : Int32) (T : Nat → Bool) : Prop := u ≤ 64 ∧ (∀ q, q < u → T q = true) ∧ (∀ q, 64 ≤ q → T q = false) ∧ (ek = 0 ∨ (u ≤ e ∧ e ≤ 64 ∧ ∀ q, e ≤ q → T q = false))
theorem updB_s {T : Nat → Bool} {k : Nat} : updB T k k = true := if_pos rfl
theorem updB_n {T : Nat → Bool} {k j : Nat} (h : j ≠ k) : updB T k j = T j := if_neg h
theorem updB_le {T : Nat → Bool} {k j : Nat} (h : T j = true) : updB T k j = true := by
  unfold updB
  split
  · rfl
  · exact h
theorem IV_put {u e q : Nat} {ek : Int32} {T : Nat → Bool} (h : IV u e ek T) (hq : q < 64) (hE : ek = 0 ∨ q < e) : IV u e ek (updB T q) := by
  obtain ⟨h1, h2, h3, h4⟩ := h
  refine ⟨h1, fun p hp => updB_le (h2 p hp), fun p hp => by rw [updB_n (by omega)]; exact h3 p hp, ?_⟩
  rcases h4 with h4 | ⟨g1, g2, g3⟩
  · exact Or.inl h4
  · rcases hE with hE | hE
    · exact Or.inl hE
    · exact Or.inr ⟨g1, g2, fun p hp => by rw [updB_n (by omega)]; exact g3 p hp⟩
theorem IV_tk {u e : Nat} {bs ek N v : Int32} {S : aS} (h : IV u e ek S.1) : IV u e ek (a_tk bs ek e N v S).1 := by
  by_cases c : ∃ q, q < 64 ∧ N = bs + nI q ∧ S.1 q = false ∧ (ek = 0 ∨ q < e)
  · obtain ⟨q, c1, c2, c3, c4⟩ := c
    rw [a_tk_t c1 c2 c3 c4]
    exact IV_put h c1 c4
  · rw [a_tk_f c]
    exact h
theorem IV_sg {u e : Nat} {bs ek n : Int32} {v : Int64} {S : aS} (h : IV u e ek S.1) (i : Nat) : IV u e ek (a_sg bs ek e n v i S).1 := by
  induction i with
  | zero => exact h
  | succ i ih => exact IV_tk ih
/-- the class's long and bytes -/
def CRs (bs : Int32) (u : Nat) (S : aS) (C : Int64 × (Nat → Int32)) : Prop := (∀ k, sg_b C.1 k = S.1 (u + k)) ∧ ∀ q, q < 64 → S.1 q = true → C.2 (sl bs q) &&& 255 = S.2 q
theorem CR_tk {u e : Nat} {bs ek en N v w : Int32} {S : aS} {C : Int64 × (Nat → Int32)} (h : IV u e ek S.1) (hc : CRs bs u S C) (he : ek = 0 ∨ en = bs + nI e) (hv : vp_nar .byte v &&& 255 = w) :
    CRs bs u (a_tk bs ek e N w S) (c_tk (bs + nI u) (nI u) ek en N v C) := by
  obtain ⟨h1, h2, h3, h4⟩ := id h
  obtain ⟨g1, g2⟩ := id hc
  have key := tk_iff (bs := bs) (N := N) (ek := ek) (en := en) (u := u) (e := e) (T := S.1) (held := c_held C.1) h1 h2 (fun k hk => by rw [sg_held (by omega), g1 k]) (by
    rcases h4 with h4 | ⟨z1, z2, -⟩
    · exact Or.inl h4
    · rcases he with he | he
      · exact Or.inl he
      · exact Or.inr ⟨z1, z2, he⟩)
  unfold c_tk
  by_cases c : ∃ q, q < 64 ∧ N = bs + nI q ∧ S.1 q = false ∧ (ek = 0 ∨ q < e)
  · rw [if_pos (key.mpr c)]
    obtain ⟨q, c1, c2, c3, c4⟩ := c
    rw [a_tk_t c1 c2 c3 c4]
    have huq : u ≤ q := by
      apply Nat.le_of_not_lt
      intro z
      rw [h2 q z] at c3
      cases c3
    have e1 : N - (bs + nI u) = nI (q - u) := by
      have : nI q = nI u + nI (q - u) := by rw [nI_add]; congr 1; omega
      rw [c2, this, ← Int32.add_assoc, Int32.add_comm (bs + nI u), Int32.add_sub_cancel]
    refine ⟨fun k => ?_, fun p hp hT => ?_⟩
    · show sg_b (C.1 ||| _) k = updB S.1 q (u + k)
      rw [e1, sg_b_or (by omega), g1 k]
      unfold updB
      by_cases z : u + k = q
      · rw [if_pos z, show decide (q - u = k) = true from decide_eq_true (by omega), Bool.or_true]
      · rw [if_neg z, show decide (q - u = k) = false from decide_eq_false (by omega), Bool.or_false]
    · show upd C.2 (N &&& 63).toNatClampNeg (vp_nar .byte v) (sl bs p) &&& 255 = upd S.2 q w p
      have e2 : (N &&& 63).toNatClampNeg = sl bs q := by rw [c2]; rfl
      rw [e2]
      by_cases z : p = q
      · rw [z, pk_us, pk_us]
        exact hv
      · rw [pk_un (fun y => z (sl_inj hp c1 y)), pk_un z]
        have hT : updB S.1 q p = true := hT
        rw [updB_n z] at hT
        exact g2 p hp hT
  · rw [if_neg (fun z => c (key.mp z)), a_tk_f c]
    exact hc
theorem by_eq (v : Int64) {i : Nat} (hi : i < 8) : vp_nar .byte (c_by v i) &&& 255 = a_by v i := by
  unfold c_by a_by
  have e8 : (8 : Int32) * nI i = nI (8 * i) := pk_mul 8 i
  rw [pk_vb, e8]
  have h0 : ∀ x : Int32, x.toInt8.toInt32 &&& 255 = x &&& 255 := by
    intro x
    rw [pk_and x.toInt8.toInt32 8 (by decide), pk_and x 8 (by decide)]
    congr 1
    apply Nat.eq_of_testBit_eq
    intro j
    rw [Nat.testBit_mod_two_pow, Nat.testBit_mod_two_pow]
    by_cases hj : j < 8
    · congr 1
      show x.toInt8.toInt32.toBitVec.getLsbD j = x.toBitVec.getLsbD j
      rw [Int8.toBitVec_toInt32, BitVec.getLsbD_signExtend]
      rw [Int32.toBitVec_toInt8, BitVec.signExtend_eq_setWidth_of_le _ (by decide), BitVec.getLsbD_setWidth]
      simp [hj, show j < 32 by omega]
    · simp [hj]
  rw [h0, pk_and _ 8 (by decide), pk_and _ 8 (by decide)]
  congr 1
  apply Nat.eq_of_testBit_eq
  intro j
  rw [Nat.testBit_mod_two_pow, Nat.testBit_mod_two_pow]
  by_cases hj : j < 8
  · congr 1
    show (g_sh v (nI (8 * i))).toInt32.toBitVec.getLsbD j = (v >>> ((nI (8 * i)).toInt64 &&& 63)).toInt32.toBitVec.getLsbD j
    rw [Int64.toBitVec_toInt32, Int64.toBitVec_toInt32, BitVec.signExtend_eq_setWidth_of_le _ (by decide), BitVec.signExtend_eq_setWidth_of_le _ (by decide), BitVec.getLsbD_setWidth, BitVec.getLsbD_setWidth]
    congr 1
    have a1 : (g_sh v (nI (8 * i))).toBitVec.getLsbD j = v.toBitVec.getLsbD (8 * i + j) := sg_b_sh (x := v) (a := 8 * i) (by omega) j
    have a2 : (v >>> ((nI (8 * i)).toInt64 &&& 63)).toBitVec = v.toBitVec.sshiftRight (8 * i) := by
      show v.toBitVec.sshiftRight (((nI (8 * i)).toInt64 &&& 63).toBitVec.smod 64).toNat = _
      rw [sg_cu (8 * i) (by omega)]
    rw [a1, a2, BitVec.getLsbD_sshiftRight]
    simp [show 8 * i + j < 64 by omega, show ¬ 64 ≤ j by omega]
  · simp [hj]
theorem CR_sg {u e : Nat} {bs ek en n : Int32} {v : Int64} {S : aS} {C : Int64 × (Nat → Int32)} (h : IV u e ek S.1) (hc : CRs bs u S C) (he : ek = 0 ∨ en = bs + nI e) :
    ∀ i, i ≤ 8 → CRs bs u (a_sg bs ek e n v i S) (c_sg (bs + nI u) (nI u) ek en n v i C) := by
  intro i
  induction i with
  | zero => exact fun _ => hc
  | succ i ih => exact fun hi => CR_tk (IV_sg h i) (ih (by omega)) he (by_eq v (by omega))
/-- NEXT moves on: j bytes -/
theorem CR_mv {u e : Nat} {bs ek : Int32} {S : aS} {hb hb' : Int64} {fb : Nat → Int32} {j : Nat} (h : IV u e ek S.1) (hc : CRs bs u S (hb, fb)) (hj : j ≤ 64) (h1 : ∀ i, i < j → sg_b hb i = true) (h2 : j < 64 → sg_b hb j = false) (h3 : uN hb' = uN hb / 2 ^ j) :
    IV (u + j) e ek S.1 ∧ S.1 (u + j) = false ∧ CRs bs (u + j) S (hb', fb) := by
  obtain ⟨v1, v2, v3, v4⟩ := h
  obtain ⟨g1, g2⟩ := hc
  have run : ∀ q, q < u + j → S.1 q = true := by
    intro q hq
    by_cases z : q < u
    · exact v2 q z
    · have := h1 (q - u) (by omega)
      rw [g1, show u + (q - u) = q by omega] at this
      exact this
  have le : u + j ≤ 64 := by
    apply Nat.le_of_not_lt
    intro z
    have := run 64 z
    rw [v3 64 (Nat.le_refl _)] at this
    cases this
  refine ⟨⟨le, run, v3, ?_⟩, ?_, fun k => ?_, g2⟩
  · rcases v4 with v4 | ⟨w1, w2, w3⟩
    · exact Or.inl v4
    · refine Or.inr ⟨?_, w2, w3⟩
      apply Nat.le_of_not_lt
      intro z
      have := run e z
      rw [w3 e (Nat.le_refl _)] at this
      cases this
  · by_cases z : j < 64
    · rw [← g1 j]; exact h2 z
    · exact v3 _ (by omega)
  · show sg_b hb' k = _
    have e1 : sg_b hb' k = sg_b hb (j + k) := by
      unfold sg_b
      rw [h3, Nat.testBit_div_two_pow, Nat.add_comm]
    rw [e1, g1, Nat.add_assoc]
/-- a byte is read -/
theorem CR_rd {u : Nat} {bs : Int32} {S : aS} {C : Int64 × (Nat → Int32)} (hc : CRs bs (u + 1) S C) (h3 : ∀ q, 64 ≤ q → S.1 q = false) : CRs (bs + 1) u (fun q => S.1 (q + 1), fun q => S.2 (q + 1)) C := by
  obtain ⟨g1, g2⟩ := hc
  refine ⟨fun k => by rw [g1, show u + 1 + k = u + k + 1 by omega], fun q hq hT => ?_⟩
  have hT : S.1 (q + 1) = true := hT
  have hq1 : q + 1 < 64 := by
    apply Nat.lt_of_not_le
    intro z
    rw [h3 _ z] at hT
    cases hT
  have e1 : sl (bs + 1) q = sl bs (q + 1) := by
    unfold sl
    rw [nI_succ, Int32.add_assoc, Int32.add_comm 1]
  rw [e1]
  exact g2 (q + 1) hq1 hT
theorem IV_rd {u e : Nat} {ek : Int32} {T : Nat → Bool} (h : IV (u + 1) e ek T) : IV u (e - 1) ek (fun q => T (q + 1)) := by
  obtain ⟨h1, h2, h3, h4⟩ := h
  refine ⟨by omega, fun q hq => h2 _ (by omega), fun q hq => h3 _ (by omega), ?_⟩
  rcases h4 with h4 | ⟨z1, z2, z3⟩
  · exact Or.inl h4
  · exact Or.inr ⟨by omega, by omega, fun q hq => z3 _ (by omega)⟩
/-- the model's three arrays -/
def MRa (u : Nat) (S : aS) (fU fB fH : Nat → Int32) : Prop := (∀ k, k < 64 → fH k = if S.1 (u + k) = true then 1 else 0) ∧ (∀ k, k < 64 → S.1 (u + k) = true → fB k = S.2 (u + k)) ∧ ∀ q, q < u → fU q = S.2 q
theorem MR_put {u k : Nat} {S : aS} {fU fB fH : Nat → Int32} {w : Int32} (h : MRa u S fU fB fH) : MRa u (updB S.1 (u + k), upd S.2 (u + k) w) fU (upd fB k w) (upd fH k 1) := by
  obtain ⟨h1, h2, h3⟩ := h
  refine ⟨fun j hj => ?_, fun j hj hT => ?_, fun q hq => ?_⟩
  · show upd fH k 1 j = if updB S.1 (u + k) (u + j) = true then 1 else 0
    by_cases z : j = k
    · rw [z, pk_us, updB_s, if_pos rfl]
    · rw [pk_un z, updB_n (by omega)]
      exact h1 j hj
  · show upd fB k w j = upd S.2 (u + k) w (u + j)
    by_cases z : j = k
    · rw [z, pk_us, pk_us]
    · have hT : updB S.1 (u + k) (u + j) = true := hT
      rw [updB_n (by omega)] at hT
      rw [pk_un z, pk_un (by omega)]
      exact h2 j hj hT
  · show fU q = upd S.2 (u + k) w q
    rw [pk_un (by omega)]
    exact h3 q hq
theorem MR_up {u : Nat} {S : aS} {fU fB fH fB' fH' : Nat → Int32} (h : MRa u S fU fB fH) (hT : S.1 u = true) (h64 : ∀ q, 64 ≤ q → S.1 q = false) (hB : ∀ k, k < 63 → fB' k = fB (k + 1)) (hH : ∀ k, k < 63 → fH' k = fH (k + 1)) (hl : fH' 63 = 0) : MRa (u + 1) S (upd fU u (fB 0)) fB' fH' := by
  obtain ⟨h1, h2, h3⟩ := h
  refine ⟨fun j hj => ?_, fun j hj hT' => ?_, fun q hq => ?_⟩
  · by_cases z : j < 63
    · rw [hH j z, h1 (j + 1) (by omega), show u + (j + 1) = u + 1 + j by omega]
    · rw [show j = 63 by omega, hl, h64 _ (by omega)]
      rfl
  · by_cases z : j < 63
    · rw [hB j z, h2 (j + 1) (by omega) (by rw [show u + (j + 1) = u + 1 + j by omega]; exact hT'), show u + (j + 1) = u + 1 + j by omega]
    · rw [h64 _ (by omega)] at hT'
      cases hT'
  · by_cases z : q = u
    · rw [z, pk_us]
      have := h2 0 (by decide) hT
      exact this
    · rw [pk_un z]
      exact h3 q (by omega)
theorem MR_rd {u : Nat} {S : aS} {fU fU' fB fH : Nat → Int32} (h : MRa (u + 1) S fU fB fH) (hU : ∀ k, k < u → fU' k = fU (k + 1)) : MRa u (fun q => S.1 (q + 1), fun q => S.2 (q + 1)) fU' fB fH := by
  obtain ⟨h1, h2, h3⟩ := h
  refine ⟨fun j hj => ?_, fun j hj hT => ?_, fun q hq => ?_⟩
  · rw [h1 j hj, show u + 1 + j = u + j + 1 by omega]
  · have hT : S.1 (u + j + 1) = true := hT
    rw [h2 j hj (by rw [show u + 1 + j = u + j + 1 by omega]; exact hT), show u + 1 + j = u + j + 1 by omega]
  · rw [hU q hq, h3 (q + 1) (by omega)]
end
section
theorem lcmp0 {x : Int64} (h : lg_cmp x 0 = 0) : x = 0 := by
  unfold lg_cmp at h
  split at h
  · exact absurd h (by decide)
  · split at h
    · assumption
    · exact absurd h (by decide)
theorem lcmp0n {x : Int64} (h : ¬ lg_cmp x 0 = 0) : ¬ x = 0 := fun e => h (by rw [e]; rfl)
set_option maxHeartbeats 4000000 in
set_option maxRecDepth 100000 in
theorem c_window (l : Launch) (dC : Nat → ClassId) (dI : Nat → Nat → Nat) (h0 qb : Nat) (cB : ClassId) (kb : Int64) (nx un ek en : Int32) (fb : Nat → Int32) (sz : Nat)  : Met l yX0_window wsX0_window ({ frames := 0, cells := 0, slots := 0, locals := 0 }) (va_Pc [.ref h0] (fun U => U.heap.size = sz ∧ va_P (dC, dI) vwCl [(h0, .inr (0, [.ref qb, .long kb, .int nx, .int un, .int ek, .int en])), (qb, .inl (cB, 64, .inl fb))] U.heap ∧ va_K (dC, dI) vwCl [(cB, .byte)] U ∧ va_D (fun _ => True) [(h0, .inr (0, [.ref qb, .long kb, .int nx, .int un, .int ek, .int en])), (qb, .inl (cB, 64, .inl fb))])) (va_Qi (fun (r : Int32) (u : Unit) => match u with | () => r = 64 - un) (fun (u : Unit) (t : State) => match u with | () => va_P (dC, dI) vwCl [(h0, .inr (0, [.ref qb, .long kb, .int nx, .int un, .int ek, .int en])), (qb, .inl (cB, 64, .inl fb))] t.heap ∧ va_K (dC, dI) vwCl [(cB, .byte)] t ∧ va_D (va_A [(h0, .inr (0, [.ref qb, .long kb, .int nx, .int un, .int ek, .int en])), (qb, .inl (cB, 64, .inl fb))] sz) [(h0, .inr (0, [.ref qb, .long kb, .int nx, .int un, .int ek, .int en])), (qb, .inl (cB, 64, .inl fb))]) (va_A [(h0, .inr (0, [.ref qb, .long kb, .int nx, .int un, .int ek, .int en])), (qb, .inl (cB, 64, .inl fb))] sz)) 0 0 (va_A [(h0, .inr (0, [.ref qb, .long kb, .int nx, .int un, .int ek, .int en])), (qb, .inl (cB, 64, .inl fb))] sz) := by
  refine Met.ofW (cc := cX0_window) (maxL := 1) (ret := (some .int)) (by decide) rfl ?_
  intro p e s m args below meth c s₁ B hml hv
  obtain ⟨rfl, hsz, hP, hK, hD0⟩ := hv
  have hx := B.exec
  have hb := B.bytes
  have hr := B.returns
  have hts := atoms_spec (ws := wsX0_window) B.pre
  have hown : s.vm.findClass RX0 = some m.cls := findClass_of_methodNamed B.named
  have hlocks := B.notSynchronized
  subst hsz
  have hD := hD0.self (sz := s.heap.size)
  generalize hAe : va_A [(h0, .inr (0, [.ref qb, .long kb, .int nx, .int un, .int ek, .int en])), (qb, .inl (cB, 64, .inl fb))] s.heap.size = A at hD ⊢
  have hA : ∀ q : Nat, s.heap.size ≤ q → A q := fun q h => by rw [← hAe]; exact Or.inr h
  have hS : va_S A s.heap s.heap [] := va_S.rf
  have hP : va_P (dC, dI) vwCl [(h0, .inr (0, [.ref qb, .long kb, .int nx, .int un, .int ek, .int en])), (qb, .inl (cB, 64, .inl fb))] s.heap := hP
  have hl := lv_entry ([.ref h0]) (n := 1) (Nat.le_of_ble_eq_true rfl)
  rw [lg_entry_eq]
  generalize (lg_sl ([.ref h0]) ++ List.replicate (1 - (lg_sl ([.ref h0])).length) Slot.unset).toArray = ls at hl ⊢
  have hl : lv_has ls 1 [(0, .ref h0)] := hl
  have hi_0 : ∀ w ∈ u_ws RX0 TX0 6, w ∈ wsX0_window := by decide +kernel
  refine lv_bipush (v := 64) hx hb dX0_window_0 (by decide) ?_
  refine lv_aload_n hx hb dX0_window_2 rfl (lv_at hl 0 rfl) ?_
  refine va_get (D := (dC, dI)) (ci := 0) (v := .int un) (C := RX0) (T := TX0) (N := 6) hx hb hts hi_0 hown hK hP 0 rfl rfl 3 (by decide) (hts (.fieldLink RX0 21 "SegmentBox" "unread" "I") (by decide +kernel)) (fun _ h9 => h9) rfl dX0_window_3 ?_
  refine lv_isub hx hb dX0_window_6 ?_
  exact W.iret (v := 64 - un) hx hb hr (fun t ht hW => ⟨⟨64 - un, (), rfl, rfl, by rw [ht]; exact hP, va_K.moved hW.alike hK, hD⟩, hS.F ht⟩) hS.2.2 dX0_window_7
set_option maxHeartbeats 4000000 in
set_option maxRecDepth 100000 in
theorem c_slotOf (l : Launch) (dC : Nat → ClassId) (dI : Nat → Nat → Nat) (n : Int32) (sz : Nat)  : Met l yX0_slotOf wsX0_slotOf ({ frames := 0, cells := 0, slots := 0, locals := 0 }) (va_Pc [.int n] (fun U => U.heap.size = sz ∧ va_P (dC, dI) vwCl [] U.heap ∧ va_K (dC, dI) vwCl [] U ∧ va_D (fun _ => True) [])) (va_Qi (fun (r : Int32) (u : Unit) => match u with | () => r = n &&& 63) (fun (u : Unit) (t : State) => match u with | () => va_P (dC, dI) vwCl [] t.heap ∧ va_K (dC, dI) vwCl [] t ∧ va_D (va_A [] sz) []) (va_A [] sz)) 0 0 (va_A [] sz) := by
  refine Met.ofW (cc := cX0_slotOf) (maxL := 1) (ret := (some .int)) (by decide) rfl ?_
  intro p e s m args below meth c s₁ B hml hv
  obtain ⟨rfl, hsz, hP, hK, hD0⟩ := hv
  have hx := B.exec
  have hb := B.bytes
  have hr := B.returns
  have hts := atoms_spec (ws := wsX0_slotOf) B.pre
  have hown : s.vm.findClass RX0 = some m.cls := findClass_of_methodNamed B.named
  have hlocks := B.notSynchronized
  subst hsz
  have hD := hD0.self (sz := s.heap.size)
  generalize hAe : va_A [] s.heap.size = A at hD ⊢
  have hA : ∀ q : Nat, s.heap.size ≤ q → A q := fun q h => by rw [← hAe]; exact Or.inr h
  have hS : va_S A s.heap s.heap [] := va_S.rf
  have hP : va_P (dC, dI) vwCl [] s.heap := hP
  have hl := lv_entry ([.int n]) (n := 1) (Nat.le_of_ble_eq_true rfl)
  rw [lg_entry_eq]
  generalize (lg_sl ([.int n]) ++ List.replicate (1 - (lg_sl ([.int n])).length) Slot.unset).toArray = ls at hl ⊢
  have hl : lv_has ls 1 [(0, .int n)] := hl
  refine lv_iload_n hx hb dX0_slotOf_0 rfl (lv_at hl 0 rfl) ?_
  refine lv_bipush (v := 63) hx hb dX0_slotOf_1 (by decide) ?_
  refine lv_iand hx hb dX0_slotOf_3 ?_
  exact W.iret (v := n &&& 63) hx hb hr (fun t ht hW => ⟨⟨n &&& 63, (), rfl, rfl, by rw [ht]; exact hP, va_K.moved hW.alike hK, hD⟩, hS.F ht⟩) hS.2.2 dX0_slotOf_4
set_option maxHeartbeats 4000000 in
set_option maxRecDepth 100000 in
theorem c_isHeldAhead (l : Launch) (dC : Nat → ClassId) (dI : Nat → Nat → Nat) (h0 qb : Nat) (cB : ClassId) (kb : Int64) (nx un ek en : Int32) (fb : Nat → Int32) (a : Int32) (sz : Nat)  : Met l yX0_isHeldAhead wsX0_isHeldAhead ({ frames := 0, cells := 0, slots := 0, locals := 0 }) (va_Pc [.ref h0, .int a] (fun U => U.heap.size = sz ∧ va_P (dC, dI) vwCl [(h0, .inr (0, [.ref qb, .long kb, .int nx, .int un, .int ek, .int en])), (qb, .inl (cB, 64, .inl fb))] U.heap ∧ va_K (dC, dI) vwCl [(cB, .byte)] U ∧ va_D (fun _ => True) [(h0, .inr (0, [.ref qb, .long kb, .int nx, .int un, .int ek, .int en])), (qb, .inl (cB, 64, .inl fb))])) (va_Qi (fun (r : Int32) (u : Unit) => match u with | () => r = bI (c_held kb a)) (fun (u : Unit) (t : State) => match u with | () => va_P (dC, dI) vwCl [(h0, .inr (0, [.ref qb, .long kb, .int nx, .int un, .int ek, .int en])), (qb, .inl (cB, 64, .inl fb))] t.heap ∧ va_K (dC, dI) vwCl [(cB, .byte)] t ∧ va_D (va_A [(h0, .inr (0, [.ref qb, .long kb, .int nx, .int un, .int ek, .int en])), (qb, .inl (cB, 64, .inl fb))] sz) [(h0, .inr (0, [.ref qb, .long kb, .int nx, .int un, .int ek, .int en])), (qb, .inl (cB, 64, .inl fb))]) (va_A [(h0, .inr (0, [.ref qb, .long kb, .int nx, .int un, .int ek, .int en])), (qb, .inl (cB, 64, .inl fb))] sz)) 0 0 (va_A [(h0, .inr (0, [.ref qb, .long kb, .int nx, .int un, .int ek, .int en])), (qb, .inl (cB, 64, .inl fb))] sz) := by
  refine Met.ofW (cc := cX0_isHeldAhead) (maxL := 2) (ret := (some .boolean)) (by decide) rfl ?_
  intro p e s m args below meth c s₁ B hml hv
  obtain ⟨rfl, hsz, hP, hK, hD0⟩ := hv
  have hx := B.exec
  have hb := B.bytes
  have hr := B.returns
  have hts := atoms_spec (ws := wsX0_isHeldAhead) B.pre
  have hown : s.vm.findClass RX0 = some m.cls := findClass_of_methodNamed B.named
  have hlocks := B.notSynchronized
  subst hsz
  have hD := hD0.self (sz := s.heap.size)
  generalize hAe : va_A [(h0, .inr (0, [.ref qb, .long kb, .int nx, .int un, .int ek, .int en])), (qb, .inl (cB, 64, .inl fb))] s.heap.size = A at hD ⊢
  have hA : ∀ q : Nat, s.heap.size ≤ q → A q := fun q h => by rw [← hAe]; exact Or.inr h
  have hS : va_S A s.heap s.heap [] := va_S.rf
  have hP : va_P (dC, dI) vwCl [(h0, .inr (0, [.ref qb, .long kb, .int nx, .int un, .int ek, .int en])), (qb, .inl (cB, 64, .inl fb))] s.heap := hP
  have hl := lv_entry ([.ref h0, .int a]) (n := 2) (Nat.le_of_ble_eq_true rfl)
  rw [lg_entry_eq]
  generalize (lg_sl ([.ref h0, .int a]) ++ List.replicate (2 - (lg_sl ([.ref h0, .int a])).length) Slot.unset).toArray = ls at hl ⊢
  have hl : lv_has ls 2 [(0, .ref h0), (1, .int a)] := hl
  have hi_0 : ∀ w ∈ u_ws RX0 TX0 6, w ∈ wsX0_isHeldAhead := by decide +kernel
  refine lv_iload_n hx hb dX0_isHeldAhead_0 rfl (lv_at hl 1 rfl) ?_
  refine lv_if_lt (tgt := 27) hx hb dX0_isHeldAhead_1 (by decide) (fun c_1 => ?_) (fun c_1 => ?_)
  · refine lv_iconst (v := 0) hx hb dX0_isHeldAhead_27 (by decide) ?_
    exact W.zret (v := 0) hx hb hr rfl (fun t ht hW => ⟨⟨0, (), rfl, bI_f (fun z => z.1 c_1), by rw [ht]; exact hP, va_K.moved hW.alike hK, hD⟩, hS.F ht⟩) hS.2.2 dX0_isHeldAhead_28
  · refine lv_iload_n hx hb dX0_isHeldAhead_4 rfl (lv_at hl 1 rfl) ?_
    refine lv_bipush (v := 64) hx hb dX0_isHeldAhead_5 (by decide) ?_
    refine lv_icmp_ge (tgt := 27) hx hb dX0_isHeldAhead_7 (by decide) (fun c_7 => ?_) (fun c_7 => ?_)
    · refine lv_iconst (v := 0) hx hb dX0_isHeldAhead_27 (by decide) ?_
      exact W.zret (v := 0) hx hb hr rfl (fun t ht hW => ⟨⟨0, (), rfl, bI_f (fun z => Int32.not_le.mpr z.2.1 c_7), by rw [ht]; exact hP, va_K.moved hW.alike hK, hD⟩, hS.F ht⟩) hS.2.2 dX0_isHeldAhead_28
    · refine lv_aload_n hx hb dX0_isHeldAhead_10 rfl (lv_at hl 0 rfl) ?_
      refine va_get (D := (dC, dI)) (ci := 0) (v := .long kb) (C := RX0) (T := TX0) (N := 6) hx hb hts hi_0 hown hK hP 0 rfl rfl 1 (by decide) (hts (.fieldLink RX0 13 "SegmentBox" "heldBits" "J") (by decide +kernel)) (fun _ h9 => h9) rfl dX0_isHeldAhead_11 ?_
      refine lv_iload_n hx hb dX0_isHeldAhead_14 rfl (lv_at hl 1 rfl) ?_
      refine lv_lushr (v := g_sh kb a) hx hb dX0_isHeldAhead_15 rfl ?_
      refine lv_lconst (v := 1) hx hb dX0_isHeldAhead_16 rfl ?_
      refine lv_land hx hb dX0_isHeldAhead_17 ?_
      refine lv_lconst (v := 0) hx hb dX0_isHeldAhead_18 rfl ?_
      refine W.lcmp hx hb dX0_isHeldAhead_19 ?_
      refine lv_if_eq (tgt := 27) hx hb dX0_isHeldAhead_20 (by decide) (fun c_20 => ?_) (fun c_20 => ?_)
      · refine lv_iconst (v := 0) hx hb dX0_isHeldAhead_27 (by decide) ?_
        exact W.zret (v := 0) hx hb hr rfl (fun t ht hW => ⟨⟨0, (), rfl, bI_f (fun z => z.2.2 (lcmp0 c_20)), by rw [ht]; exact hP, va_K.moved hW.alike hK, hD⟩, hS.F ht⟩) hS.2.2 dX0_isHeldAhead_28
      · refine lv_iconst (v := 1) hx hb dX0_isHeldAhead_23 (by decide) ?_
        refine lv_goto (tgt := 28) hx hb dX0_isHeldAhead_24 (by decide) ?_
        exact W.zret (v := 1) hx hb hr rfl (fun t ht hW => ⟨⟨1, (), rfl, bI_t ⟨c_1, Int32.not_le.mp c_7, lcmp0n c_20⟩, by rw [ht]; exact hP, va_K.moved hW.alike hK, hD⟩, hS.F ht⟩) hS.2.2 dX0_isHeldAhead_28
set_option maxHeartbeats 4000000 in
set_option maxRecDepth 100000 in
theorem c_isHeldFrom (l : Launch) (dC : Nat → ClassId) (dI : Nat → Nat → Nat) (h0 qb : Nat) (cB : ClassId) (kb : Int64) (nx un ek en : Int32) (fb : Nat → Int32) (a : Int32) (sz : Nat)  : Met l yX0_isHeldFrom wsX0_isHeldFrom ({ frames := 0, cells := 0, slots := 0, locals := 0 }) (va_Pc [.ref h0, .int a] (fun U => U.heap.size = sz ∧ va_P (dC, dI) vwCl [(h0, .inr (0, [.ref qb, .long kb, .int nx, .int un, .int ek, .int en])), (qb, .inl (cB, 64, .inl fb))] U.heap ∧ va_K (dC, dI) vwCl [(cB, .byte)] U ∧ va_D (fun _ => True) [(h0, .inr (0, [.ref qb, .long kb, .int nx, .int un, .int ek, .int en])), (qb, .inl (cB, 64, .inl fb))])) (va_Qi (fun (r : Int32) (u : Unit) => match u with | () => r = bI (c_from kb a)) (fun (u : Unit) (t : State) => match u with | () => va_P (dC, dI) vwCl [(h0, .inr (0, [.ref qb, .long kb, .int nx, .int un, .int ek, .int en])), (qb, .inl (cB, 64, .inl fb))] t.heap ∧ va_K (dC, dI) vwCl [(cB, .byte)] t ∧ va_D (va_A [(h0, .inr (0, [.ref qb, .long kb, .int nx, .int un, .int ek, .int en])), (qb, .inl (cB, 64, .inl fb))] sz) [(h0, .inr (0, [.ref qb, .long kb, .int nx, .int un, .int ek, .int en])), (qb, .inl (cB, 64, .inl fb))]) (va_A [(h0, .inr (0, [.ref qb, .long kb, .int nx, .int un, .int ek, .int en])), (qb, .inl (cB, 64, .inl fb))] sz)) 0 0 (va_A [(h0, .inr (0, [.ref qb, .long kb, .int nx, .int un, .int ek, .int en])), (qb, .inl (cB, 64, .inl fb))] sz) := by
  refine Met.ofW (cc := cX0_isHeldFrom) (maxL := 2) (ret := (some .boolean)) (by decide) rfl ?_
  intro p e s m args below meth c s₁ B hml hv
  obtain ⟨rfl, hsz, hP, hK, hD0⟩ := hv
  have hx := B.exec
  have hb := B.bytes
  have hr := B.returns
  have hts := atoms_spec (ws := wsX0_isHeldFrom) B.pre
  have hown : s.vm.findClass RX0 = some m.cls := findClass_of_methodNamed B.named
  have hlocks := B.notSynchronized
  subst hsz
  have hD := hD0.self (sz := s.heap.size)
  generalize hAe : va_A [(h0, .inr (0, [.ref qb, .long kb, .int nx, .int un, .int ek, .int en])), (qb, .inl (cB, 64, .inl fb))] s.heap.size = A at hD ⊢
  have hA : ∀ q : Nat, s.heap.size ≤ q → A q := fun q h => by rw [← hAe]; exact Or.inr h
  have hS : va_S A s.heap s.heap [] := va_S.rf
  have hP : va_P (dC, dI) vwCl [(h0, .inr (0, [.ref qb, .long kb, .int nx, .int un, .int ek, .int en])), (qb, .inl (cB, 64, .inl fb))] s.heap := hP
  have hl := lv_entry ([.ref h0, .int a]) (n := 2) (Nat.le_of_ble_eq_true rfl)
  rw [lg_entry_eq]
  generalize (lg_sl ([.ref h0, .int a]) ++ List.replicate (2 - (lg_sl ([.ref h0, .int a])).length) Slot.unset).toArray = ls at hl ⊢
  have hl : lv_has ls 2 [(0, .ref h0), (1, .int a)] := hl
  have hi_0 : ∀ w ∈ u_ws RX0 TX0 6, w ∈ wsX0_isHeldFrom := by decide +kernel
  refine lv_iload_n hx hb dX0_isHeldFrom_0 rfl (lv_at hl 1 rfl) ?_
  refine lv_if_lt (tgt := 25) hx hb dX0_isHeldFrom_1 (by decide) (fun c_1 => ?_) (fun c_1 => ?_)
  · refine lv_iconst (v := 0) hx hb dX0_isHeldFrom_25 (by decide) ?_
    exact W.zret (v := 0) hx hb hr rfl (fun t ht hW => ⟨⟨0, (), rfl, bI_f (fun z => z.1 c_1), by rw [ht]; exact hP, va_K.moved hW.alike hK, hD⟩, hS.F ht⟩) hS.2.2 dX0_isHeldFrom_26
  · refine lv_iload_n hx hb dX0_isHeldFrom_4 rfl (lv_at hl 1 rfl) ?_
    refine lv_bipush (v := 64) hx hb dX0_isHeldFrom_5 (by decide) ?_
    refine lv_icmp_ge (tgt := 25) hx hb dX0_isHeldFrom_7 (by decide) (fun c_7 => ?_) (fun c_7 => ?_)
    · refine lv_iconst (v := 0) hx hb dX0_isHeldFrom_25 (by decide) ?_
      exact W.zret (v := 0) hx hb hr rfl (fun t ht hW => ⟨⟨0, (), rfl, bI_f (fun z => Int32.not_le.mpr z.2.1 c_7), by rw [ht]; exact hP, va_K.moved hW.alike hK, hD⟩, hS.F ht⟩) hS.2.2 dX0_isHeldFrom_26
    · refine lv_aload_n hx hb dX0_isHeldFrom_10 rfl (lv_at hl 0 rfl) ?_
      refine va_get (D := (dC, dI)) (ci := 0) (v := .long kb) (C := RX0) (T := TX0) (N := 6) hx hb hts hi_0 hown hK hP 0 rfl rfl 1 (by decide) (hts (.fieldLink RX0 13 "SegmentBox" "heldBits" "J") (by decide +kernel)) (fun _ h9 => h9) rfl dX0_isHeldFrom_11 ?_
      refine lv_iload_n hx hb dX0_isHeldFrom_14 rfl (lv_at hl 1 rfl) ?_
      refine lv_lushr (v := g_sh kb a) hx hb dX0_isHeldFrom_15 rfl ?_
      refine lv_lconst (v := 0) hx hb dX0_isHeldFrom_16 rfl ?_
      refine W.lcmp hx hb dX0_isHeldFrom_17 ?_
      refine lv_if_eq (tgt := 25) hx hb dX0_isHeldFrom_18 (by decide) (fun c_18 => ?_) (fun c_18 => ?_)
      · refine lv_iconst (v := 0) hx hb dX0_isHeldFrom_25 (by decide) ?_
        exact W.zret (v := 0) hx hb hr rfl (fun t ht hW => ⟨⟨0, (), rfl, bI_f (fun z => z.2.2 (lcmp0 c_18)), by rw [ht]; exact hP, va_K.moved hW.alike hK, hD⟩, hS.F ht⟩) hS.2.2 dX0_isHeldFrom_26
      · refine lv_iconst (v := 1) hx hb dX0_isHeldFrom_21 (by decide) ?_
        refine lv_goto (tgt := 26) hx hb dX0_isHeldFrom_22 (by decide) ?_
        exact W.zret (v := 1) hx hb hr rfl (fun t ht hW => ⟨⟨1, (), rfl, bI_t ⟨c_1, Int32.not_le.mp c_7, lcmp0n c_18⟩, by rw [ht]; exact hP, va_K.moved hW.alike hK, hD⟩, hS.F ht⟩) hS.2.2 dX0_isHeldFrom_26
set_option maxHeartbeats 4000000 in
set_option maxRecDepth 100000 in
theorem c_isBeforeEnd (l : Launch) (dC : Nat → ClassId) (dI : Nat → Nat → Nat) (h0 qb : Nat) (cB : ClassId) (kb : Int64) (nx un ek en : Int32) (fb : Nat → Int32) (a : Int32) (sz : Nat)  : Met l yX0_isBeforeEnd wsX0_isBeforeEnd ({ frames := 0, cells := 0, slots := 0, locals := 0 }) (va_Pc [.ref h0, .int a] (fun U => U.heap.size = sz ∧ va_P (dC, dI) vwCl [(h0, .inr (0, [.ref qb, .long kb, .int nx, .int un, .int ek, .int en])), (qb, .inl (cB, 64, .inl fb))] U.heap ∧ va_K (dC, dI) vwCl [(cB, .byte)] U ∧ va_D (fun _ => True) [(h0, .inr (0, [.ref qb, .long kb, .int nx, .int un, .int ek, .int en])), (qb, .inl (cB, 64, .inl fb))])) (va_Qi (fun (r : Int32) (u : Unit) => match u with | () => r = bI (c_bef nx ek en a)) (fun (u : Unit) (t : State) => match u with | () => va_P (dC, dI) vwCl [(h0, .inr (0, [.ref qb, .long kb, .int nx, .int un, .int ek, .int en])), (qb, .inl (cB, 64, .inl fb))] t.heap ∧ va_K (dC, dI) vwCl [(cB, .byte)] t ∧ va_D (va_A [(h0, .inr (0, [.ref qb, .long kb, .int nx, .int un, .int ek, .int en])), (qb, .inl (cB, 64, .inl fb))] sz) [(h0, .inr (0, [.ref qb, .long kb, .int nx, .int un, .int ek, .int en])), (qb, .inl (cB, 64, .inl fb))]) (va_A [(h0, .inr (0, [.ref qb, .long kb, .int nx, .int un, .int ek, .int en])), (qb, .inl (cB, 64, .inl fb))] sz)) 0 0 (va_A [(h0, .inr (0, [.ref qb, .long kb, .int nx, .int un, .int ek, .int en])), (qb, .inl (cB, 64, .inl fb))] sz) := by
  refine Met.ofW (cc := cX0_isBeforeEnd) (maxL := 2) (ret := (some .boolean)) (by decide) rfl ?_
  intro p e s m args below meth c s₁ B hml hv
  obtain ⟨rfl, hsz, hP, hK, hD0⟩ := hv
  have hx := B.exec
  have hb := B.bytes
  have hr := B.returns
  have hts := atoms_spec (ws := wsX0_isBeforeEnd) B.pre
  have hown : s.vm.findClass RX0 = some m.cls := findClass_of_methodNamed B.named
  have hlocks := B.notSynchronized
  subst hsz
  have hD := hD0.self (sz := s.heap.size)
  generalize hAe : va_A [(h0, .inr (0, [.ref qb, .long kb, .int nx, .int un, .int ek, .int en])), (qb, .inl (cB, 64, .inl fb))] s.heap.size = A at hD ⊢
  have hA : ∀ q : Nat, s.heap.size ≤ q → A q := fun q h => by rw [← hAe]; exact Or.inr h
  have hS : va_S A s.heap s.heap [] := va_S.rf
  have hP : va_P (dC, dI) vwCl [(h0, .inr (0, [.ref qb, .long kb, .int nx, .int un, .int ek, .int en])), (qb, .inl (cB, 64, .inl fb))] s.heap := hP
  have hl := lv_entry ([.ref h0, .int a]) (n := 2) (Nat.le_of_ble_eq_true rfl)
  rw [lg_entry_eq]
  generalize (lg_sl ([.ref h0, .int a]) ++ List.replicate (2 - (lg_sl ([.ref h0, .int a])).length) Slot.unset).toArray = ls at hl ⊢
  have hl : lv_has ls 2 [(0, .ref h0), (1, .int a)] := hl
  have hi_0 : ∀ w ∈ u_ws RX0 TX0 6, w ∈ wsX0_isBeforeEnd := by decide +kernel
  refine lv_aload_n hx hb dX0_isBeforeEnd_0 rfl (lv_at hl 0 rfl) ?_
  refine va_get (D := (dC, dI)) (ci := 0) (v := .int ek) (C := RX0) (T := TX0) (N := 6) hx hb hts hi_0 hown hK hP 0 rfl rfl 4 (by decide) (hts (.fieldLink RX0 24 "SegmentBox" "endKnown" "Z") (by decide +kernel)) (fun _ h9 => h9) rfl dX0_isBeforeEnd_1 ?_
  refine lv_if_eq (tgt := 20) hx hb dX0_isBeforeEnd_4 (by decide) (fun c_4 => ?_) (fun c_4 => ?_)
  · refine lv_iconst (v := 1) hx hb dX0_isBeforeEnd_20 (by decide) ?_
    refine lv_goto (tgt := 25) hx hb dX0_isBeforeEnd_21 (by decide) ?_
    exact W.zret (v := 1) hx hb hr rfl (fun t ht hW => ⟨⟨1, (), rfl, bI_t (Or.inl c_4), by rw [ht]; exact hP, va_K.moved hW.alike hK, hD⟩, hS.F ht⟩) hS.2.2 dX0_isBeforeEnd_25
  · refine lv_iload_n hx hb dX0_isBeforeEnd_7 rfl (lv_at hl 1 rfl) ?_
    refine lv_aload_n hx hb dX0_isBeforeEnd_8 rfl (lv_at hl 0 rfl) ?_
    refine va_get (D := (dC, dI)) (ci := 0) (v := .int en) (C := RX0) (T := TX0) (N := 6) hx hb hts hi_0 hown hK hP 0 rfl rfl 5 (by decide) (hts (.fieldLink RX0 28 "SegmentBox" "endNumber" "I") (by decide +kernel)) (fun _ h9 => h9) rfl dX0_isBeforeEnd_9 ?_
    refine lv_aload_n hx hb dX0_isBeforeEnd_12 rfl (lv_at hl 0 rfl) ?_
    refine va_get (D := (dC, dI)) (ci := 0) (v := .int nx) (C := RX0) (T := TX0) (N := 6) hx hb hts hi_0 hown hK hP 0 rfl rfl 2 (by decide) (hts (.fieldLink RX0 17 "SegmentBox" "next" "I") (by decide +kernel)) (fun _ h9 => h9) rfl dX0_isBeforeEnd_13 ?_
    refine lv_isub hx hb dX0_isBeforeEnd_16 ?_
    refine lv_icmp_ge (tgt := 24) hx hb dX0_isBeforeEnd_17 (by decide) (fun c_17 => ?_) (fun c_17 => ?_)
    · refine lv_iconst (v := 0) hx hb dX0_isBeforeEnd_24 (by decide) ?_
      exact W.zret (v := 0) hx hb hr rfl (fun t ht hW => ⟨⟨0, (), rfl, bI_f (fun z => z.elim c_4 (fun z => Int32.not_le.mpr z c_17)), by rw [ht]; exact hP, va_K.moved hW.alike hK, hD⟩, hS.F ht⟩) hS.2.2 dX0_isBeforeEnd_25
    · refine lv_iconst (v := 1) hx hb dX0_isBeforeEnd_20 (by decide) ?_
      refine lv_goto (tgt := 25) hx hb dX0_isBeforeEnd_21 (by decide) ?_
      exact W.zret (v := 1) hx hb hr rfl (fun t ht hW => ⟨⟨1, (), rfl, bI_t (Or.inr (Int32.not_le.mp c_17)), by rw [ht]; exact hP, va_K.moved hW.alike hK, hD⟩, hS.F ht⟩) hS.2.2 dX0_isBeforeEnd_25
set_option maxHeartbeats 4000000 in
set_option maxRecDepth 100000 in
theorem c_blockStarts (l : Launch) (dC : Nat → ClassId) (dI : Nat → Nat → Nat) (h0 qb : Nat) (cB : ClassId) (kb : Int64) (nx un ek en : Int32) (fb : Nat → Int32) (sz : Nat)  : Met l yX0_blockStarts wsX0_blockStarts ({ frames := 0, cells := 0, slots := 0, locals := 0 }) (va_Pc [.ref h0] (fun U => U.heap.size = sz ∧ va_P (dC, dI) vwCl [(h0, .inr (0, [.ref qb, .long kb, .int nx, .int un, .int ek, .int en])), (qb, .inl (cB, 64, .inl fb))] U.heap ∧ va_K (dC, dI) vwCl [(cB, .byte)] U ∧ va_D (fun _ => True) [(h0, .inr (0, [.ref qb, .long kb, .int nx, .int un, .int ek, .int en])), (qb, .inl (cB, 64, .inl fb))])) (va_Ql (fun (r : Int64) (u : Unit) => match u with | () => r = c_st kb) (fun (u : Unit) (t : State) => match u with | () => va_P (dC, dI) vwCl [(h0, .inr (0, [.ref qb, .long kb, .int nx, .int un, .int ek, .int en])), (qb, .inl (cB, 64, .inl fb))] t.heap ∧ va_K (dC, dI) vwCl [(cB, .byte)] t ∧ va_D (va_A [(h0, .inr (0, [.ref qb, .long kb, .int nx, .int un, .int ek, .int en])), (qb, .inl (cB, 64, .inl fb))] sz) [(h0, .inr (0, [.ref qb, .long kb, .int nx, .int un, .int ek, .int en])), (qb, .inl (cB, 64, .inl fb))]) (va_A [(h0, .inr (0, [.ref qb, .long kb, .int nx, .int un, .int ek, .int en])), (qb, .inl (cB, 64, .inl fb))] sz)) 0 0 (va_A [(h0, .inr (0, [.ref qb, .long kb, .int nx, .int un, .int ek, .int en])), (qb, .inl (cB, 64, .inl fb))] sz) := by
  refine Met.ofW (cc := cX0_blockStarts) (maxL := 1) (ret := (some .long)) (by decide) rfl ?_
  intro p e s m args below meth c s₁ B hml hv
  obtain ⟨rfl, hsz, hP, hK, hD0⟩ := hv
  have hx := B.exec
  have hb := B.bytes
  have hr := B.returns
  have hts := atoms_spec (ws := wsX0_blockStarts) B.pre
  have hown : s.vm.findClass RX0 = some m.cls := findClass_of_methodNamed B.named
  have hlocks := B.notSynchronized
  subst hsz
  have hD := hD0.self (sz := s.heap.size)
  generalize hAe : va_A [(h0, .inr (0, [.ref qb, .long kb, .int nx, .int un, .int ek, .int en])), (qb, .inl (cB, 64, .inl fb))] s.heap.size = A at hD ⊢
  have hA : ∀ q : Nat, s.heap.size ≤ q → A q := fun q h => by rw [← hAe]; exact Or.inr h
  have hS : va_S A s.heap s.heap [] := va_S.rf
  have hP : va_P (dC, dI) vwCl [(h0, .inr (0, [.ref qb, .long kb, .int nx, .int un, .int ek, .int en])), (qb, .inl (cB, 64, .inl fb))] s.heap := hP
  have hl := lv_entry ([.ref h0]) (n := 1) (Nat.le_of_ble_eq_true rfl)
  rw [lg_entry_eq]
  generalize (lg_sl ([.ref h0]) ++ List.replicate (1 - (lg_sl ([.ref h0])).length) Slot.unset).toArray = ls at hl ⊢
  have hl : lv_has ls 1 [(0, .ref h0)] := hl
  have hi_0 : ∀ w ∈ u_ws RX0 TX0 6, w ∈ wsX0_blockStarts := by decide +kernel
  refine lv_aload_n hx hb dX0_blockStarts_0 rfl (lv_at hl 0 rfl) ?_
  refine va_get (D := (dC, dI)) (ci := 0) (v := .long kb) (C := RX0) (T := TX0) (N := 6) hx hb hts hi_0 hown hK hP 0 rfl rfl 1 (by decide) (hts (.fieldLink RX0 13 "SegmentBox" "heldBits" "J") (by decide +kernel)) (fun _ h9 => h9) rfl dX0_blockStarts_1 ?_
  refine lv_aload_n hx hb dX0_blockStarts_4 rfl (lv_at hl 0 rfl) ?_
  refine va_get (D := (dC, dI)) (ci := 0) (v := .long kb) (C := RX0) (T := TX0) (N := 6) hx hb hts hi_0 hown hK hP 0 rfl rfl 1 (by decide) (hts (.fieldLink RX0 13 "SegmentBox" "heldBits" "J") (by decide +kernel)) (fun _ h9 => h9) rfl dX0_blockStarts_5 ?_
  refine lv_iconst (v := 1) hx hb dX0_blockStarts_8 (by decide) ?_
  refine lv_lshl (v := kb <<< ((1 : Int32).toInt64 &&& 63)) hx hb dX0_blockStarts_9 rfl ?_
  refine W.ldc2 (v := (-1)) hx hb hown (hts (.constantLong RX0 78 (-1)) (by decide +kernel)) rfl dX0_blockStarts_10 ?_
  refine W.eq (g2 := F0 m 13 ls [.long (-1), .long (kb <<< ((1 : Int32).toInt64 &&& 63)), .long kb]) rfl ?_
  refine lv_lxor hx hb dX0_blockStarts_13 ?_
  refine lv_land hx hb dX0_blockStarts_14 ?_
  exact W.lret (v := kb &&& ((kb <<< ((1 : Int32).toInt64 &&& 63)) ^^^ (-1))) hx hb hr (fun t ht hW => ⟨⟨kb &&& ((kb <<< ((1 : Int32).toInt64 &&& 63)) ^^^ (-1)), (), rfl, rfl, by rw [ht]; exact hP, va_K.moved hW.alike hK, hD⟩, hS.F ht⟩) hS.2.2 dX0_blockStarts_15
set_option maxHeartbeats 4000000 in
set_option maxRecDepth 100000 in
theorem c_bitCount (l : Launch) (dC : Nat → ClassId) (dI : Nat → Nat → Nat) (x : Int64) (sz : Nat)  : Met l yJ13_bitCount_95d88 wsJ13_bitCount_95d88 ({ frames := 0, cells := 0, slots := 0, locals := 0 }) (va_Pc [.long x] (fun U => U.heap.size = sz ∧ va_P (dC, dI) vwCl [] U.heap ∧ va_K (dC, dI) vwCl [] U ∧ va_D (fun _ => True) [])) (va_Qi (fun (r : Int32) (u : Unit) => match u with | () => r = g_bc x) (fun (u : Unit) (t : State) => match u with | () => va_P (dC, dI) vwCl [] t.heap ∧ va_K (dC, dI) vwCl [] t ∧ va_D (va_A [] sz) []) (va_A [] sz)) 0 0 (va_A [] sz) := by
  refine Met.ofW (cc := cJ13_bitCount_95d88) (maxL := 2) (ret := (some .int)) (by decide) rfl ?_
  intro p e s m args below meth c s₁ B hml hv
  obtain ⟨rfl, hsz, hP, hK, hD0⟩ := hv
  have hx := B.exec
  have hb := B.bytes
  have hr := B.returns
  have hts := atoms_spec (ws := wsJ13_bitCount_95d88) B.pre
  have hown : s.vm.findClass RJ13 = some m.cls := findClass_of_methodNamed B.named
  have hlocks := B.notSynchronized
  subst hsz
  have hD := hD0.self (sz := s.heap.size)
  generalize hAe : va_A [] s.heap.size = A at hD ⊢
  have hA : ∀ q : Nat, s.heap.size ≤ q → A q := fun q h => by rw [← hAe]; exact Or.inr h
  have hS : va_S A s.heap s.heap [] := va_S.rf
  have hP : va_P (dC, dI) vwCl [] s.heap := hP
  have hl := lv_entry ([.long x]) (n := 2) (Nat.le_of_ble_eq_true rfl)
  rw [lg_entry_eq]
  generalize (lg_sl ([.long x]) ++ List.replicate (2 - (lg_sl ([.long x])).length) Slot.unset).toArray = ls at hl ⊢
  have hl : lv_has ls 2 [(0, .long x)] := hl
  refine lv_lload_n hx hb dJ13_bitCount_95d88_0 rfl (lv_at hl 0 rfl) ?_
  refine lv_lload_n hx hb dJ13_bitCount_95d88_1 rfl (lv_at hl 0 rfl) ?_
  refine lv_iconst (v := 1) hx hb dJ13_bitCount_95d88_2 (by decide) ?_
  refine lv_lushr (v := g_sh x 1) hx hb dJ13_bitCount_95d88_3 rfl ?_
  refine W.ldc2 (v := 6148914691236517205) hx hb hown (hts (.constantLong RJ13 314 (6148914691236517205)) (by decide +kernel)) rfl dJ13_bitCount_95d88_4 ?_
  refine W.eq (g2 := F0 m 7 ls [.long 6148914691236517205, .long (g_sh x 1), .long x]) rfl ?_
  refine lv_land hx hb dJ13_bitCount_95d88_7 ?_
  refine lv_lsub hx hb dJ13_bitCount_95d88_8 ?_
  refine lv_lstore_n (lv' := [(0, .long (x - ((g_sh x 1) &&& 6148914691236517205)))]) hx hb dJ13_bitCount_95d88_9 rfl hl (by decide) rfl (fun ls hl => ?_)
  refine lv_lload_n hx hb dJ13_bitCount_95d88_10 rfl (lv_at hl 0 rfl) ?_
  refine W.ldc2 (v := 3689348814741910323) hx hb hown (hts (.constantLong RJ13 316 (3689348814741910323)) (by decide +kernel)) rfl dJ13_bitCount_95d88_11 ?_
  refine W.eq (g2 := F0 m 14 ls [.long 3689348814741910323, .long (x - ((g_sh x 1) &&& 6148914691236517205))]) rfl ?_
  refine lv_land hx hb dJ13_bitCount_95d88_14 ?_
  refine lv_lload_n hx hb dJ13_bitCount_95d88_15 rfl (lv_at hl 0 rfl) ?_
  refine lv_iconst (v := 2) hx hb dJ13_bitCount_95d88_16 (by decide) ?_
  refine lv_lushr (v := g_sh (x - ((g_sh x 1) &&& 6148914691236517205)) 2) hx hb dJ13_bitCount_95d88_17 rfl ?_
  refine W.ldc2 (v := 3689348814741910323) hx hb hown (hts (.constantLong RJ13 316 (3689348814741910323)) (by decide +kernel)) rfl dJ13_bitCount_95d88_18 ?_
  refine W.eq (g2 := F0 m 21 ls [.long 3689348814741910323, .long (g_sh (x - ((g_sh x 1) &&& 6148914691236517205)) 2), .long ((x - ((g_sh x 1) &&& 6148914691236517205)) &&& 3689348814741910323)]) rfl ?_
  refine lv_land hx hb dJ13_bitCount_95d88_21 ?_
  refine lv_ladd hx hb dJ13_bitCount_95d88_22 ?_
  refine lv_lstore_n (lv' := [(0, .long (((x - ((g_sh x 1) &&& 6148914691236517205)) &&& 3689348814741910323) + ((g_sh (x - ((g_sh x 1) &&& 6148914691236517205)) 2) &&& 3689348814741910323)))]) hx hb dJ13_bitCount_95d88_23 rfl hl (by decide) rfl (fun ls hl => ?_)
  refine lv_lload_n hx hb dJ13_bitCount_95d88_24 rfl (lv_at hl 0 rfl) ?_
  refine lv_lload_n hx hb dJ13_bitCount_95d88_25 rfl (lv_at hl 0 rfl) ?_
  refine lv_iconst (v := 4) hx hb dJ13_bitCount_95d88_26 (by decide) ?_
  refine lv_lushr (v := g_sh (((x - ((g_sh x 1) &&& 6148914691236517205)) &&& 3689348814741910323) + ((g_sh (x - ((g_sh x 1) &&& 6148914691236517205)) 2) &&& 3689348814741910323)) 4) hx hb dJ13_bitCount_95d88_27 rfl ?_
  refine lv_ladd hx hb dJ13_bitCount_95d88_28 ?_
  refine W.ldc2 (v := 1085102592571150095) hx hb hown (hts (.constantLong RJ13 318 (1085102592571150095)) (by decide +kernel)) rfl dJ13_bitCount_95d88_29 ?_
  refine W.eq (g2 := F0 m 32 ls [.long 1085102592571150095, .long ((((x - ((g_sh x 1) &&& 6148914691236517205)) &&& 3689348814741910323) + ((g_sh (x - ((g_sh x 1) &&& 6148914691236517205)) 2) &&& 3689348814741910323)) + (g_sh (((x - ((g_sh x 1) &&& 6148914691236517205)) &&& 3689348814741910323) + ((g_sh (x - ((g_sh x 1) &&& 6148914691236517205)) 2) &&& 3689348814741910323)) 4))]) rfl ?_
  refine lv_land hx hb dJ13_bitCount_95d88_32 ?_
  refine lv_lstore_n (lv' := [(0, .long (((((x - ((g_sh x 1) &&& 6148914691236517205)) &&& 3689348814741910323) + ((g_sh (x - ((g_sh x 1) &&& 6148914691236517205)) 2) &&& 3689348814741910323)) + (g_sh (((x - ((g_sh x 1) &&& 6148914691236517205)) &&& 3689348814741910323) + ((g_sh (x - ((g_sh x 1) &&& 6148914691236517205)) 2) &&& 3689348814741910323)) 4)) &&& 1085102592571150095))]) hx hb dJ13_bitCount_95d88_33 rfl hl (by decide) rfl (fun ls hl => ?_)
  refine lv_lload_n hx hb dJ13_bitCount_95d88_34 rfl (lv_at hl 0 rfl) ?_
  refine lv_lload_n hx hb dJ13_bitCount_95d88_35 rfl (lv_at hl 0 rfl) ?_
  refine lv_bipush (v := 8) hx hb dJ13_bitCount_95d88_36 (by decide) ?_
  refine lv_lushr (v := g_sh (((((x - ((g_sh x 1) &&& 6148914691236517205)) &&& 3689348814741910323) + ((g_sh (x - ((g_sh x 1) &&& 6148914691236517205)) 2) &&& 3689348814741910323)) + (g_sh (((x - ((g_sh x 1) &&& 6148914691236517205)) &&& 3689348814741910323) + ((g_sh (x - ((g_sh x 1) &&& 6148914691236517205)) 2) &&& 3689348814741910323)) 4)) &&& 1085102592571150095) 8) hx hb dJ13_bitCount_95d88_38 rfl ?_
  refine lv_ladd hx hb dJ13_bitCount_95d88_39 ?_
  refine lv_lstore_n (lv' := [(0, .long ((((((x - ((g_sh x 1) &&& 6148914691236517205)) &&& 3689348814741910323) + ((g_sh (x - ((g_sh x 1) &&& 6148914691236517205)) 2) &&& 3689348814741910323)) + (g_sh (((x - ((g_sh x 1) &&& 6148914691236517205)) &&& 3689348814741910323) + ((g_sh (x - ((g_sh x 1) &&& 6148914691236517205)) 2) &&& 3689348814741910323)) 4)) &&& 1085102592571150095) + (g_sh (((((x - ((g_sh x 1) &&& 6148914691236517205)) &&& 3689348814741910323) + ((g_sh (x - ((g_sh x 1) &&& 6148914691236517205)) 2) &&& 3689348814741910323)) + (g_sh (((x - ((g_sh x 1) &&& 6148914691236517205)) &&& 3689348814741910323) + ((g_sh (x - ((g_sh x 1) &&& 6148914691236517205)) 2) &&& 3689348814741910323)) 4)) &&& 1085102592571150095) 8)))]) hx hb dJ13_bitCount_95d88_40 rfl hl (by decide) rfl (fun ls hl => ?_)
  refine lv_lload_n hx hb dJ13_bitCount_95d88_41 rfl (lv_at hl 0 rfl) ?_
  refine lv_lload_n hx hb dJ13_bitCount_95d88_42 rfl (lv_at hl 0 rfl) ?_
  refine lv_bipush (v := 16) hx hb dJ13_bitCount_95d88_43 (by decide) ?_
  refine lv_lushr (v := g_sh ((((((x - ((g_sh x 1) &&& 6148914691236517205)) &&& 3689348814741910323) + ((g_sh (x - ((g_sh x 1) &&& 6148914691236517205)) 2) &&& 3689348814741910323)) + (g_sh (((x - ((g_sh x 1) &&& 6148914691236517205)) &&& 3689348814741910323) + ((g_sh (x - ((g_sh x 1) &&& 6148914691236517205)) 2) &&& 3689348814741910323)) 4)) &&& 1085102592571150095) + (g_sh (((((x - ((g_sh x 1) &&& 6148914691236517205)) &&& 3689348814741910323) + ((g_sh (x - ((g_sh x 1) &&& 6148914691236517205)) 2) &&& 3689348814741910323)) + (g_sh (((x - ((g_sh x 1) &&& 6148914691236517205)) &&& 3689348814741910323) + ((g_sh (x - ((g_sh x 1) &&& 6148914691236517205)) 2) &&& 3689348814741910323)) 4)) &&& 1085102592571150095) 8)) 16) hx hb dJ13_bitCount_95d88_45 rfl ?_
  refine lv_ladd hx hb dJ13_bitCount_95d88_46 ?_
  refine lv_lstore_n (lv' := [(0, .long (((((((x - ((g_sh x 1) &&& 6148914691236517205)) &&& 3689348814741910323) + ((g_sh (x - ((g_sh x 1) &&& 6148914691236517205)) 2) &&& 3689348814741910323)) + (g_sh (((x - ((g_sh x 1) &&& 6148914691236517205)) &&& 3689348814741910323) + ((g_sh (x - ((g_sh x 1) &&& 6148914691236517205)) 2) &&& 3689348814741910323)) 4)) &&& 1085102592571150095) + (g_sh (((((x - ((g_sh x 1) &&& 6148914691236517205)) &&& 3689348814741910323) + ((g_sh (x - ((g_sh x 1) &&& 6148914691236517205)) 2) &&& 3689348814741910323)) + (g_sh (((x - ((g_sh x 1) &&& 6148914691236517205)) &&& 3689348814741910323) + ((g_sh (x - ((g_sh x 1) &&& 6148914691236517205)) 2) &&& 3689348814741910323)) 4)) &&& 1085102592571150095) 8)) + (g_sh ((((((x - ((g_sh x 1) &&& 6148914691236517205)) &&& 3689348814741910323) + ((g_sh (x - ((g_sh x 1) &&& 6148914691236517205)) 2) &&& 3689348814741910323)) + (g_sh (((x - ((g_sh x 1) &&& 6148914691236517205)) &&& 3689348814741910323) + ((g_sh (x - ((g_sh x 1) &&& 6148914691236517205)) 2) &&& 3689348814741910323)) 4)) &&& 1085102592571150095) + (g_sh (((((x - ((g_sh x 1) &&& 6148914691236517205)) &&& 3689348814741910323) + ((g_sh (x - ((g_sh x 1) &&& 6148914691236517205)) 2) &&& 3689348814741910323)) + (g_sh (((x - ((g_sh x 1) &&& 6148914691236517205)) &&& 3689348814741910323) + ((g_sh (x - ((g_sh x 1) &&& 6148914691236517205)) 2) &&& 3689348814741910323)) 4)) &&& 1085102592571150095) 8)) 16)))]) hx hb dJ13_bitCount_95d88_47 rfl hl (by decide) rfl (fun ls hl => ?_)
  refine lv_lload_n hx hb dJ13_bitCount_95d88_48 rfl (lv_at hl 0 rfl) ?_
  refine lv_lload_n hx hb dJ13_bitCount_95d88_49 rfl (lv_at hl 0 rfl) ?_
  refine lv_bipush (v := 32) hx hb dJ13_bitCount_95d88_50 (by decide) ?_
  refine lv_lushr (v := g_sh (((((((x - ((g_sh x 1) &&& 6148914691236517205)) &&& 3689348814741910323) + ((g_sh (x - ((g_sh x 1) &&& 6148914691236517205)) 2) &&& 3689348814741910323)) + (g_sh (((x - ((g_sh x 1) &&& 6148914691236517205)) &&& 3689348814741910323) + ((g_sh (x - ((g_sh x 1) &&& 6148914691236517205)) 2) &&& 3689348814741910323)) 4)) &&& 1085102592571150095) + (g_sh (((((x - ((g_sh x 1) &&& 6148914691236517205)) &&& 3689348814741910323) + ((g_sh (x - ((g_sh x 1) &&& 6148914691236517205)) 2) &&& 3689348814741910323)) + (g_sh (((x - ((g_sh x 1) &&& 6148914691236517205)) &&& 3689348814741910323) + ((g_sh (x - ((g_sh x 1) &&& 6148914691236517205)) 2) &&& 3689348814741910323)) 4)) &&& 1085102592571150095) 8)) + (g_sh ((((((x - ((g_sh x 1) &&& 6148914691236517205)) &&& 3689348814741910323) + ((g_sh (x - ((g_sh x 1) &&& 6148914691236517205)) 2) &&& 3689348814741910323)) + (g_sh (((x - ((g_sh x 1) &&& 6148914691236517205)) &&& 3689348814741910323) + ((g_sh (x - ((g_sh x 1) &&& 6148914691236517205)) 2) &&& 3689348814741910323)) 4)) &&& 1085102592571150095) + (g_sh (((((x - ((g_sh x 1) &&& 6148914691236517205)) &&& 3689348814741910323) + ((g_sh (x - ((g_sh x 1) &&& 6148914691236517205)) 2) &&& 3689348814741910323)) + (g_sh (((x - ((g_sh x 1) &&& 6148914691236517205)) &&& 3689348814741910323) + ((g_sh (x - ((g_sh x 1) &&& 6148914691236517205)) 2) &&& 3689348814741910323)) 4)) &&& 1085102592571150095) 8)) 16)) 32) hx hb dJ13_bitCount_95d88_52 rfl ?_
  refine lv_ladd hx hb dJ13_bitCount_95d88_53 ?_
  refine lv_lstore_n (lv' := [(0, .long ((((((((x - ((g_sh x 1) &&& 6148914691236517205)) &&& 3689348814741910323) + ((g_sh (x - ((g_sh x 1) &&& 6148914691236517205)) 2) &&& 3689348814741910323)) + (g_sh (((x - ((g_sh x 1) &&& 6148914691236517205)) &&& 3689348814741910323) + ((g_sh (x - ((g_sh x 1) &&& 6148914691236517205)) 2) &&& 3689348814741910323)) 4)) &&& 1085102592571150095) + (g_sh (((((x - ((g_sh x 1) &&& 6148914691236517205)) &&& 3689348814741910323) + ((g_sh (x - ((g_sh x 1) &&& 6148914691236517205)) 2) &&& 3689348814741910323)) + (g_sh (((x - ((g_sh x 1) &&& 6148914691236517205)) &&& 3689348814741910323) + ((g_sh (x - ((g_sh x 1) &&& 6148914691236517205)) 2) &&& 3689348814741910323)) 4)) &&& 1085102592571150095) 8)) + (g_sh ((((((x - ((g_sh x 1) &&& 6148914691236517205)) &&& 3689348814741910323) + ((g_sh (x - ((g_sh x 1) &&& 6148914691236517205)) 2) &&& 3689348814741910323)) + (g_sh (((x - ((g_sh x 1) &&& 6148914691236517205)) &&& 3689348814741910323) + ((g_sh (x - ((g_sh x 1) &&& 6148914691236517205)) 2) &&& 3689348814741910323)) 4)) &&& 1085102592571150095) + (g_sh (((((x - ((g_sh x 1) &&& 6148914691236517205)) &&& 3689348814741910323) + ((g_sh (x - ((g_sh x 1) &&& 6148914691236517205)) 2) &&& 3689348814741910323)) + (g_sh (((x - ((g_sh x 1) &&& 6148914691236517205)) &&& 3689348814741910323) + ((g_sh (x - ((g_sh x 1) &&& 6148914691236517205)) 2) &&& 3689348814741910323)) 4)) &&& 1085102592571150095) 8)) 16)) + (g_sh (((((((x - ((g_sh x 1) &&& 6148914691236517205)) &&& 3689348814741910323) + ((g_sh (x - ((g_sh x 1) &&& 6148914691236517205)) 2) &&& 3689348814741910323)) + (g_sh (((x - ((g_sh x 1) &&& 6148914691236517205)) &&& 3689348814741910323) + ((g_sh (x - ((g_sh x 1) &&& 6148914691236517205)) 2) &&& 3689348814741910323)) 4)) &&& 1085102592571150095) + (g_sh (((((x - ((g_sh x 1) &&& 6148914691236517205)) &&& 3689348814741910323) + ((g_sh (x - ((g_sh x 1) &&& 6148914691236517205)) 2) &&& 3689348814741910323)) + (g_sh (((x - ((g_sh x 1) &&& 6148914691236517205)) &&& 3689348814741910323) + ((g_sh (x - ((g_sh x 1) &&& 6148914691236517205)) 2) &&& 3689348814741910323)) 4)) &&& 1085102592571150095) 8)) + (g_sh ((((((x - ((g_sh x 1) &&& 6148914691236517205)) &&& 3689348814741910323) + ((g_sh (x - ((g_sh x 1) &&& 6148914691236517205)) 2) &&& 3689348814741910323)) + (g_sh (((x - ((g_sh x 1) &&& 6148914691236517205)) &&& 3689348814741910323) + ((g_sh (x - ((g_sh x 1) &&& 6148914691236517205)) 2) &&& 3689348814741910323)) 4)) &&& 1085102592571150095) + (g_sh (((((x - ((g_sh x 1) &&& 6148914691236517205)) &&& 3689348814741910323) + ((g_sh (x - ((g_sh x 1) &&& 6148914691236517205)) 2) &&& 3689348814741910323)) + (g_sh (((x - ((g_sh x 1) &&& 6148914691236517205)) &&& 3689348814741910323) + ((g_sh (x - ((g_sh x 1) &&& 6148914691236517205)) 2) &&& 3689348814741910323)) 4)) &&& 1085102592571150095) 8)) 16)) 32)))]) hx hb dJ13_bitCount_95d88_54 rfl hl (by decide) rfl (fun ls hl => ?_)
  refine lv_lload_n hx hb dJ13_bitCount_95d88_55 rfl (lv_at hl 0 rfl) ?_
  refine lv_l2i (v := ((((((((x - ((g_sh x 1) &&& 6148914691236517205)) &&& 3689348814741910323) + ((g_sh (x - ((g_sh x 1) &&& 6148914691236517205)) 2) &&& 3689348814741910323)) + (g_sh (((x - ((g_sh x 1) &&& 6148914691236517205)) &&& 3689348814741910323) + ((g_sh (x - ((g_sh x 1) &&& 6148914691236517205)) 2) &&& 3689348814741910323)) 4)) &&& 1085102592571150095) + (g_sh (((((x - ((g_sh x 1) &&& 6148914691236517205)) &&& 3689348814741910323) + ((g_sh (x - ((g_sh x 1) &&& 6148914691236517205)) 2) &&& 3689348814741910323)) + (g_sh (((x - ((g_sh x 1) &&& 6148914691236517205)) &&& 3689348814741910323) + ((g_sh (x - ((g_sh x 1) &&& 6148914691236517205)) 2) &&& 3689348814741910323)) 4)) &&& 1085102592571150095) 8)) + (g_sh ((((((x - ((g_sh x 1) &&& 6148914691236517205)) &&& 3689348814741910323) + ((g_sh (x - ((g_sh x 1) &&& 6148914691236517205)) 2) &&& 3689348814741910323)) + (g_sh (((x - ((g_sh x 1) &&& 6148914691236517205)) &&& 3689348814741910323) + ((g_sh (x - ((g_sh x 1) &&& 6148914691236517205)) 2) &&& 3689348814741910323)) 4)) &&& 1085102592571150095) + (g_sh (((((x - ((g_sh x 1) &&& 6148914691236517205)) &&& 3689348814741910323) + ((g_sh (x - ((g_sh x 1) &&& 6148914691236517205)) 2) &&& 3689348814741910323)) + (g_sh (((x - ((g_sh x 1) &&& 6148914691236517205)) &&& 3689348814741910323) + ((g_sh (x - ((g_sh x 1) &&& 6148914691236517205)) 2) &&& 3689348814741910323)) 4)) &&& 1085102592571150095) 8)) 16)) + (g_sh (((((((x - ((g_sh x 1) &&& 6148914691236517205)) &&& 3689348814741910323) + ((g_sh (x - ((g_sh x 1) &&& 6148914691236517205)) 2) &&& 3689348814741910323)) + (g_sh (((x - ((g_sh x 1) &&& 6148914691236517205)) &&& 3689348814741910323) + ((g_sh (x - ((g_sh x 1) &&& 6148914691236517205)) 2) &&& 3689348814741910323)) 4)) &&& 1085102592571150095) + (g_sh (((((x - ((g_sh x 1) &&& 6148914691236517205)) &&& 3689348814741910323) + ((g_sh (x - ((g_sh x 1) &&& 6148914691236517205)) 2) &&& 3689348814741910323)) + (g_sh (((x - ((g_sh x 1) &&& 6148914691236517205)) &&& 3689348814741910323) + ((g_sh (x - ((g_sh x 1) &&& 6148914691236517205)) 2) &&& 3689348814741910323)) 4)) &&& 1085102592571150095) 8)) + (g_sh ((((((x - ((g_sh x 1) &&& 6148914691236517205)) &&& 3689348814741910323) + ((g_sh (x - ((g_sh x 1) &&& 6148914691236517205)) 2) &&& 3689348814741910323)) + (g_sh (((x - ((g_sh x 1) &&& 6148914691236517205)) &&& 3689348814741910323) + ((g_sh (x - ((g_sh x 1) &&& 6148914691236517205)) 2) &&& 3689348814741910323)) 4)) &&& 1085102592571150095) + (g_sh (((((x - ((g_sh x 1) &&& 6148914691236517205)) &&& 3689348814741910323) + ((g_sh (x - ((g_sh x 1) &&& 6148914691236517205)) 2) &&& 3689348814741910323)) + (g_sh (((x - ((g_sh x 1) &&& 6148914691236517205)) &&& 3689348814741910323) + ((g_sh (x - ((g_sh x 1) &&& 6148914691236517205)) 2) &&& 3689348814741910323)) 4)) &&& 1085102592571150095) 8)) 16)) 32)).toInt32) hx hb dJ13_bitCount_95d88_56 rfl ?_
  refine lv_bipush (v := 127) hx hb dJ13_bitCount_95d88_57 (by decide) ?_
  refine lv_iand hx hb dJ13_bitCount_95d88_59 ?_
  exact W.iret (v := (((((((((x - ((g_sh x 1) &&& 6148914691236517205)) &&& 3689348814741910323) + ((g_sh (x - ((g_sh x 1) &&& 6148914691236517205)) 2) &&& 3689348814741910323)) + (g_sh (((x - ((g_sh x 1) &&& 6148914691236517205)) &&& 3689348814741910323) + ((g_sh (x - ((g_sh x 1) &&& 6148914691236517205)) 2) &&& 3689348814741910323)) 4)) &&& 1085102592571150095) + (g_sh (((((x - ((g_sh x 1) &&& 6148914691236517205)) &&& 3689348814741910323) + ((g_sh (x - ((g_sh x 1) &&& 6148914691236517205)) 2) &&& 3689348814741910323)) + (g_sh (((x - ((g_sh x 1) &&& 6148914691236517205)) &&& 3689348814741910323) + ((g_sh (x - ((g_sh x 1) &&& 6148914691236517205)) 2) &&& 3689348814741910323)) 4)) &&& 1085102592571150095) 8)) + (g_sh ((((((x - ((g_sh x 1) &&& 6148914691236517205)) &&& 3689348814741910323) + ((g_sh (x - ((g_sh x 1) &&& 6148914691236517205)) 2) &&& 3689348814741910323)) + (g_sh (((x - ((g_sh x 1) &&& 6148914691236517205)) &&& 3689348814741910323) + ((g_sh (x - ((g_sh x 1) &&& 6148914691236517205)) 2) &&& 3689348814741910323)) 4)) &&& 1085102592571150095) + (g_sh (((((x - ((g_sh x 1) &&& 6148914691236517205)) &&& 3689348814741910323) + ((g_sh (x - ((g_sh x 1) &&& 6148914691236517205)) 2) &&& 3689348814741910323)) + (g_sh (((x - ((g_sh x 1) &&& 6148914691236517205)) &&& 3689348814741910323) + ((g_sh (x - ((g_sh x 1) &&& 6148914691236517205)) 2) &&& 3689348814741910323)) 4)) &&& 1085102592571150095) 8)) 16)) + (g_sh (((((((x - ((g_sh x 1) &&& 6148914691236517205)) &&& 3689348814741910323) + ((g_sh (x - ((g_sh x 1) &&& 6148914691236517205)) 2) &&& 3689348814741910323)) + (g_sh (((x - ((g_sh x 1) &&& 6148914691236517205)) &&& 3689348814741910323) + ((g_sh (x - ((g_sh x 1) &&& 6148914691236517205)) 2) &&& 3689348814741910323)) 4)) &&& 1085102592571150095) + (g_sh (((((x - ((g_sh x 1) &&& 6148914691236517205)) &&& 3689348814741910323) + ((g_sh (x - ((g_sh x 1) &&& 6148914691236517205)) 2) &&& 3689348814741910323)) + (g_sh (((x - ((g_sh x 1) &&& 6148914691236517205)) &&& 3689348814741910323) + ((g_sh (x - ((g_sh x 1) &&& 6148914691236517205)) 2) &&& 3689348814741910323)) 4)) &&& 1085102592571150095) 8)) + (g_sh ((((((x - ((g_sh x 1) &&& 6148914691236517205)) &&& 3689348814741910323) + ((g_sh (x - ((g_sh x 1) &&& 6148914691236517205)) 2) &&& 3689348814741910323)) + (g_sh (((x - ((g_sh x 1) &&& 6148914691236517205)) &&& 3689348814741910323) + ((g_sh (x - ((g_sh x 1) &&& 6148914691236517205)) 2) &&& 3689348814741910323)) 4)) &&& 1085102592571150095) + (g_sh (((((x - ((g_sh x 1) &&& 6148914691236517205)) &&& 3689348814741910323) + ((g_sh (x - ((g_sh x 1) &&& 6148914691236517205)) 2) &&& 3689348814741910323)) + (g_sh (((x - ((g_sh x 1) &&& 6148914691236517205)) &&& 3689348814741910323) + ((g_sh (x - ((g_sh x 1) &&& 6148914691236517205)) 2) &&& 3689348814741910323)) 4)) &&& 1085102592571150095) 8)) 16)) 32)).toInt32) &&& 127) hx hb hr (fun t ht hW => ⟨⟨(((((((((x - ((g_sh x 1) &&& 6148914691236517205)) &&& 3689348814741910323) + ((g_sh (x - ((g_sh x 1) &&& 6148914691236517205)) 2) &&& 3689348814741910323)) + (g_sh (((x - ((g_sh x 1) &&& 6148914691236517205)) &&& 3689348814741910323) + ((g_sh (x - ((g_sh x 1) &&& 6148914691236517205)) 2) &&& 3689348814741910323)) 4)) &&& 1085102592571150095) + (g_sh (((((x - ((g_sh x 1) &&& 6148914691236517205)) &&& 3689348814741910323) + ((g_sh (x - ((g_sh x 1) &&& 6148914691236517205)) 2) &&& 3689348814741910323)) + (g_sh (((x - ((g_sh x 1) &&& 6148914691236517205)) &&& 3689348814741910323) + ((g_sh (x - ((g_sh x 1) &&& 6148914691236517205)) 2) &&& 3689348814741910323)) 4)) &&& 1085102592571150095) 8)) + (g_sh ((((((x - ((g_sh x 1) &&& 6148914691236517205)) &&& 3689348814741910323) + ((g_sh (x - ((g_sh x 1) &&& 6148914691236517205)) 2) &&& 3689348814741910323)) + (g_sh (((x - ((g_sh x 1) &&& 6148914691236517205)) &&& 3689348814741910323) + ((g_sh (x - ((g_sh x 1) &&& 6148914691236517205)) 2) &&& 3689348814741910323)) 4)) &&& 1085102592571150095) + (g_sh (((((x - ((g_sh x 1) &&& 6148914691236517205)) &&& 3689348814741910323) + ((g_sh (x - ((g_sh x 1) &&& 6148914691236517205)) 2) &&& 3689348814741910323)) + (g_sh (((x - ((g_sh x 1) &&& 6148914691236517205)) &&& 3689348814741910323) + ((g_sh (x - ((g_sh x 1) &&& 6148914691236517205)) 2) &&& 3689348814741910323)) 4)) &&& 1085102592571150095) 8)) 16)) + (g_sh (((((((x - ((g_sh x 1) &&& 6148914691236517205)) &&& 3689348814741910323) + ((g_sh (x - ((g_sh x 1) &&& 6148914691236517205)) 2) &&& 3689348814741910323)) + (g_sh (((x - ((g_sh x 1) &&& 6148914691236517205)) &&& 3689348814741910323) + ((g_sh (x - ((g_sh x 1) &&& 6148914691236517205)) 2) &&& 3689348814741910323)) 4)) &&& 1085102592571150095) + (g_sh (((((x - ((g_sh x 1) &&& 6148914691236517205)) &&& 3689348814741910323) + ((g_sh (x - ((g_sh x 1) &&& 6148914691236517205)) 2) &&& 3689348814741910323)) + (g_sh (((x - ((g_sh x 1) &&& 6148914691236517205)) &&& 3689348814741910323) + ((g_sh (x - ((g_sh x 1) &&& 6148914691236517205)) 2) &&& 3689348814741910323)) 4)) &&& 1085102592571150095) 8)) + (g_sh ((((((x - ((g_sh x 1) &&& 6148914691236517205)) &&& 3689348814741910323) + ((g_sh (x - ((g_sh x 1) &&& 6148914691236517205)) 2) &&& 3689348814741910323)) + (g_sh (((x - ((g_sh x 1) &&& 6148914691236517205)) &&& 3689348814741910323) + ((g_sh (x - ((g_sh x 1) &&& 6148914691236517205)) 2) &&& 3689348814741910323)) 4)) &&& 1085102592571150095) + (g_sh (((((x - ((g_sh x 1) &&& 6148914691236517205)) &&& 3689348814741910323) + ((g_sh (x - ((g_sh x 1) &&& 6148914691236517205)) 2) &&& 3689348814741910323)) + (g_sh (((x - ((g_sh x 1) &&& 6148914691236517205)) &&& 3689348814741910323) + ((g_sh (x - ((g_sh x 1) &&& 6148914691236517205)) 2) &&& 3689348814741910323)) 4)) &&& 1085102592571150095) 8)) 16)) 32)).toInt32) &&& 127, (), rfl, rfl, by rw [ht]; exact hP, va_K.moved hW.alike hK, hD⟩, hS.F ht⟩) hS.2.2 dJ13_bitCount_95d88_60
end
section
theorem bI_1 {c : Prop} [Decidable c] : ¬ bI c = 0 ↔ c := by
  rw [bI_0]
  exact Decidable.not_not
theorem c_tk_t {nx un ek en n v : Int32} {S : Int64 × (Nat → Int32)} (h : c_ok nx un ek en S.1 (n - nx)) : (S.1 ||| ((1 : Int64) <<< ((n - nx).toInt64 &&& 63)), upd S.2 (n &&& 63).toNatClampNeg (vp_nar .byte v)) = c_tk nx un ek en n v S := (if_pos h).symm
theorem c_tk_f {nx un ek en n v : Int32} {S : Int64 × (Nat → Int32)} (h : ¬ c_ok nx un ek en S.1 (n - nx)) : S = c_tk nx un ek en n v S := (if_neg h).symm
theorem ge64 {z : Int32} {j : Nat} (h : z = nI j) (hj : j < 2 ^ 31) : (64 : Int32) ≤ z ↔ 64 ≤ j := by
  rw [h]
  exact nI_leI (a := 64) (by decide) hj
theorem sg_bj {x y : Int64} {j : Nat} (h : uN y = uN x / 2 ^ j) {i : Nat} : sg_b y i = sg_b x (j + i) := by
  unfold sg_b
  rw [h, Nat.testBit_div_two_pow, Nat.add_comm]
theorem sg_div {x y : Int64} {j : Nat} (h : uN y = uN x / 2 ^ j) : uN (g_sh y 1) = uN x / 2 ^ (j + 1) := by
  have e : uN (g_sh y 1) = uN y / 2 ^ 1 := g_sh_uN y (k := 1) (by decide)
  rw [e, h, Nat.div_div_eq_div_mul, ← Nat.pow_add]
theorem sg_tst {x : Int64} {k : Nat} (h : k < 64) : (¬ (g_sh x (nI k) &&& 1) = 0) ↔ sg_b x k = true := by
  rw [sg_b_bit, sg_b_sh h, Nat.add_zero]
  simp
end
section
set_option maxHeartbeats 4000000 in
set_option maxRecDepth 100000 in
theorem c_takeByte (l : Launch) (dC : Nat → ClassId) (dI : Nat → Nat → Nat) (h0 qb : Nat) (cB : ClassId) (kb : Int64) (nx un ek en : Int32) (fb : Nat → Int32) (n v : Int32) (sz : Nat)  : Met l yX0_takeByte wsX0_takeByte ({ frames := 1, cells := 0, slots := 0, locals := 21 }) (va_Pc [.ref h0, .int n, .int v] (fun U => U.heap.size = sz ∧ va_P (dC, dI) vwCl [(h0, .inr (0, [.ref qb, .long kb, .int nx, .int un, .int ek, .int en])), (qb, .inl (cB, 64, .inl fb))] U.heap ∧ va_K (dC, dI) vwCl [(cB, .byte)] U ∧ va_D (fun _ => True) [(h0, .inr (0, [.ref qb, .long kb, .int nx, .int un, .int ek, .int en])), (qb, .inl (cB, 64, .inl fb))])) (va_Qv (fun (u : Int64 × (Nat → Int32)) => match u with | (kb', fb') => (kb', fb') = c_tk nx un ek en n v (kb, fb)) (fun (u : Int64 × (Nat → Int32)) (t : State) => match u with | (kb', fb') => va_P (dC, dI) vwCl [(h0, .inr (0, [.ref qb, .long kb', .int nx, .int un, .int ek, .int en])), (qb, .inl (cB, 64, .inl fb'))] t.heap ∧ va_K (dC, dI) vwCl [(cB, .byte)] t ∧ va_D (va_A [(h0, .inr (0, [.ref qb, .long kb, .int nx, .int un, .int ek, .int en])), (qb, .inl (cB, 64, .inl fb))] sz) [(h0, .inr (0, [.ref qb, .long kb', .int nx, .int un, .int ek, .int en])), (qb, .inl (cB, 64, .inl fb'))]) (va_A [(h0, .inr (0, [.ref qb, .long kb, .int nx, .int un, .int ek, .int en])), (qb, .inl (cB, 64, .inl fb))] sz)) 0 0 (va_A [(h0, .inr (0, [.ref qb, .long kb, .int nx, .int un, .int ek, .int en])), (qb, .inl (cB, 64, .inl fb))] sz) := by
  refine Met.ofW (cc := cX0_takeByte) (maxL := 4) (ret := none) (by decide) rfl ?_
  intro p e s m args below meth c s₁ B hml hv
  obtain ⟨rfl, hsz, hP, hK, hD0⟩ := hv
  have hx := B.exec
  have hb := B.bytes
  have hr := B.returns
  have hts := atoms_spec (ws := wsX0_takeByte) B.pre
  have hown : s.vm.findClass RX0 = some m.cls := findClass_of_methodNamed B.named
  have hlocks := B.notSynchronized
  subst hsz
  have hD := hD0.self (sz := s.heap.size)
  generalize hAe : va_A [(h0, .inr (0, [.ref qb, .long kb, .int nx, .int un, .int ek, .int en])), (qb, .inl (cB, 64, .inl fb))] s.heap.size = A at hD ⊢
  have hA : ∀ q : Nat, s.heap.size ≤ q → A q := fun q h => by rw [← hAe]; exact Or.inr h
  have hS : va_S A s.heap s.heap [] := va_S.rf
  have hP : va_P (dC, dI) vwCl [(h0, .inr (0, [.ref qb, .long kb, .int nx, .int un, .int ek, .int en])), (qb, .inl (cB, 64, .inl fb))] s.heap := hP
  have hl := lv_entry ([.ref h0, .int n, .int v]) (n := 4) (Nat.le_of_ble_eq_true rfl)
  rw [lg_entry_eq]
  generalize (lg_sl ([.ref h0, .int n, .int v]) ++ List.replicate (4 - (lg_sl ([.ref h0, .int n, .int v])).length) Slot.unset).toArray = ls at hl ⊢
  have hl : lv_has ls 4 [(0, .ref h0), (1, .int n), (2, .int v)] := hl
  have hi_0 : ∀ w ∈ u_ws RX0 TX0 6, w ∈ wsX0_takeByte := by decide +kernel
  refine lv_iload_n hx hb dX0_takeByte_0 rfl (lv_at hl 1 rfl) ?_
  refine lv_aload_n hx hb dX0_takeByte_1 rfl (lv_at hl 0 rfl) ?_
  refine va_get (D := (dC, dI)) (ci := 0) (v := .int nx) (C := RX0) (T := TX0) (N := 6) hx hb hts hi_0 hown hK hP 0 rfl rfl 2 (by decide) (hts (.fieldLink RX0 17 "SegmentBox" "next" "I") (by decide +kernel)) (fun _ h9 => h9) rfl dX0_takeByte_2 ?_
  refine lv_isub hx hb dX0_takeByte_5 ?_
  refine lv_istore_n (lv' := [(3, .int (n - nx)), (0, .ref h0), (1, .int n), (2, .int v)]) hx hb dX0_takeByte_6 rfl hl (by decide) rfl (fun ls hl => ?_)
  refine lv_iload_n hx hb dX0_takeByte_7 rfl (lv_at hl 0 rfl) ?_
  refine lv_if_lt (tgt := 57) hx hb dX0_takeByte_8 (by decide) (fun c_8 => ?_) (fun c_8 => ?_)
  · exact W.vret hx hb hr (fun t ht hW => ⟨⟨(kb, fb), rfl, c_tk_f (fun z => z.1 c_8), by rw [ht]; exact hP, va_K.moved hW.alike hK, hD⟩, hS.F ht⟩) hS.2.2 dX0_takeByte_57
  · refine lv_iload_n hx hb dX0_takeByte_11 rfl (lv_at hl 0 rfl) ?_
    refine lv_aload_n hx hb dX0_takeByte_12 rfl (lv_at hl 1 rfl) ?_
    have hPc := hP.sub (ws' := [(h0, .inr (0, [.ref qb, .long kb, .int nx, .int un, .int ek, .int en])), (qb, .inl (cB, 64, .inl fb))]) [0, 1] rfl
    have hDc := hD.sub (ws' := [(h0, .inr (0, [.ref qb, .long kb, .int nx, .int un, .int ek, .int en])), (qb, .inl (cB, 64, .inl fb))]) [0, 1] (by decide) rfl
    have hKc := hK.sub (tys' := [(cB, .byte)]) [0] rfl
    have hFc := va_free (wc := [(h0, .inr (0, [.ref qb, .long kb, .int nx, .int un, .int ek, .int en])), (qb, .inl (cB, 64, .inl fb))]) hD hS hA [0, 1] rfl
    refine va_calli (va_runV (As := []) (rest := [.int (n - nx)]) ⟨hx, hb, hml, hown, hts⟩ (c_window l dC dI h0 qb cB kb nx un ek en fb s.heap.size ) (cwV 0 hts gX0_takeByte_X0_window rfl rfl rfl (by decide +kernel) ⟨Nat.le_of_ble_eq_true rfl, Nat.le_of_ble_eq_true rfl⟩) ⟨fun a U g mk q => by obtain ⟨q0, q1, qP, qK, qD⟩ := q; exact ⟨q0, q1, qP, va_K.moved (u := U) (U := U.calling g mk a) (Vm.Alike.refl U.vm) qK, qD⟩, va_recv hKc hPc (ci := 0) (q0 := 0) rfl rfl, fun U hU hW => ⟨rfl, by rw [hU], by rw [hU]; exact hPc, va_K.moved hW.alike hKc, hDc.weaken (fun _ _ _ _ => trivial)⟩⟩ rfl rfl hl.1 rfl (lv_room (Nat.le_of_ble_eq_true rfl)) dX0_takeByte_13 ⟨(Nat.zero_le _), (Nat.zero_le _)⟩) hS (fun q _ h => hFc q h) hFc (fun r_1 u t H1 locs ht hvm hw_2 hB hz1 hk1 hS => ?_)
    obtain ⟨hP1, hK1, hD1⟩ := hB
    rw [ht] at hP1
    have hK1 := va_K.moved hvm.symm hK1
    try dsimp only at hw_2
    obtain ⟨hP, hD⟩ := va_join (wr := []) (w1 := [(h0, .inr (0, [.ref qb, .long kb, .int nx, .int un, .int ek, .int en])), (qb, .inl (cB, 64, .inl fb))]) hP hD [0, 1] [] rfl rfl (by decide) (by decide) hk1 hFc hP1 hD1
    generalize H1 = H at hP hS ⊢
    have hP : va_P (dC, dI) vwCl [(h0, .inr (0, [.ref qb, .long kb, .int nx, .int un, .int ek, .int en])), (qb, .inl (cB, 64, .inl fb))] H := hP
    have hD : va_D A [(h0, .inr (0, [.ref qb, .long kb, .int nx, .int un, .int ek, .int en])), (qb, .inl (cB, 64, .inl fb))] := hD
    subst hw_2
    refine lv_icmp_ge (tgt := 57) hx hb dX0_takeByte_16 (by decide) (fun c_16 => ?_) (fun c_16 => ?_)
    · exact W.vret hx hb hr (fun t ht hW => ⟨⟨(kb, fb), rfl, c_tk_f (fun z => Int32.not_le.mpr z.2.1 c_16), by rw [ht]; exact hP, va_K.moved hW.alike hK, hD⟩, hS.F ht⟩) hS.2.2 dX0_takeByte_57
    · refine lv_aload_n hx hb dX0_takeByte_19 rfl (lv_at hl 1 rfl) ?_
      refine lv_iload_n hx hb dX0_takeByte_20 rfl (lv_at hl 0 rfl) ?_
      have hPc := hP.sub (ws' := [(h0, .inr (0, [.ref qb, .long kb, .int nx, .int un, .int ek, .int en])), (qb, .inl (cB, 64, .inl fb))]) [0, 1] rfl
      have hDc := hD.sub (ws' := [(h0, .inr (0, [.ref qb, .long kb, .int nx, .int un, .int ek, .int en])), (qb, .inl (cB, 64, .inl fb))]) [0, 1] (by decide) rfl
      have hKc := hK.sub (tys' := [(cB, .byte)]) [0] rfl
      have hFc := va_free (wc := [(h0, .inr (0, [.ref qb, .long kb, .int nx, .int un, .int ek, .int en])), (qb, .inl (cB, 64, .inl fb))]) hD hS hA [0, 1] rfl
      refine va_calli (va_runV (As := [.int (n - nx)]) (rest := []) ⟨hx, hb, hml, hown, hts⟩ (c_isHeldAhead l dC dI h0 qb cB kb nx un ek en fb (n - nx) H.size ) (cwV 1 hts gX0_takeByte_X0_isHeldAhead rfl rfl rfl (by decide +kernel) ⟨Nat.le_of_ble_eq_true rfl, Nat.le_of_ble_eq_true rfl⟩) ⟨fun a U g mk q => by obtain ⟨q0, q1, qP, qK, qD⟩ := q; exact ⟨q0, q1, qP, va_K.moved (u := U) (U := U.calling g mk a) (Vm.Alike.refl U.vm) qK, qD⟩, va_recv hKc hPc (ci := 0) (q0 := 0) rfl rfl, fun U hU hW => ⟨rfl, by rw [hU], by rw [hU]; exact hPc, va_K.moved hW.alike hKc, hDc.weaken (fun _ _ _ _ => trivial)⟩⟩ rfl rfl hl.1 rfl (lv_room (Nat.le_of_ble_eq_true rfl)) dX0_takeByte_21 ⟨(Nat.zero_le _), (Nat.zero_le _)⟩) hS (fun q _ h => hFc q h) hFc (fun r_3 u t H1 locs ht hvm hw_4 hB hz1 hk1 hS => ?_)
      obtain ⟨hP1, hK1, hD1⟩ := hB
      rw [ht] at hP1
      have hK1 := va_K.moved hvm.symm hK1
      try dsimp only at hw_4
      obtain ⟨hP, hD⟩ := va_join (wr := []) (w1 := [(h0, .inr (0, [.ref qb, .long kb, .int nx, .int un, .int ek, .int en])), (qb, .inl (cB, 64, .inl fb))]) hP hD [0, 1] [] rfl rfl (by decide) (by decide) hk1 hFc hP1 hD1
      generalize H1 = H at hP hS ⊢
      have hP : va_P (dC, dI) vwCl [(h0, .inr (0, [.ref qb, .long kb, .int nx, .int un, .int ek, .int en])), (qb, .inl (cB, 64, .inl fb))] H := hP
      have hD : va_D A [(h0, .inr (0, [.ref qb, .long kb, .int nx, .int un, .int ek, .int en])), (qb, .inl (cB, 64, .inl fb))] := hD
      subst hw_4
      refine lv_if_ne (tgt := 57) hx hb dX0_takeByte_24 (by decide) (fun c_24 => ?_) (fun c_24 => ?_)
      · exact W.vret hx hb hr (fun t ht hW => ⟨⟨(kb, fb), rfl, c_tk_f (fun z => z.2.2.1 (bI_1.mp c_24)), by rw [ht]; exact hP, va_K.moved hW.alike hK, hD⟩, hS.F ht⟩) hS.2.2 dX0_takeByte_57
      · refine lv_aload_n hx hb dX0_takeByte_27 rfl (lv_at hl 1 rfl) ?_
        refine lv_iload_n hx hb dX0_takeByte_28 rfl (lv_at hl 0 rfl) ?_
        have hPc := hP.sub (ws' := [(h0, .inr (0, [.ref qb, .long kb, .int nx, .int un, .int ek, .int en])), (qb, .inl (cB, 64, .inl fb))]) [0, 1] rfl
        have hDc := hD.sub (ws' := [(h0, .inr (0, [.ref qb, .long kb, .int nx, .int un, .int ek, .int en])), (qb, .inl (cB, 64, .inl fb))]) [0, 1] (by decide) rfl
        have hKc := hK.sub (tys' := [(cB, .byte)]) [0] rfl
        have hFc := va_free (wc := [(h0, .inr (0, [.ref qb, .long kb, .int nx, .int un, .int ek, .int en])), (qb, .inl (cB, 64, .inl fb))]) hD hS hA [0, 1] rfl
        refine va_calli (va_runV (As := [.int (n - nx)]) (rest := []) ⟨hx, hb, hml, hown, hts⟩ (c_isBeforeEnd l dC dI h0 qb cB kb nx un ek en fb (n - nx) H.size ) (cwV 1 hts gX0_takeByte_X0_isBeforeEnd rfl rfl rfl (by decide +kernel) ⟨Nat.le_of_ble_eq_true rfl, Nat.le_of_ble_eq_true rfl⟩) ⟨fun a U g mk q => by obtain ⟨q0, q1, qP, qK, qD⟩ := q; exact ⟨q0, q1, qP, va_K.moved (u := U) (U := U.calling g mk a) (Vm.Alike.refl U.vm) qK, qD⟩, va_recv hKc hPc (ci := 0) (q0 := 0) rfl rfl, fun U hU hW => ⟨rfl, by rw [hU], by rw [hU]; exact hPc, va_K.moved hW.alike hKc, hDc.weaken (fun _ _ _ _ => trivial)⟩⟩ rfl rfl hl.1 rfl (lv_room (Nat.le_of_ble_eq_true rfl)) dX0_takeByte_29 ⟨(Nat.zero_le _), (Nat.zero_le _)⟩) hS (fun q _ h => hFc q h) hFc (fun r_5 u t H1 locs ht hvm hw_6 hB hz1 hk1 hS => ?_)
        obtain ⟨hP1, hK1, hD1⟩ := hB
        rw [ht] at hP1
        have hK1 := va_K.moved hvm.symm hK1
        try dsimp only at hw_6
        obtain ⟨hP, hD⟩ := va_join (wr := []) (w1 := [(h0, .inr (0, [.ref qb, .long kb, .int nx, .int un, .int ek, .int en])), (qb, .inl (cB, 64, .inl fb))]) hP hD [0, 1] [] rfl rfl (by decide) (by decide) hk1 hFc hP1 hD1
        generalize H1 = H at hP hS ⊢
        have hP : va_P (dC, dI) vwCl [(h0, .inr (0, [.ref qb, .long kb, .int nx, .int un, .int ek, .int en])), (qb, .inl (cB, 64, .inl fb))] H := hP
        have hD : va_D A [(h0, .inr (0, [.ref qb, .long kb, .int nx, .int un, .int ek, .int en])), (qb, .inl (cB, 64, .inl fb))] := hD
        subst hw_6
        refine lv_if_eq (tgt := 57) hx hb dX0_takeByte_32 (by decide) (fun c_32 => ?_) (fun c_32 => ?_)
        · exact W.vret hx hb hr (fun t ht hW => ⟨⟨(kb, fb), rfl, c_tk_f (fun z => bI_0.mp c_32 z.2.2.2), by rw [ht]; exact hP, va_K.moved hW.alike hK, hD⟩, hS.F ht⟩) hS.2.2 dX0_takeByte_57
        · refine lv_aload_n hx hb dX0_takeByte_35 rfl (lv_at hl 1 rfl) ?_
          refine va_get (D := (dC, dI)) (ci := 0) (v := .ref qb) (C := RX0) (T := TX0) (N := 6) hx hb hts hi_0 hown hK hP 0 rfl rfl 0 (by decide) (hts (.fieldLink RX0 9 "SegmentBox" "bytes" "[B") (by decide +kernel)) (fun _ h9 => h9) rfl dX0_takeByte_36 ?_
          refine lv_iload_n hx hb dX0_takeByte_39 rfl (lv_at hl 2 rfl) ?_
          have hPc := hP.sub (ws' := []) [] rfl
          have hDc := hD.sub (ws' := []) [] (by decide) rfl
          have hKc := hK.sub (tys' := []) [] rfl
          have hFc := va_free (wc := []) hD hS hA [] rfl
          refine va_calli (va_runS (As := [.int n]) (rest := [.ref qb]) ⟨hx, hb, hml, hown, hts⟩ (c_slotOf l dC dI n H.size ) (va_cwS 1 hts gX0_takeByte_X0_slotOf rfl rfl rfl (by decide +kernel) ⟨Nat.le_of_ble_eq_true rfl, Nat.le_of_ble_eq_true rfl⟩) ⟨fun a U g mk q => by obtain ⟨q0, q1, qP, qK, qD⟩ := q; exact ⟨q0, q1, qP, va_K.moved (u := U) (U := U.calling g mk a) (Vm.Alike.refl U.vm) qK, qD⟩, fun U hU hW => ⟨rfl, by rw [hU], by rw [hU]; exact hPc, va_K.moved hW.alike hKc, hDc.weaken (fun _ _ _ _ => trivial)⟩⟩ rfl rfl hl.1 rfl (lv_room (Nat.le_of_ble_eq_true rfl)) dX0_takeByte_40 ⟨(Nat.zero_le _), (Nat.zero_le _)⟩) hS (fun q _ h => hFc q h) hFc (fun r_7 u t H1 locs ht hvm hw_8 hB hz1 hk1 hS => ?_)
          obtain ⟨hP1, hK1, hD1⟩ := hB
          rw [ht] at hP1
          have hK1 := va_K.moved hvm.symm hK1
          try dsimp only at hw_8
          obtain ⟨hP, hD⟩ := va_join (wr := [(h0, .inr (0, [.ref qb, .long kb, .int nx, .int un, .int ek, .int en])), (qb, .inl (cB, 64, .inl fb))]) (w1 := []) hP hD [] [0, 1] rfl rfl (by decide) (by decide) hk1 hFc hP1 hD1
          generalize H1 = H at hP hS ⊢
          have hP : va_P (dC, dI) vwCl [(h0, .inr (0, [.ref qb, .long kb, .int nx, .int un, .int ek, .int en])), (qb, .inl (cB, 64, .inl fb))] H := hP
          have hD : va_D A [(h0, .inr (0, [.ref qb, .long kb, .int nx, .int un, .int ek, .int en])), (qb, .inl (cB, 64, .inl fb))] := hD
          subst hw_8
          refine lv_iload_n hx hb dX0_takeByte_43 rfl (lv_at hl 3 rfl) ?_
          refine va_bast hx hb hK hP hD hS 1 0 rfl rfl (pk_andIn n 6 (by decide) (by decide)) dX0_takeByte_44 (fun H locs hP hD hS => ?_)
          have hP : va_P (dC, dI) vwCl [(h0, .inr (0, [.ref qb, .long kb, .int nx, .int un, .int ek, .int en])), (qb, .inl (cB, 64, .inl (upd fb (n &&& 63).toNatClampNeg (vp_nar .byte v))))] H := hP
          have hD : va_D A [(h0, .inr (0, [.ref qb, .long kb, .int nx, .int un, .int ek, .int en])), (qb, .inl (cB, 64, .inl (upd fb (n &&& 63).toNatClampNeg (vp_nar .byte v))))] := hD
          refine lv_aload_n hx hb dX0_takeByte_45 rfl (lv_at hl 1 rfl) ?_
          refine lv_dup hx hb dX0_takeByte_46 rfl ?_
          refine va_get (D := (dC, dI)) (ci := 0) (v := .long kb) (C := RX0) (T := TX0) (N := 6) hx hb hts hi_0 hown hK hP 0 rfl rfl 1 (by decide) (hts (.fieldLink RX0 13 "SegmentBox" "heldBits" "J") (by decide +kernel)) (fun _ h9 => h9) rfl dX0_takeByte_47 ?_
          refine lv_lconst (v := 1) hx hb dX0_takeByte_50 rfl ?_
          refine lv_iload_n hx hb dX0_takeByte_51 rfl (lv_at hl 0 rfl) ?_
          refine lv_lshl (v := (1 : Int64) <<< ((n - nx).toInt64 &&& 63)) hx hb dX0_takeByte_52 rfl ?_
          refine lv_lor hx hb dX0_takeByte_53 ?_
          refine lv_topl (fun f_9 ef_9 => ?_)
          refine va_put (D := (dC, dI)) (ci := 0) (v := .long f_9) (ty := .long) (C := RX0) (T := TX0) (N := 6) hx hb hts hi_0 tyX0 tyX0_ok nmX0 hown hK hP hD hS 0 rfl rfl 1 (by decide) (hts (.fieldLink RX0 13 "SegmentBox" "heldBits" "J") (by decide +kernel)) (fun _ h9 => h9) rfl (by decide +kernel) rfl rfl (Nat.le_of_ble_eq_true rfl) dX0_takeByte_54 (fun H locs hP hD hS => ?_)
          have hP : va_P (dC, dI) vwCl [(h0, .inr (0, [.ref qb, .long f_9, .int nx, .int un, .int ek, .int en])), (qb, .inl (cB, 64, .inl (upd fb (n &&& 63).toNatClampNeg (vp_nar .byte v))))] H := hP
          have hD : va_D A [(h0, .inr (0, [.ref qb, .long f_9, .int nx, .int un, .int ek, .int en])), (qb, .inl (cB, 64, .inl (upd fb (n &&& 63).toNatClampNeg (vp_nar .byte v))))] := hD
          exact W.vret hx hb hr (fun t ht hW => ⟨⟨(f_9, upd fb (n &&& 63).toNatClampNeg (vp_nar .byte v)), rfl, by rw [ef_9]; exact c_tk_t (S := (kb, fb)) ⟨c_8, Int32.not_le.mp c_16, bI_0.mp c_24, bI_1.mp c_32⟩, by rw [ht]; exact hP, va_K.moved hW.alike hK, hD⟩, hS.F ht⟩) hS.2.2 dX0_takeByte_57
end
section
set_option maxHeartbeats 4000000 in
set_option maxRecDepth 100000 in
theorem c_moveOn (l : Launch) (dC : Nat → ClassId) (dI : Nat → Nat → Nat) (h0 qb : Nat) (cB : ClassId) (kb : Int64) (nx un ek en : Int32) (fb : Nat → Int32) (sz : Nat)  : Met l yX0_moveOn wsX0_moveOn ({ frames := 0, cells := 0, slots := 0, locals := 0 }) (va_Pc [.ref h0] (fun U => U.heap.size = sz ∧ va_P (dC, dI) vwCl [(h0, .inr (0, [.ref qb, .long kb, .int nx, .int un, .int ek, .int en])), (qb, .inl (cB, 64, .inl fb))] U.heap ∧ va_K (dC, dI) vwCl [(cB, .byte)] U ∧ va_D (fun _ => True) [(h0, .inr (0, [.ref qb, .long kb, .int nx, .int un, .int ek, .int en])), (qb, .inl (cB, 64, .inl fb))])) (va_Qi (fun (r : Int32) (u : Int64 × Int32 × Int32) => match u with | (kb', nx', un') => ∃ j : Nat, j ≤ 64 ∧ (∀ i, i < j → sg_b kb i = true) ∧ (j < 64 → sg_b kb j = false) ∧ uN kb' = uN kb / 2 ^ j ∧ r = nI j ∧ nx' = nx + nI j ∧ un' = un + nI j) (fun (u : Int64 × Int32 × Int32) (t : State) => match u with | (kb', nx', un') => va_P (dC, dI) vwCl [(h0, .inr (0, [.ref qb, .long kb', .int nx', .int un', .int ek, .int en])), (qb, .inl (cB, 64, .inl fb))] t.heap ∧ va_K (dC, dI) vwCl [(cB, .byte)] t ∧ va_D (va_A [(h0, .inr (0, [.ref qb, .long kb, .int nx, .int un, .int ek, .int en])), (qb, .inl (cB, 64, .inl fb))] sz) [(h0, .inr (0, [.ref qb, .long kb', .int nx', .int un', .int ek, .int en])), (qb, .inl (cB, 64, .inl fb))]) (va_A [(h0, .inr (0, [.ref qb, .long kb, .int nx, .int un, .int ek, .int en])), (qb, .inl (cB, 64, .inl fb))] sz)) 0 0 (va_A [(h0, .inr (0, [.ref qb, .long kb, .int nx, .int un, .int ek, .int en])), (qb, .inl (cB, 64, .inl fb))] sz) := by
  refine Met.ofW (cc := cX0_moveOn) (maxL := 2) (ret := (some .int)) (by decide) rfl ?_
  intro p e s m args below meth c s₁ B hml hv
  obtain ⟨rfl, hsz, hP, hK, hD0⟩ := hv
  have hx := B.exec
  have hb := B.bytes
  have hr := B.returns
  have hts := atoms_spec (ws := wsX0_moveOn) B.pre
  have hown : s.vm.findClass RX0 = some m.cls := findClass_of_methodNamed B.named
  have hlocks := B.notSynchronized
  subst hsz
  have hD := hD0.self (sz := s.heap.size)
  generalize hAe : va_A [(h0, .inr (0, [.ref qb, .long kb, .int nx, .int un, .int ek, .int en])), (qb, .inl (cB, 64, .inl fb))] s.heap.size = A at hD ⊢
  have hA : ∀ q : Nat, s.heap.size ≤ q → A q := fun q h => by rw [← hAe]; exact Or.inr h
  have hS : va_S A s.heap s.heap [] := va_S.rf
  have hP : va_P (dC, dI) vwCl [(h0, .inr (0, [.ref qb, .long kb, .int nx, .int un, .int ek, .int en])), (qb, .inl (cB, 64, .inl fb))] s.heap := hP
  have hl := lv_entry ([.ref h0]) (n := 2) (Nat.le_of_ble_eq_true rfl)
  rw [lg_entry_eq]
  generalize (lg_sl ([.ref h0]) ++ List.replicate (2 - (lg_sl ([.ref h0])).length) Slot.unset).toArray = ls at hl ⊢
  have hl : lv_has ls 2 [(0, .ref h0)] := hl
  have hi_0 : ∀ w ∈ u_ws RX0 TX0 6, w ∈ wsX0_moveOn := by decide +kernel
  have loop : ∀ (n j : Nat) (k9 : Int64) (x9 y9 z9 : Int32), j + n = 64 → (∀ i, i < j → sg_b kb i = true) → uN k9 = uN kb / 2 ^ j → x9 = nx + nI j → y9 = un + nI j → z9 = nI j → ∀ (H : Heap) (locs : List Loc) (ls : Array Slot), va_P (dC, dI) vwCl [(h0, .inr (0, [.ref qb, .long k9, .int x9, .int y9, .int ek, .int en])), (qb, .inl (cB, 64, .inl fb))] H → va_D A [(h0, .inr (0, [.ref qb, .long k9, .int x9, .int y9, .int ek, .int en])), (qb, .inl (cB, 64, .inl fb))] → va_S A s.heap H locs → lv_has ls 2 [(1, .int z9), (0, .ref h0)] → W p l e (headSpec wsX0_moveOn ({ frames := 0, cells := 0, slots := 0, locals := 0 })).room s m ([.ref h0] : List Value).toArray below meth c H locs 0 0 (MQ below (va_Qi (fun (r : Int32) (u : Int64 × Int32 × Int32) => match u with | (kb', nx', un') => ∃ j : Nat, j ≤ 64 ∧ (∀ i, i < j → sg_b kb i = true) ∧ (j < 64 → sg_b kb j = false) ∧ uN kb' = uN kb / 2 ^ j ∧ r = nI j ∧ nx' = nx + nI j ∧ un' = un + nI j) (fun (u : Int64 × Int32 × Int32) (t : State) => match u with | (kb', nx', un') => va_P (dC, dI) vwCl [(h0, .inr (0, [.ref qb, .long kb', .int nx', .int un', .int ek, .int en])), (qb, .inl (cB, 64, .inl fb))] t.heap ∧ va_K (dC, dI) vwCl [(cB, .byte)] t ∧ va_D A [(h0, .inr (0, [.ref qb, .long kb', .int nx', .int un', .int ek, .int en])), (qb, .inl (cB, 64, .inl fb))]) A) ([.ref h0] : List Value).toArray s 0 0 A) (F0 m 2 ls []) := by
    intro n
    induction n with
    | zero =>
      intro j k9 x9 y9 z9 hj h1 h2 h3 h4 h5 H locs ls hP hD hS hl
      refine lv_iload_n hx hb dX0_moveOn_2 rfl (lv_at hl 0 rfl) ?_
      refine lv_bipush (v := 64) hx hb dX0_moveOn_3 (by decide) ?_
      refine lv_icmp_ge (tgt := 55) hx hb dX0_moveOn_5 (by decide) (fun c_5 => ?_) (fun c_5 => ?_)
      · refine lv_iload_n hx hb dX0_moveOn_55 rfl (lv_at hl 0 rfl) ?_
        exact W.iret (v := z9) hx hb hr (fun t ht hW => ⟨⟨z9, (k9, x9, y9), rfl, ⟨j, by omega, h1, fun q => by omega, h2, h5, h3, h4⟩, by rw [ht]; exact hP, va_K.moved hW.alike hK, hD⟩, hS.F ht⟩) hS.2.2 dX0_moveOn_56
      · exact absurd ((ge64 h5 (by omega)).mpr (by omega)) c_5
    | succ n ih =>
      intro j k9 x9 y9 z9 hj h1 h2 h3 h4 h5 H locs ls hP hD hS hl
      refine lv_iload_n hx hb dX0_moveOn_2 rfl (lv_at hl 0 rfl) ?_
      refine lv_bipush (v := 64) hx hb dX0_moveOn_3 (by decide) ?_
      refine lv_icmp_ge (tgt := 55) hx hb dX0_moveOn_5 (by decide) (fun c_5 => ?_) (fun c_5 => ?_)
      · exact absurd ((ge64 h5 (by omega)).mp c_5) (by omega)
      · refine lv_aload_n hx hb dX0_moveOn_8 rfl (lv_at hl 1 rfl) ?_
        refine va_get (D := (dC, dI)) (ci := 0) (v := .long k9) (C := RX0) (T := TX0) (N := 6) hx hb hts hi_0 hown hK hP 0 rfl rfl 1 (by decide) (hts (.fieldLink RX0 13 "SegmentBox" "heldBits" "J") (by decide +kernel)) (fun _ h9 => h9) rfl dX0_moveOn_9 ?_
        refine lv_lconst (v := 1) hx hb dX0_moveOn_12 rfl ?_
        refine lv_land hx hb dX0_moveOn_13 ?_
        refine lv_lconst (v := 0) hx hb dX0_moveOn_14 rfl ?_
        refine W.lcmp hx hb dX0_moveOn_15 ?_
        refine lv_if_eq (tgt := 55) hx hb dX0_moveOn_16 (by decide) (fun c_16 => ?_) (fun c_16 => ?_)
        · refine lv_iload_n hx hb dX0_moveOn_55 rfl (lv_at hl 0 rfl) ?_
          exact W.iret (v := z9) hx hb hr (fun t ht hW => ⟨⟨z9, (k9, x9, y9), rfl, ⟨j, by omega, h1, fun _ => by have q := (sg_b_bit k9).mp (lcmp0 c_16); rw [sg_bj h2] at q; exact q, h2, h5, h3, h4⟩, by rw [ht]; exact hP, va_K.moved hW.alike hK, hD⟩, hS.F ht⟩) hS.2.2 dX0_moveOn_56
        · refine lv_aload_n hx hb dX0_moveOn_19 rfl (lv_at hl 1 rfl) ?_
          refine lv_dup hx hb dX0_moveOn_20 rfl ?_
          refine va_get (D := (dC, dI)) (ci := 0) (v := .long k9) (C := RX0) (T := TX0) (N := 6) hx hb hts hi_0 hown hK hP 0 rfl rfl 1 (by decide) (hts (.fieldLink RX0 13 "SegmentBox" "heldBits" "J") (by decide +kernel)) (fun _ h9 => h9) rfl dX0_moveOn_21 ?_
          refine lv_iconst (v := 1) hx hb dX0_moveOn_24 (by decide) ?_
          refine lv_lushr (v := g_sh k9 1) hx hb dX0_moveOn_25 rfl ?_
          refine lv_topl (fun f_1 ef_1 => ?_)
          refine va_put (D := (dC, dI)) (ci := 0) (v := .long f_1) (ty := .long) (C := RX0) (T := TX0) (N := 6) hx hb hts hi_0 tyX0 tyX0_ok nmX0 hown hK hP hD hS 0 rfl rfl 1 (by decide) (hts (.fieldLink RX0 13 "SegmentBox" "heldBits" "J") (by decide +kernel)) (fun _ h9 => h9) rfl (by decide +kernel) rfl rfl (Nat.le_of_ble_eq_true rfl) dX0_moveOn_26 (fun H locs hP hD hS => ?_)
          have hP : va_P (dC, dI) vwCl [(h0, .inr (0, [.ref qb, .long f_1, .int x9, .int y9, .int ek, .int en])), (qb, .inl (cB, 64, .inl fb))] H := hP
          have hD : va_D A [(h0, .inr (0, [.ref qb, .long f_1, .int x9, .int y9, .int ek, .int en])), (qb, .inl (cB, 64, .inl fb))] := hD
          refine lv_aload_n hx hb dX0_moveOn_29 rfl (lv_at hl 1 rfl) ?_
          refine lv_dup hx hb dX0_moveOn_30 rfl ?_
          refine va_get (D := (dC, dI)) (ci := 0) (v := .int x9) (C := RX0) (T := TX0) (N := 6) hx hb hts hi_0 hown hK hP 0 rfl rfl 2 (by decide) (hts (.fieldLink RX0 17 "SegmentBox" "next" "I") (by decide +kernel)) (fun _ h9 => h9) rfl dX0_moveOn_31 ?_
          refine lv_iconst (v := 1) hx hb dX0_moveOn_34 (by decide) ?_
          refine lv_iadd hx hb dX0_moveOn_35 ?_
          refine lv_topi (fun f_2 ef_2 => ?_)
          refine va_put (D := (dC, dI)) (ci := 0) (v := .int f_2) (ty := .int) (C := RX0) (T := TX0) (N := 6) hx hb hts hi_0 tyX0 tyX0_ok nmX0 hown hK hP hD hS 0 rfl rfl 2 (by decide) (hts (.fieldLink RX0 17 "SegmentBox" "next" "I") (by decide +kernel)) (fun _ h9 => h9) rfl (by decide +kernel) rfl rfl (Nat.le_of_ble_eq_true rfl) dX0_moveOn_36 (fun H locs hP hD hS => ?_)
          have hP : va_P (dC, dI) vwCl [(h0, .inr (0, [.ref qb, .long f_1, .int f_2, .int y9, .int ek, .int en])), (qb, .inl (cB, 64, .inl fb))] H := hP
          have hD : va_D A [(h0, .inr (0, [.ref qb, .long f_1, .int f_2, .int y9, .int ek, .int en])), (qb, .inl (cB, 64, .inl fb))] := hD
          refine lv_aload_n hx hb dX0_moveOn_39 rfl (lv_at hl 1 rfl) ?_
          refine lv_dup hx hb dX0_moveOn_40 rfl ?_
          refine va_get (D := (dC, dI)) (ci := 0) (v := .int y9) (C := RX0) (T := TX0) (N := 6) hx hb hts hi_0 hown hK hP 0 rfl rfl 3 (by decide) (hts (.fieldLink RX0 21 "SegmentBox" "unread" "I") (by decide +kernel)) (fun _ h9 => h9) rfl dX0_moveOn_41 ?_
          refine lv_iconst (v := 1) hx hb dX0_moveOn_44 (by decide) ?_
          refine lv_iadd hx hb dX0_moveOn_45 ?_
          refine lv_topi (fun f_3 ef_3 => ?_)
          refine va_put (D := (dC, dI)) (ci := 0) (v := .int f_3) (ty := .int) (C := RX0) (T := TX0) (N := 6) hx hb hts hi_0 tyX0 tyX0_ok nmX0 hown hK hP hD hS 0 rfl rfl 3 (by decide) (hts (.fieldLink RX0 21 "SegmentBox" "unread" "I") (by decide +kernel)) (fun _ h9 => h9) rfl (by decide +kernel) rfl rfl (Nat.le_of_ble_eq_true rfl) dX0_moveOn_46 (fun H locs hP hD hS => ?_)
          have hP : va_P (dC, dI) vwCl [(h0, .inr (0, [.ref qb, .long f_1, .int f_2, .int f_3, .int ek, .int en])), (qb, .inl (cB, 64, .inl fb))] H := hP
          have hD : va_D A [(h0, .inr (0, [.ref qb, .long f_1, .int f_2, .int f_3, .int ek, .int en])), (qb, .inl (cB, 64, .inl fb))] := hD
          obtain ⟨x_4, ex_4⟩ : ∃ y : Int32, y = z9 + 1 := ⟨_, rfl⟩
          refine lv_iinc (v := x_4) (lv' := [(1, .int x_4), (0, .ref h0)]) hx hb dX0_moveOn_49 hl (k := 0) rfl (by rw [ex_4]; rfl) (by decide) rfl (fun ls hl => ?_)
          refine lv_goto (tgt := 2) hx hb dX0_moveOn_52 (by decide) ?_
          exact ih (j + 1) f_1 f_2 f_3 x_4 (by omega) (fun i hi => by
            by_cases q : i = j
            · rw [q, ← Nat.add_zero j, ← sg_bj h2]; cases w : sg_b k9 0 with
              | true => rfl
              | false => exact absurd (by rw [(sg_b_bit k9).mpr w]; rfl) c_16
            · exact h1 i (by omega)) (by rw [ef_1]; exact sg_div h2) (by rw [ef_2, h3, nI_succ, Int32.add_assoc]) (by rw [ef_3, h4, nI_succ, Int32.add_assoc]) (by rw [ex_4, h5, nI_succ]) H locs ls hP hD hS (lv_sub hl [0, 1] rfl)
  refine lv_iconst (v := 0) hx hb dX0_moveOn_0 (by decide) ?_
  refine lv_istore_n (lv' := [(1, .int 0), (0, .ref h0)]) hx hb dX0_moveOn_1 rfl hl (by decide) rfl (fun ls hl => ?_)
  exact loop 64 0 kb nx un 0 (by omega) (fun i hi => absurd hi (by omega)) (by rw [Nat.pow_zero, Nat.div_one]) (by rw [nI_0, Int32.add_zero]) (by rw [nI_0, Int32.add_zero]) nI_0.symm s.heap [] ls hP hD hS (lv_sub hl [0, 1] rfl)
end
section
set_option maxHeartbeats 4000000 in
set_option maxRecDepth 100000 in
theorem c_startOfBlock (l : Launch) (dC : Nat → ClassId) (dI : Nat → Nat → Nat) (h0 qb : Nat) (cB : ClassId) (kb : Int64) (nx un ek en : Int32) (fb : Nat → Int32) (i : Int32) (i0 : Nat) (sz : Nat) (hi : i = nI i0) (hlt : i0 < sg_c (sg_b (c_st kb)) 64) : Met l yX0_startOfBlock wsX0_startOfBlock ({ frames := 1, cells := 0, slots := 0, locals := 20 }) (va_Pc [.ref h0, .int i] (fun U => U.heap.size = sz ∧ va_P (dC, dI) vwCl [(h0, .inr (0, [.ref qb, .long kb, .int nx, .int un, .int ek, .int en])), (qb, .inl (cB, 64, .inl fb))] U.heap ∧ va_K (dC, dI) vwCl [(cB, .byte)] U ∧ va_D (fun _ => True) [(h0, .inr (0, [.ref qb, .long kb, .int nx, .int un, .int ek, .int en])), (qb, .inl (cB, 64, .inl fb))])) (va_Qi (fun (r : Int32) (u : Unit) => match u with | () => ∃ k : Nat, k < 64 ∧ r = nI k ∧ sg_b (c_st kb) k = true ∧ sg_c (sg_b (c_st kb)) k = i0) (fun (u : Unit) (t : State) => match u with | () => va_P (dC, dI) vwCl [(h0, .inr (0, [.ref qb, .long kb, .int nx, .int un, .int ek, .int en])), (qb, .inl (cB, 64, .inl fb))] t.heap ∧ va_K (dC, dI) vwCl [(cB, .byte)] t ∧ va_D (va_A [(h0, .inr (0, [.ref qb, .long kb, .int nx, .int un, .int ek, .int en])), (qb, .inl (cB, 64, .inl fb))] sz) [(h0, .inr (0, [.ref qb, .long kb, .int nx, .int un, .int ek, .int en])), (qb, .inl (cB, 64, .inl fb))]) (va_A [(h0, .inr (0, [.ref qb, .long kb, .int nx, .int un, .int ek, .int en])), (qb, .inl (cB, 64, .inl fb))] sz)) 0 0 (va_A [(h0, .inr (0, [.ref qb, .long kb, .int nx, .int un, .int ek, .int en])), (qb, .inl (cB, 64, .inl fb))] sz) := by
  refine Met.ofW (cc := cX0_startOfBlock) (maxL := 6) (ret := (some .int)) (by decide) rfl ?_
  intro p e s m args below meth c s₁ B hml hv
  obtain ⟨rfl, hsz, hP, hK, hD0⟩ := hv
  have hx := B.exec
  have hb := B.bytes
  have hr := B.returns
  have hts := atoms_spec (ws := wsX0_startOfBlock) B.pre
  have hown : s.vm.findClass RX0 = some m.cls := findClass_of_methodNamed B.named
  have hlocks := B.notSynchronized
  subst hsz
  have hD := hD0.self (sz := s.heap.size)
  generalize hAe : va_A [(h0, .inr (0, [.ref qb, .long kb, .int nx, .int un, .int ek, .int en])), (qb, .inl (cB, 64, .inl fb))] s.heap.size = A at hD ⊢
  have hA : ∀ q : Nat, s.heap.size ≤ q → A q := fun q h => by rw [← hAe]; exact Or.inr h
  have hS : va_S A s.heap s.heap [] := va_S.rf
  have hP : va_P (dC, dI) vwCl [(h0, .inr (0, [.ref qb, .long kb, .int nx, .int un, .int ek, .int en])), (qb, .inl (cB, 64, .inl fb))] s.heap := hP
  have hl := lv_entry ([.ref h0, .int i]) (n := 6) (Nat.le_of_ble_eq_true rfl)
  rw [lg_entry_eq]
  generalize (lg_sl ([.ref h0, .int i]) ++ List.replicate (6 - (lg_sl ([.ref h0, .int i])).length) Slot.unset).toArray = ls at hl ⊢
  have hl : lv_has ls 6 [(0, .ref h0), (1, .int i)] := hl
  have hi_0 : ∀ w ∈ u_ws RX0 TX0 6, w ∈ wsX0_startOfBlock := by decide +kernel
  have loop : ∀ (n k : Nat) (x9 y9 : Int32), k + n = 64 → x9 = nI k → y9 = nI (sg_c (sg_b (c_st kb)) k) → sg_c (sg_b (c_st kb)) k ≤ i0 → ∀ (H : Heap) (locs : List Loc) (ls : Array Slot), va_P (dC, dI) vwCl [(h0, .inr (0, [.ref qb, .long kb, .int nx, .int un, .int ek, .int en])), (qb, .inl (cB, 64, .inl fb))] H → va_D A [(h0, .inr (0, [.ref qb, .long kb, .int nx, .int un, .int ek, .int en])), (qb, .inl (cB, 64, .inl fb))] → va_S A s.heap H locs → lv_has ls 6 [(5, .int x9), (4, .int y9), (2, .long (c_st kb)), (0, .ref h0), (1, .int i)] → W p l e (headSpec wsX0_startOfBlock ({ frames := 1, cells := 0, slots := 0, locals := 20 })).room s m ([.ref h0, .int i] : List Value).toArray below meth c H locs 0 0 (MQ below (va_Qi (fun (r : Int32) (u : Unit) => match u with | () => ∃ k : Nat, k < 64 ∧ r = nI k ∧ sg_b (c_st kb) k = true ∧ sg_c (sg_b (c_st kb)) k = i0) (fun (u : Unit) (t : State) => match u with | () => va_P (dC, dI) vwCl [(h0, .inr (0, [.ref qb, .long kb, .int nx, .int un, .int ek, .int en])), (qb, .inl (cB, 64, .inl fb))] t.heap ∧ va_K (dC, dI) vwCl [(cB, .byte)] t ∧ va_D A [(h0, .inr (0, [.ref qb, .long kb, .int nx, .int un, .int ek, .int en])), (qb, .inl (cB, 64, .inl fb))]) A) ([.ref h0, .int i] : List Value).toArray s 0 0 A) (F0 m 11 ls []) := by
    intro n
    induction n with
    | zero =>
      intro k x9 y9 hk h1 h2 h3 H locs ls hP hD hS hl
      have hk : k = 64 := by omega
      subst hk
      exact absurd hlt (by omega)
    | succ n ih =>
      intro k x9 y9 hk h1 h2 h3 H locs ls hP hD hS hl
      have hc := sg_c_le (sg_b (c_st kb)) k
      have hc4 := sg_c_le (sg_b (c_st kb)) 64
      refine lv_iload hx hb dX0_startOfBlock_11 (lv_at hl 0 rfl) ?_
      refine lv_bipush (v := 64) hx hb dX0_startOfBlock_13 (by decide) ?_
      refine lv_icmp_ge (tgt := 47) hx hb dX0_startOfBlock_15 (by decide) (fun c_15 => ?_) (fun c_15 => ?_)
      · exact absurd ((ge64 h1 (by omega)).mp c_15) (by omega)
      · refine lv_lload_n hx hb dX0_startOfBlock_18 rfl (lv_at hl 2 rfl) ?_
        refine lv_iload hx hb dX0_startOfBlock_19 (lv_at hl 0 rfl) ?_
        refine lv_lushr (v := g_sh (c_st kb) x9) hx hb dX0_startOfBlock_21 rfl ?_
        refine lv_lconst (v := 1) hx hb dX0_startOfBlock_22 rfl ?_
        refine lv_land hx hb dX0_startOfBlock_23 ?_
        refine lv_lconst (v := 0) hx hb dX0_startOfBlock_24 rfl ?_
        refine W.lcmp hx hb dX0_startOfBlock_25 ?_
        refine lv_if_eq (tgt := 41) hx hb dX0_startOfBlock_26 (by decide) (fun c_26 => ?_) (fun c_26 => ?_)
        · obtain ⟨x_1, ex_1⟩ : ∃ y : Int32, y = x9 + 1 := ⟨_, rfl⟩
          refine lv_iinc (v := x_1) (lv' := [(5, .int x_1), (4, .int y9), (2, .long (c_st kb)), (0, .ref h0), (1, .int i)]) hx hb dX0_startOfBlock_41 hl (k := 0) rfl (by rw [ex_1]; rfl) (by decide) rfl (fun ls hl => ?_)
          refine lv_goto (tgt := 11) hx hb dX0_startOfBlock_44 (by decide) ?_
          have hz : sg_b (c_st kb) k = false := by
            have q := sg_tst (x := c_st kb) (k := k) (by omega)
            rw [← h1] at q
            cases w : sg_b (c_st kb) k with
            | false => rfl
            | true => exact absurd (lcmp0 c_26) (q.mpr w)
          have hs : sg_c (sg_b (c_st kb)) (k + 1) = sg_c (sg_b (c_st kb)) k := by simp [sg_c, hz]
          exact ih (k + 1) x_1 y9 (by omega) (by rw [ex_1, h1, nI_succ]) (by rw [hs]; exact h2) (by omega) H locs ls hP hD hS (lv_sub hl [0, 1, 2, 3, 4] rfl)
        · refine lv_iload hx hb dX0_startOfBlock_29 (lv_at hl 1 rfl) ?_
          refine lv_iload_n hx hb dX0_startOfBlock_31 rfl (lv_at hl 4 rfl) ?_
          refine lv_icmp_ne (tgt := 38) hx hb dX0_startOfBlock_32 (by decide) (fun c_32 => ?_) (fun c_32 => ?_)
          · obtain ⟨x_2, ex_2⟩ : ∃ y : Int32, y = y9 + 1 := ⟨_, rfl⟩
            refine lv_iinc (v := x_2) (lv' := [(4, .int x_2), (5, .int x9), (2, .long (c_st kb)), (0, .ref h0), (1, .int i)]) hx hb dX0_startOfBlock_38 hl (k := 1) rfl (by rw [ex_2]; rfl) (by decide) rfl (fun ls hl => ?_)
            obtain ⟨x_3, ex_3⟩ : ∃ y : Int32, y = x9 + 1 := ⟨_, rfl⟩
            refine lv_iinc (v := x_3) (lv' := [(5, .int x_3), (4, .int x_2), (2, .long (c_st kb)), (0, .ref h0), (1, .int i)]) hx hb dX0_startOfBlock_41 hl (k := 1) rfl (by rw [ex_3]; rfl) (by decide) rfl (fun ls hl => ?_)
            refine lv_goto (tgt := 11) hx hb dX0_startOfBlock_44 (by decide) ?_
            have hz : sg_b (c_st kb) k = true := by
              have q := sg_tst (x := c_st kb) (k := k) (by omega)
              rw [← h1] at q
              exact q.mp (lcmp0n c_26)
            have hs : sg_c (sg_b (c_st kb)) (k + 1) = sg_c (sg_b (c_st kb)) k + 1 := by simp [sg_c, hz]
            have hn : sg_c (sg_b (c_st kb)) k ≠ i0 := fun q => c_32 (by rw [h2, hi, q])
            exact ih (k + 1) x_3 x_2 (by omega) (by rw [ex_3, h1, nI_succ]) (by rw [ex_2, h2, hs, nI_succ]) (by omega) H locs ls hP hD hS (lv_sub hl [0, 1, 2, 3, 4] rfl)
          · refine lv_iload hx hb dX0_startOfBlock_35 (lv_at hl 0 rfl) ?_
            exact W.iret (v := x9) hx hb hr (fun t ht hW => ⟨⟨x9, (), rfl, ⟨k, by omega, h1, by have q := sg_tst (x := c_st kb) (k := k) (by omega); rw [← h1] at q; exact q.mp (lcmp0n c_26), by rw [h2, hi] at c_32; exact (nI_eq (by omega) (by omega)).mp c_32⟩, by rw [ht]; exact hP, va_K.moved hW.alike hK, hD⟩, hS.F ht⟩) hS.2.2 dX0_startOfBlock_37
  refine lv_aload_n hx hb dX0_startOfBlock_0 rfl (lv_at hl 0 rfl) ?_
  have hPc := hP.sub (ws' := [(h0, .inr (0, [.ref qb, .long kb, .int nx, .int un, .int ek, .int en])), (qb, .inl (cB, 64, .inl fb))]) [0, 1] rfl
  have hDc := hD.sub (ws' := [(h0, .inr (0, [.ref qb, .long kb, .int nx, .int un, .int ek, .int en])), (qb, .inl (cB, 64, .inl fb))]) [0, 1] (by decide) rfl
  have hKc := hK.sub (tys' := [(cB, .byte)]) [0] rfl
  have hFc := va_free (wc := [(h0, .inr (0, [.ref qb, .long kb, .int nx, .int un, .int ek, .int en])), (qb, .inl (cB, 64, .inl fb))]) hD hS hA [0, 1] rfl
  refine va_calll (va_runV (As := []) (rest := []) ⟨hx, hb, hml, hown, hts⟩ (c_blockStarts l dC dI h0 qb cB kb nx un ek en fb s.heap.size ) (cwV 0 hts gX0_startOfBlock_X0_blockStarts rfl rfl rfl (by decide +kernel) ⟨Nat.le_of_ble_eq_true rfl, Nat.le_of_ble_eq_true rfl⟩) ⟨fun a U g mk q => by obtain ⟨q0, q1, qP, qK, qD⟩ := q; exact ⟨q0, q1, qP, va_K.moved (u := U) (U := U.calling g mk a) (Vm.Alike.refl U.vm) qK, qD⟩, va_recv hKc hPc (ci := 0) (q0 := 0) rfl rfl, fun U hU hW => ⟨rfl, by rw [hU], by rw [hU]; exact hPc, va_K.moved hW.alike hKc, hDc.weaken (fun _ _ _ _ => trivial)⟩⟩ rfl rfl hl.1 rfl (lv_room (Nat.le_of_ble_eq_true rfl)) dX0_startOfBlock_1 ⟨(Nat.zero_le _), (Nat.zero_le _)⟩) hS (fun q _ h => hFc q h) hFc (fun r_4 u t H1 locs ht hvm hw_5 hB hz1 hk1 hS => ?_)
  obtain ⟨hP1, hK1, hD1⟩ := hB
  rw [ht] at hP1
  have hK1 := va_K.moved hvm.symm hK1
  try dsimp only at hw_5
  obtain ⟨hP, hD⟩ := va_join (wr := []) (w1 := [(h0, .inr (0, [.ref qb, .long kb, .int nx, .int un, .int ek, .int en])), (qb, .inl (cB, 64, .inl fb))]) hP hD [0, 1] [] rfl rfl (by decide) (by decide) hk1 hFc hP1 hD1
  generalize H1 = H at hP hS ⊢
  have hP : va_P (dC, dI) vwCl [(h0, .inr (0, [.ref qb, .long kb, .int nx, .int un, .int ek, .int en])), (qb, .inl (cB, 64, .inl fb))] H := hP
  have hD : va_D A [(h0, .inr (0, [.ref qb, .long kb, .int nx, .int un, .int ek, .int en])), (qb, .inl (cB, 64, .inl fb))] := hD
  subst hw_5
  refine lv_lstore_n (lv' := [(2, .long (c_st kb)), (0, .ref h0), (1, .int i)]) hx hb dX0_startOfBlock_4 rfl hl (by decide) rfl (fun ls hl => ?_)
  refine lv_iconst (v := 0) hx hb dX0_startOfBlock_5 (by decide) ?_
  refine lv_istore (lv' := [(4, .int 0), (2, .long (c_st kb)), (0, .ref h0), (1, .int i)]) hx hb dX0_startOfBlock_6 hl (by decide) rfl (fun ls hl => ?_)
  refine lv_iconst (v := 0) hx hb dX0_startOfBlock_8 (by decide) ?_
  refine lv_istore (lv' := [(5, .int 0), (4, .int 0), (2, .long (c_st kb)), (0, .ref h0), (1, .int i)]) hx hb dX0_startOfBlock_9 hl (by decide) rfl (fun ls hl => ?_)
  exact loop 64 0 0 0 (by omega) nI_0.symm nI_0.symm (Nat.zero_le _) H _ ls hP hD hS (lv_sub hl [0, 1, 2, 3, 4] rfl)
end
section
set_option maxHeartbeats 4000000 in
set_option maxRecDepth 100000 in
theorem c_lengthOfBlock (l : Launch) (dC : Nat → ClassId) (dI : Nat → Nat → Nat) (h0 qb : Nat) (cB : ClassId) (kb : Int64) (nx un ek en : Int32) (fb : Nat → Int32) (a : Int32) (k0 : Nat) (sz : Nat) (ha : a = nI k0) (hk0 : k0 < 64) : Met l yX0_lengthOfBlock wsX0_lengthOfBlock ({ frames := 1, cells := 0, slots := 0, locals := 21 }) (va_Pc [.ref h0, .int a] (fun U => U.heap.size = sz ∧ va_P (dC, dI) vwCl [(h0, .inr (0, [.ref qb, .long kb, .int nx, .int un, .int ek, .int en])), (qb, .inl (cB, 64, .inl fb))] U.heap ∧ va_K (dC, dI) vwCl [(cB, .byte)] U ∧ va_D (fun _ => True) [(h0, .inr (0, [.ref qb, .long kb, .int nx, .int un, .int ek, .int en])), (qb, .inl (cB, 64, .inl fb))])) (va_Qi (fun (r : Int32) (u : Unit) => match u with | () => ∃ j : Nat, r = nI j ∧ k0 + j ≤ 64 ∧ (∀ i, i < j → sg_b kb (k0 + i) = true) ∧ (k0 + j < 64 → sg_b kb (k0 + j) = false)) (fun (u : Unit) (t : State) => match u with | () => va_P (dC, dI) vwCl [(h0, .inr (0, [.ref qb, .long kb, .int nx, .int un, .int ek, .int en])), (qb, .inl (cB, 64, .inl fb))] t.heap ∧ va_K (dC, dI) vwCl [(cB, .byte)] t ∧ va_D (va_A [(h0, .inr (0, [.ref qb, .long kb, .int nx, .int un, .int ek, .int en])), (qb, .inl (cB, 64, .inl fb))] sz) [(h0, .inr (0, [.ref qb, .long kb, .int nx, .int un, .int ek, .int en])), (qb, .inl (cB, 64, .inl fb))]) (va_A [(h0, .inr (0, [.ref qb, .long kb, .int nx, .int un, .int ek, .int en])), (qb, .inl (cB, 64, .inl fb))] sz)) 0 0 (va_A [(h0, .inr (0, [.ref qb, .long kb, .int nx, .int un, .int ek, .int en])), (qb, .inl (cB, 64, .inl fb))] sz) := by
  refine Met.ofW (cc := cX0_lengthOfBlock) (maxL := 3) (ret := (some .int)) (by decide) rfl ?_
  intro p e s m args below meth c s₁ B hml hv
  obtain ⟨rfl, hsz, hP, hK, hD0⟩ := hv
  have hx := B.exec
  have hb := B.bytes
  have hr := B.returns
  have hts := atoms_spec (ws := wsX0_lengthOfBlock) B.pre
  have hown : s.vm.findClass RX0 = some m.cls := findClass_of_methodNamed B.named
  have hlocks := B.notSynchronized
  subst hsz
  have hD := hD0.self (sz := s.heap.size)
  generalize hAe : va_A [(h0, .inr (0, [.ref qb, .long kb, .int nx, .int un, .int ek, .int en])), (qb, .inl (cB, 64, .inl fb))] s.heap.size = A at hD ⊢
  have hA : ∀ q : Nat, s.heap.size ≤ q → A q := fun q h => by rw [← hAe]; exact Or.inr h
  have hS : va_S A s.heap s.heap [] := va_S.rf
  have hP : va_P (dC, dI) vwCl [(h0, .inr (0, [.ref qb, .long kb, .int nx, .int un, .int ek, .int en])), (qb, .inl (cB, 64, .inl fb))] s.heap := hP
  have hl := lv_entry ([.ref h0, .int a]) (n := 3) (Nat.le_of_ble_eq_true rfl)
  rw [lg_entry_eq]
  generalize (lg_sl ([.ref h0, .int a]) ++ List.replicate (3 - (lg_sl ([.ref h0, .int a])).length) Slot.unset).toArray = ls at hl ⊢
  have hl : lv_has ls 3 [(0, .ref h0), (1, .int a)] := hl
  have hi_0 : ∀ w ∈ u_ws RX0 TX0 6, w ∈ wsX0_lengthOfBlock := by decide +kernel
  have loop : ∀ (n j : Nat) (z9 : Int32), k0 + j + n = 64 → z9 = nI j → (∀ i, i < j → sg_b kb (k0 + i) = true) → ∀ (H : Heap) (locs : List Loc) (ls : Array Slot), va_P (dC, dI) vwCl [(h0, .inr (0, [.ref qb, .long kb, .int nx, .int un, .int ek, .int en])), (qb, .inl (cB, 64, .inl fb))] H → va_D A [(h0, .inr (0, [.ref qb, .long kb, .int nx, .int un, .int ek, .int en])), (qb, .inl (cB, 64, .inl fb))] → va_S A s.heap H locs → lv_has ls 3 [(2, .int z9), (0, .ref h0), (1, .int a)] → W p l e (headSpec wsX0_lengthOfBlock ({ frames := 1, cells := 0, slots := 0, locals := 21 })).room s m ([.ref h0, .int a] : List Value).toArray below meth c H locs 0 0 (MQ below (va_Qi (fun (r : Int32) (u : Unit) => match u with | () => ∃ j : Nat, r = nI j ∧ k0 + j ≤ 64 ∧ (∀ i, i < j → sg_b kb (k0 + i) = true) ∧ (k0 + j < 64 → sg_b kb (k0 + j) = false)) (fun (u : Unit) (t : State) => match u with | () => va_P (dC, dI) vwCl [(h0, .inr (0, [.ref qb, .long kb, .int nx, .int un, .int ek, .int en])), (qb, .inl (cB, 64, .inl fb))] t.heap ∧ va_K (dC, dI) vwCl [(cB, .byte)] t ∧ va_D A [(h0, .inr (0, [.ref qb, .long kb, .int nx, .int un, .int ek, .int en])), (qb, .inl (cB, 64, .inl fb))]) A) ([.ref h0, .int a] : List Value).toArray s 0 0 A) (F0 m 2 ls []) := by
    intro n
    induction n with
    | zero =>
      intro j z9 hj h1 h2 H locs ls hP hD hS hl
      have eaz : a + z9 = nI (k0 + j) := by rw [ha, h1, nI_add]
      refine lv_iload_n hx hb dX0_lengthOfBlock_2 rfl (lv_at hl 0 rfl) ?_
      refine lv_bipush (v := 64) hx hb dX0_lengthOfBlock_3 (by decide) ?_
      refine lv_icmp_ge (tgt := 24) hx hb dX0_lengthOfBlock_5 (by decide) (fun c_5 => ?_) (fun c_5 => ?_)
      · refine lv_iload_n hx hb dX0_lengthOfBlock_24 rfl (lv_at hl 0 rfl) ?_
        exact W.iret (v := z9) hx hb hr (fun t ht hW => ⟨⟨z9, (), rfl, ⟨j, h1, by omega, h2, fun q => by omega⟩, by rw [ht]; exact hP, va_K.moved hW.alike hK, hD⟩, hS.F ht⟩) hS.2.2 dX0_lengthOfBlock_25
      · refine lv_aload_n hx hb dX0_lengthOfBlock_8 rfl (lv_at hl 1 rfl) ?_
        refine lv_iload_n hx hb dX0_lengthOfBlock_9 rfl (lv_at hl 2 rfl) ?_
        refine lv_iload_n hx hb dX0_lengthOfBlock_10 rfl (lv_at hl 0 rfl) ?_
        refine lv_iadd hx hb dX0_lengthOfBlock_11 ?_
        have hPc := hP.sub (ws' := [(h0, .inr (0, [.ref qb, .long kb, .int nx, .int un, .int ek, .int en])), (qb, .inl (cB, 64, .inl fb))]) [0, 1] rfl
        have hDc := hD.sub (ws' := [(h0, .inr (0, [.ref qb, .long kb, .int nx, .int un, .int ek, .int en])), (qb, .inl (cB, 64, .inl fb))]) [0, 1] (by decide) rfl
        have hKc := hK.sub (tys' := [(cB, .byte)]) [0] rfl
        have hFc := va_free (wc := [(h0, .inr (0, [.ref qb, .long kb, .int nx, .int un, .int ek, .int en])), (qb, .inl (cB, 64, .inl fb))]) hD hS hA [0, 1] rfl
        refine va_calli (va_runV (As := [.int (a + z9)]) (rest := []) ⟨hx, hb, hml, hown, hts⟩ (c_isHeldAhead l dC dI h0 qb cB kb nx un ek en fb (a + z9) H.size ) (cwV 1 hts gX0_lengthOfBlock_X0_isHeldAhead rfl rfl rfl (by decide +kernel) ⟨Nat.le_of_ble_eq_true rfl, Nat.le_of_ble_eq_true rfl⟩) ⟨fun a U g mk q => by obtain ⟨q0, q1, qP, qK, qD⟩ := q; exact ⟨q0, q1, qP, va_K.moved (u := U) (U := U.calling g mk a) (Vm.Alike.refl U.vm) qK, qD⟩, va_recv hKc hPc (ci := 0) (q0 := 0) rfl rfl, fun U hU hW => ⟨rfl, by rw [hU], by rw [hU]; exact hPc, va_K.moved hW.alike hKc, hDc.weaken (fun _ _ _ _ => trivial)⟩⟩ rfl rfl hl.1 rfl (lv_room (Nat.le_of_ble_eq_true rfl)) dX0_lengthOfBlock_12 ⟨(Nat.zero_le _), (Nat.zero_le _)⟩) hS (fun q _ h => hFc q h) hFc (fun r_1 u t H1 locs ht hvm hw_2 hB hz1 hk1 hS => ?_)
        obtain ⟨hP1, hK1, hD1⟩ := hB
        rw [ht] at hP1
        have hK1 := va_K.moved hvm.symm hK1
        try dsimp only at hw_2
        obtain ⟨hP, hD⟩ := va_join (wr := []) (w1 := [(h0, .inr (0, [.ref qb, .long kb, .int nx, .int un, .int ek, .int en])), (qb, .inl (cB, 64, .inl fb))]) hP hD [0, 1] [] rfl rfl (by decide) (by decide) hk1 hFc hP1 hD1
        generalize H1 = H at hP hS ⊢
        have hP : va_P (dC, dI) vwCl [(h0, .inr (0, [.ref qb, .long kb, .int nx, .int un, .int ek, .int en])), (qb, .inl (cB, 64, .inl fb))] H := hP
        have hD : va_D A [(h0, .inr (0, [.ref qb, .long kb, .int nx, .int un, .int ek, .int en])), (qb, .inl (cB, 64, .inl fb))] := hD
        subst hw_2
        refine lv_if_eq (tgt := 24) hx hb dX0_lengthOfBlock_15 (by decide) (fun c_15 => ?_) (fun c_15 => ?_)
        · refine lv_iload_n hx hb dX0_lengthOfBlock_24 rfl (lv_at hl 0 rfl) ?_
          exact W.iret (v := z9) hx hb hr (fun t ht hW => ⟨⟨z9, (), rfl, ⟨j, h1, by omega, h2, fun q => by omega⟩, by rw [ht]; exact hP, va_K.moved hW.alike hK, hD⟩, hS.F ht⟩) hS.2.2 dX0_lengthOfBlock_25
        · exact absurd (bI_1.mp c_15).2.1 (by rw [eaz, show k0 + j = 64 by omega]; decide)
    | succ n ih =>
      intro j z9 hj h1 h2 H locs ls hP hD hS hl
      have eaz : a + z9 = nI (k0 + j) := by rw [ha, h1, nI_add]
      refine lv_iload_n hx hb dX0_lengthOfBlock_2 rfl (lv_at hl 0 rfl) ?_
      refine lv_bipush (v := 64) hx hb dX0_lengthOfBlock_3 (by decide) ?_
      refine lv_icmp_ge (tgt := 24) hx hb dX0_lengthOfBlock_5 (by decide) (fun c_5 => ?_) (fun c_5 => ?_)
      · exact absurd ((ge64 h1 (by omega)).mp c_5) (by omega)
      · refine lv_aload_n hx hb dX0_lengthOfBlock_8 rfl (lv_at hl 1 rfl) ?_
        refine lv_iload_n hx hb dX0_lengthOfBlock_9 rfl (lv_at hl 2 rfl) ?_
        refine lv_iload_n hx hb dX0_lengthOfBlock_10 rfl (lv_at hl 0 rfl) ?_
        refine lv_iadd hx hb dX0_lengthOfBlock_11 ?_
        have hPc := hP.sub (ws' := [(h0, .inr (0, [.ref qb, .long kb, .int nx, .int un, .int ek, .int en])), (qb, .inl (cB, 64, .inl fb))]) [0, 1] rfl
        have hDc := hD.sub (ws' := [(h0, .inr (0, [.ref qb, .long kb, .int nx, .int un, .int ek, .int en])), (qb, .inl (cB, 64, .inl fb))]) [0, 1] (by decide) rfl
        have hKc := hK.sub (tys' := [(cB, .byte)]) [0] rfl
        have hFc := va_free (wc := [(h0, .inr (0, [.ref qb, .long kb, .int nx, .int un, .int ek, .int en])), (qb, .inl (cB, 64, .inl fb))]) hD hS hA [0, 1] rfl
        refine va_calli (va_runV (As := [.int (a + z9)]) (rest := []) ⟨hx, hb, hml, hown, hts⟩ (c_isHeldAhead l dC dI h0 qb cB kb nx un ek en fb (a + z9) H.size ) (cwV 1 hts gX0_lengthOfBlock_X0_isHeldAhead rfl rfl rfl (by decide +kernel) ⟨Nat.le_of_ble_eq_true rfl, Nat.le_of_ble_eq_true rfl⟩) ⟨fun a U g mk q => by obtain ⟨q0, q1, qP, qK, qD⟩ := q; exact ⟨q0, q1, qP, va_K.moved (u := U) (U := U.calling g mk a) (Vm.Alike.refl U.vm) qK, qD⟩, va_recv hKc hPc (ci := 0) (q0 := 0) rfl rfl, fun U hU hW => ⟨rfl, by rw [hU], by rw [hU]; exact hPc, va_K.moved hW.alike hKc, hDc.weaken (fun _ _ _ _ => trivial)⟩⟩ rfl rfl hl.1 rfl (lv_room (Nat.le_of_ble_eq_true rfl)) dX0_lengthOfBlock_12 ⟨(Nat.zero_le _), (Nat.zero_le _)⟩) hS (fun q _ h => hFc q h) hFc (fun r_3 u t H1 locs ht hvm hw_4 hB hz1 hk1 hS => ?_)
        obtain ⟨hP1, hK1, hD1⟩ := hB
        rw [ht] at hP1
        have hK1 := va_K.moved hvm.symm hK1
        try dsimp only at hw_4
        obtain ⟨hP, hD⟩ := va_join (wr := []) (w1 := [(h0, .inr (0, [.ref qb, .long kb, .int nx, .int un, .int ek, .int en])), (qb, .inl (cB, 64, .inl fb))]) hP hD [0, 1] [] rfl rfl (by decide) (by decide) hk1 hFc hP1 hD1
        generalize H1 = H at hP hS ⊢
        have hP : va_P (dC, dI) vwCl [(h0, .inr (0, [.ref qb, .long kb, .int nx, .int un, .int ek, .int en])), (qb, .inl (cB, 64, .inl fb))] H := hP
        have hD : va_D A [(h0, .inr (0, [.ref qb, .long kb, .int nx, .int un, .int ek, .int en])), (qb, .inl (cB, 64, .inl fb))] := hD
        subst hw_4
        refine lv_if_eq (tgt := 24) hx hb dX0_lengthOfBlock_15 (by decide) (fun c_15 => ?_) (fun c_15 => ?_)
        · refine lv_iload_n hx hb dX0_lengthOfBlock_24 rfl (lv_at hl 0 rfl) ?_
          exact W.iret (v := z9) hx hb hr (fun t ht hW => ⟨⟨z9, (), rfl, ⟨j, h1, by omega, h2, fun q => by
            have w := bI_0.mp c_15
            rw [eaz, sg_held (by omega)] at w
            simpa using w⟩, by rw [ht]; exact hP, va_K.moved hW.alike hK, hD⟩, hS.F ht⟩) hS.2.2 dX0_lengthOfBlock_25
        · obtain ⟨x_5, ex_5⟩ : ∃ y : Int32, y = z9 + 1 := ⟨_, rfl⟩
          refine lv_iinc (v := x_5) (lv' := [(2, .int x_5), (0, .ref h0), (1, .int a)]) hx hb dX0_lengthOfBlock_18 hl (k := 0) rfl (by rw [ex_5]; rfl) (by decide) rfl (fun ls hl => ?_)
          refine lv_goto (tgt := 2) hx hb dX0_lengthOfBlock_21 (by decide) ?_
          have w := bI_1.mp c_15
          rw [eaz, sg_held (by omega)] at w
          exact ih (j + 1) x_5 (by omega) (by rw [ex_5, h1, nI_succ]) (fun i hi => by
            by_cases q : i = j
            · rw [q]; exact w
            · exact h2 i (by omega)) H locs ls hP hD hS (lv_sub hl [0, 1, 2] rfl)
  refine lv_iconst (v := 0) hx hb dX0_lengthOfBlock_0 (by decide) ?_
  refine lv_istore_n (lv' := [(2, .int 0), (0, .ref h0), (1, .int a)]) hx hb dX0_lengthOfBlock_1 rfl hl (by decide) rfl (fun ls hl => ?_)
  exact loop (64 - k0) 0 0 (by omega) nI_0.symm (fun i hi => absurd hi (by omega)) s.heap [] ls hP hD hS (lv_sub hl [0, 1, 2] rfl)
end
section
def thr (A : Nat → Prop) (U : State) (H : Heap) : Prop := vx_Zq Bundle.tN "UNASSIGNED_STACK" Bundle.steD A U H ∧ vx_Zq Bundle.tN "SUPPRESSED_SENTINEL" Bundle.listD A U H ∧ va_Nw (.castable "java/lang/IllegalArgumentException" "java/lang/IllegalArgumentException") U ∧ va_Nw (.castable "java/lang/IndexOutOfBoundsException" "java/lang/IndexOutOfBoundsException") U ∧ va_Nw (.declares ⟨"java/lang/RuntimeException", "<init>", "()V"⟩) U ∧ va_Nw (.declares ⟨"java/lang/Exception", "<init>", "()V"⟩) U ∧ va_Nw (.declares ⟨"java/lang/Throwable", "<init>", "()V"⟩) U
theorem thr_warm {A : Nat → Prop} {s U : State} {H : Heap} (hW : s.WarmedH U.vm) (h : thr A s H) : thr A U H := ⟨h.1.moved hW.alike, h.2.1.moved hW.alike, va_Nw.warmC hW h.2.2.1, va_Nw.warmC hW h.2.2.2.1, va_Nw.warmD hW h.2.2.2.2.1, va_Nw.warmD hW h.2.2.2.2.2.1, va_Nw.warmD hW h.2.2.2.2.2.2⟩
theorem thr_kept {A : Nat → Prop} {U : State} {H H1 : Heap} (h : thr A U H) (hq : ∀ a : Nat, a < H.size → ¬ A a → H1[a]? = H[a]?) : thr A U H1 := ⟨h.1.kept hq, h.2.1.kept hq, h.2.2⟩
theorem thr_narrow {A B : Nat → Prop} {U : State} {H : Heap} (h : thr A U H) (hAB : ∀ q, B q → A q) : thr B U H := ⟨h.1.narrow hAB, h.2.1.narrow hAB, h.2.2⟩
theorem thr_blind {A : Nat → Prop} {U : State} {g : JFrame} {mk : MethodId} {a : Array Value} (h : thr A U U.heap) : thr A (U.calling g mk a) (U.calling g mk a).heap := thr_warm (s := U) (U := U.calling g mk a) (State.WarmedH.refl U) h
theorem thr_call {A B : Nat → Prop} {s U : State} {H : Heap} {locs : List Loc} (h : thr A s s.heap) (hS : va_S A s.heap H locs) (hAB : ∀ q, B q → A q) (hU : U.heap = H) (hW : s.WarmedH U.vm) : thr B U U.heap := by
  rw [hU]
  exact thr_narrow (thr_warm hW (thr_kept h hS.2.1)) hAB
theorem bI_nar {c : Prop} [Decidable c] : narrow .boolean (.int (bI c)) = .int (bI c) := by
  unfold bI
  split <;> rfl
abbrev c_eok (nx un ek : Int32) (kb : Int64) (n : Int32) : Prop := ek = 0 ∧ ¬ (n - nx) < 0 ∧ ¬ (64 - un) < (n - nx) ∧ ¬ c_from kb (n - nx)
end
section
set_option maxHeartbeats 4000000 in
set_option maxRecDepth 100000 in
theorem c_end (l : Launch) (dC : Nat → ClassId) (dI : Nat → Nat → Nat) (h0 qb : Nat) (cB : ClassId) (kb : Int64) (nx un ek en : Int32) (fb : Nat → Int32) (n : Int32) (sz : Nat)  : Met l yX0_end wsX0_end ({ frames := 1, cells := 0, slots := 0, locals := 21 }) (va_Pc [.ref h0, .int n] (fun U => U.heap.size = sz ∧ va_P (dC, dI) vwCl [(h0, .inr (0, [.ref qb, .long kb, .int nx, .int un, .int ek, .int en])), (qb, .inl (cB, 64, .inl fb))] U.heap ∧ va_K (dC, dI) vwCl [(cB, .byte)] U ∧ va_D (fun _ => True) [(h0, .inr (0, [.ref qb, .long kb, .int nx, .int un, .int ek, .int en])), (qb, .inl (cB, 64, .inl fb))])) (va_Qi (fun (r : Int32) (u : Int32 × Int32) => match u with | (ek', en') => (r = 1 ∧ ek' = 1 ∧ en' = n ∧ c_eok nx un ek kb n) ∨ (r = 0 ∧ ek' = ek ∧ en' = en ∧ ¬ c_eok nx un ek kb n)) (fun (u : Int32 × Int32) (t : State) => match u with | (ek', en') => va_P (dC, dI) vwCl [(h0, .inr (0, [.ref qb, .long kb, .int nx, .int un, .int ek', .int en'])), (qb, .inl (cB, 64, .inl fb))] t.heap ∧ va_K (dC, dI) vwCl [(cB, .byte)] t ∧ va_D (va_A [(h0, .inr (0, [.ref qb, .long kb, .int nx, .int un, .int ek, .int en])), (qb, .inl (cB, 64, .inl fb))] sz) [(h0, .inr (0, [.ref qb, .long kb, .int nx, .int un, .int ek', .int en'])), (qb, .inl (cB, 64, .inl fb))]) (va_A [(h0, .inr (0, [.ref qb, .long kb, .int nx, .int un, .int ek, .int en])), (qb, .inl (cB, 64, .inl fb))] sz)) 0 0 (va_A [(h0, .inr (0, [.ref qb, .long kb, .int nx, .int un, .int ek, .int en])), (qb, .inl (cB, 64, .inl fb))] sz) := by
  refine Met.ofW (cc := cX0_end) (maxL := 3) (ret := (some .boolean)) (by decide) rfl ?_
  intro p e s m args below meth c s₁ B hml hv
  obtain ⟨rfl, hsz, hP, hK, hD0⟩ := hv
  have hx := B.exec
  have hb := B.bytes
  have hr := B.returns
  have hts := atoms_spec (ws := wsX0_end) B.pre
  have hown : s.vm.findClass RX0 = some m.cls := findClass_of_methodNamed B.named
  have hlocks := B.notSynchronized
  subst hsz
  have hD := hD0.self (sz := s.heap.size)
  generalize hAe : va_A [(h0, .inr (0, [.ref qb, .long kb, .int nx, .int un, .int ek, .int en])), (qb, .inl (cB, 64, .inl fb))] s.heap.size = A at hD ⊢
  have hA : ∀ q : Nat, s.heap.size ≤ q → A q := fun q h => by rw [← hAe]; exact Or.inr h
  have hS : va_S A s.heap s.heap [] := va_S.rf
  have hP : va_P (dC, dI) vwCl [(h0, .inr (0, [.ref qb, .long kb, .int nx, .int un, .int ek, .int en])), (qb, .inl (cB, 64, .inl fb))] s.heap := hP
  have hl := lv_entry ([.ref h0, .int n]) (n := 3) (Nat.le_of_ble_eq_true rfl)
  rw [lg_entry_eq]
  generalize (lg_sl ([.ref h0, .int n]) ++ List.replicate (3 - (lg_sl ([.ref h0, .int n])).length) Slot.unset).toArray = ls at hl ⊢
  have hl : lv_has ls 3 [(0, .ref h0), (1, .int n)] := hl
  have hi_0 : ∀ w ∈ u_ws RX0 TX0 6, w ∈ wsX0_end := by decide +kernel
  refine lv_iload_n hx hb dX0_end_0 rfl (lv_at hl 1 rfl) ?_
  refine lv_aload_n hx hb dX0_end_1 rfl (lv_at hl 0 rfl) ?_
  refine va_get (D := (dC, dI)) (ci := 0) (v := .int nx) (C := RX0) (T := TX0) (N := 6) hx hb hts hi_0 hown hK hP 0 rfl rfl 2 (by decide) (hts (.fieldLink RX0 17 "SegmentBox" "next" "I") (by decide +kernel)) (fun _ h9 => h9) rfl dX0_end_2 ?_
  refine lv_isub hx hb dX0_end_5 ?_
  refine lv_istore_n (lv' := [(2, .int (n - nx)), (0, .ref h0), (1, .int n)]) hx hb dX0_end_6 rfl hl (by decide) rfl (fun ls hl => ?_)
  refine lv_aload_n hx hb dX0_end_7 rfl (lv_at hl 1 rfl) ?_
  refine va_get (D := (dC, dI)) (ci := 0) (v := .int ek) (C := RX0) (T := TX0) (N := 6) hx hb hts hi_0 hown hK hP 0 rfl rfl 4 (by decide) (hts (.fieldLink RX0 24 "SegmentBox" "endKnown" "Z") (by decide +kernel)) (fun _ h9 => h9) rfl dX0_end_8 ?_
  refine lv_if_ne (tgt := 34) hx hb dX0_end_11 (by decide) (fun c_11 => ?_) (fun c_11 => ?_)
  · refine lv_iconst (v := 0) hx hb dX0_end_34 (by decide) ?_
    exact W.zret (v := 0) hx hb hr rfl (fun t ht hW => ⟨⟨0, (ek, en), rfl, Or.inr ⟨rfl, rfl, rfl, fun z => c_11 z.1⟩, by rw [ht]; exact hP, va_K.moved hW.alike hK, hD⟩, hS.F ht⟩) hS.2.2 dX0_end_35
  · refine lv_iload_n hx hb dX0_end_14 rfl (lv_at hl 0 rfl) ?_
    refine lv_if_lt (tgt := 34) hx hb dX0_end_15 (by decide) (fun c_15 => ?_) (fun c_15 => ?_)
    · refine lv_iconst (v := 0) hx hb dX0_end_34 (by decide) ?_
      exact W.zret (v := 0) hx hb hr rfl (fun t ht hW => ⟨⟨0, (ek, en), rfl, Or.inr ⟨rfl, rfl, rfl, fun z => z.2.1 c_15⟩, by rw [ht]; exact hP, va_K.moved hW.alike hK, hD⟩, hS.F ht⟩) hS.2.2 dX0_end_35
    · refine lv_iload_n hx hb dX0_end_18 rfl (lv_at hl 0 rfl) ?_
      refine lv_aload_n hx hb dX0_end_19 rfl (lv_at hl 1 rfl) ?_
      have hPc := hP.sub (ws' := [(h0, .inr (0, [.ref qb, .long kb, .int nx, .int un, .int ek, .int en])), (qb, .inl (cB, 64, .inl fb))]) [0, 1] rfl
      have hDc := hD.sub (ws' := [(h0, .inr (0, [.ref qb, .long kb, .int nx, .int un, .int ek, .int en])), (qb, .inl (cB, 64, .inl fb))]) [0, 1] (by decide) rfl
      have hKc := hK.sub (tys' := [(cB, .byte)]) [0] rfl
      have hFc := va_free (wc := [(h0, .inr (0, [.ref qb, .long kb, .int nx, .int un, .int ek, .int en])), (qb, .inl (cB, 64, .inl fb))]) hD hS hA [0, 1] rfl
      refine va_calli (va_runV (As := []) (rest := [.int (n - nx)]) ⟨hx, hb, hml, hown, hts⟩ (c_window l dC dI h0 qb cB kb nx un ek en fb s.heap.size ) (cwV 0 hts gX0_end_X0_window rfl rfl rfl (by decide +kernel) ⟨Nat.le_of_ble_eq_true rfl, Nat.le_of_ble_eq_true rfl⟩) ⟨fun a U g mk q => by obtain ⟨q0, q1, qP, qK, qD⟩ := q; exact ⟨q0, q1, qP, va_K.moved (u := U) (U := U.calling g mk a) (Vm.Alike.refl U.vm) qK, qD⟩, va_recv hKc hPc (ci := 0) (q0 := 0) rfl rfl, fun U hU hW => ⟨rfl, by rw [hU], by rw [hU]; exact hPc, va_K.moved hW.alike hKc, hDc.weaken (fun _ _ _ _ => trivial)⟩⟩ rfl rfl hl.1 rfl (lv_room (Nat.le_of_ble_eq_true rfl)) dX0_end_20 ⟨(Nat.zero_le _), (Nat.zero_le _)⟩) hS (fun q _ h => hFc q h) hFc (fun r_1 u t H1 locs ht hvm hw_2 hB hz1 hk1 hS => ?_)
      obtain ⟨hP1, hK1, hD1⟩ := hB
      rw [ht] at hP1
      have hK1 := va_K.moved hvm.symm hK1
      try dsimp only at hw_2
      obtain ⟨hP, hD⟩ := va_join (wr := []) (w1 := [(h0, .inr (0, [.ref qb, .long kb, .int nx, .int un, .int ek, .int en])), (qb, .inl (cB, 64, .inl fb))]) hP hD [0, 1] [] rfl rfl (by decide) (by decide) hk1 hFc hP1 hD1
      generalize H1 = H at hP hS ⊢
      have hP : va_P (dC, dI) vwCl [(h0, .inr (0, [.ref qb, .long kb, .int nx, .int un, .int ek, .int en])), (qb, .inl (cB, 64, .inl fb))] H := hP
      have hD : va_D A [(h0, .inr (0, [.ref qb, .long kb, .int nx, .int un, .int ek, .int en])), (qb, .inl (cB, 64, .inl fb))] := hD
      subst hw_2
      refine lv_icmp_gt (tgt := 34) hx hb dX0_end_23 (by decide) (fun c_23 => ?_) (fun c_23 => ?_)
      · refine lv_iconst (v := 0) hx hb dX0_end_34 (by decide) ?_
        exact W.zret (v := 0) hx hb hr rfl (fun t ht hW => ⟨⟨0, (ek, en), rfl, Or.inr ⟨rfl, rfl, rfl, fun z => z.2.2.1 c_23⟩, by rw [ht]; exact hP, va_K.moved hW.alike hK, hD⟩, hS.F ht⟩) hS.2.2 dX0_end_35
      · refine lv_aload_n hx hb dX0_end_26 rfl (lv_at hl 1 rfl) ?_
        refine lv_iload_n hx hb dX0_end_27 rfl (lv_at hl 0 rfl) ?_
        have hPc := hP.sub (ws' := [(h0, .inr (0, [.ref qb, .long kb, .int nx, .int un, .int ek, .int en])), (qb, .inl (cB, 64, .inl fb))]) [0, 1] rfl
        have hDc := hD.sub (ws' := [(h0, .inr (0, [.ref qb, .long kb, .int nx, .int un, .int ek, .int en])), (qb, .inl (cB, 64, .inl fb))]) [0, 1] (by decide) rfl
        have hKc := hK.sub (tys' := [(cB, .byte)]) [0] rfl
        have hFc := va_free (wc := [(h0, .inr (0, [.ref qb, .long kb, .int nx, .int un, .int ek, .int en])), (qb, .inl (cB, 64, .inl fb))]) hD hS hA [0, 1] rfl
        refine va_calli (va_runV (As := [.int (n - nx)]) (rest := []) ⟨hx, hb, hml, hown, hts⟩ (c_isHeldFrom l dC dI h0 qb cB kb nx un ek en fb (n - nx) H.size ) (cwV 1 hts gX0_end_X0_isHeldFrom rfl rfl rfl (by decide +kernel) ⟨Nat.le_of_ble_eq_true rfl, Nat.le_of_ble_eq_true rfl⟩) ⟨fun a U g mk q => by obtain ⟨q0, q1, qP, qK, qD⟩ := q; exact ⟨q0, q1, qP, va_K.moved (u := U) (U := U.calling g mk a) (Vm.Alike.refl U.vm) qK, qD⟩, va_recv hKc hPc (ci := 0) (q0 := 0) rfl rfl, fun U hU hW => ⟨rfl, by rw [hU], by rw [hU]; exact hPc, va_K.moved hW.alike hKc, hDc.weaken (fun _ _ _ _ => trivial)⟩⟩ rfl rfl hl.1 rfl (lv_room (Nat.le_of_ble_eq_true rfl)) dX0_end_28 ⟨(Nat.zero_le _), (Nat.zero_le _)⟩) hS (fun q _ h => hFc q h) hFc (fun r_3 u t H1 locs ht hvm hw_4 hB hz1 hk1 hS => ?_)
        obtain ⟨hP1, hK1, hD1⟩ := hB
        rw [ht] at hP1
        have hK1 := va_K.moved hvm.symm hK1
        try dsimp only at hw_4
        obtain ⟨hP, hD⟩ := va_join (wr := []) (w1 := [(h0, .inr (0, [.ref qb, .long kb, .int nx, .int un, .int ek, .int en])), (qb, .inl (cB, 64, .inl fb))]) hP hD [0, 1] [] rfl rfl (by decide) (by decide) hk1 hFc hP1 hD1
        generalize H1 = H at hP hS ⊢
        have hP : va_P (dC, dI) vwCl [(h0, .inr (0, [.ref qb, .long kb, .int nx, .int un, .int ek, .int en])), (qb, .inl (cB, 64, .inl fb))] H := hP
        have hD : va_D A [(h0, .inr (0, [.ref qb, .long kb, .int nx, .int un, .int ek, .int en])), (qb, .inl (cB, 64, .inl fb))] := hD
        subst hw_4
        refine lv_if_eq (tgt := 36) hx hb dX0_end_31 (by decide) (fun c_31 => ?_) (fun c_31 => ?_)
        · refine lv_aload_n hx hb dX0_end_36 rfl (lv_at hl 1 rfl) ?_
          refine lv_iconst (v := 1) hx hb dX0_end_37 (by decide) ?_
          refine va_put (D := (dC, dI)) (ci := 0) (v := .int 1) (ty := .boolean) (C := RX0) (T := TX0) (N := 6) hx hb hts hi_0 tyX0 tyX0_ok nmX0 hown hK hP hD hS 0 rfl rfl 4 (by decide) (hts (.fieldLink RX0 24 "SegmentBox" "endKnown" "Z") (by decide +kernel)) (fun _ h9 => h9) rfl (by decide +kernel) rfl rfl (Nat.le_of_ble_eq_true rfl) dX0_end_38 (fun H locs hP hD hS => ?_)
          have hP : va_P (dC, dI) vwCl [(h0, .inr (0, [.ref qb, .long kb, .int nx, .int un, .int 1, .int en])), (qb, .inl (cB, 64, .inl fb))] H := hP
          have hD : va_D A [(h0, .inr (0, [.ref qb, .long kb, .int nx, .int un, .int 1, .int en])), (qb, .inl (cB, 64, .inl fb))] := hD
          refine lv_aload_n hx hb dX0_end_41 rfl (lv_at hl 1 rfl) ?_
          refine lv_iload_n hx hb dX0_end_42 rfl (lv_at hl 2 rfl) ?_
          refine va_put (D := (dC, dI)) (ci := 0) (v := .int n) (ty := .int) (C := RX0) (T := TX0) (N := 6) hx hb hts hi_0 tyX0 tyX0_ok nmX0 hown hK hP hD hS 0 rfl rfl 5 (by decide) (hts (.fieldLink RX0 28 "SegmentBox" "endNumber" "I") (by decide +kernel)) (fun _ h9 => h9) rfl (by decide +kernel) rfl rfl (Nat.le_of_ble_eq_true rfl) dX0_end_43 (fun H locs hP hD hS => ?_)
          have hP : va_P (dC, dI) vwCl [(h0, .inr (0, [.ref qb, .long kb, .int nx, .int un, .int 1, .int n])), (qb, .inl (cB, 64, .inl fb))] H := hP
          have hD : va_D A [(h0, .inr (0, [.ref qb, .long kb, .int nx, .int un, .int 1, .int n])), (qb, .inl (cB, 64, .inl fb))] := hD
          refine lv_iconst (v := 1) hx hb dX0_end_46 (by decide) ?_
          exact W.zret (v := 1) hx hb hr rfl (fun t ht hW => ⟨⟨1, (1, n), rfl, Or.inl ⟨rfl, rfl, rfl, c_11, c_15, c_23, bI_0.mp c_31⟩, by rw [ht]; exact hP, va_K.moved hW.alike hK, hD⟩, hS.F ht⟩) hS.2.2 dX0_end_47
        · refine lv_iconst (v := 0) hx hb dX0_end_34 (by decide) ?_
          exact W.zret (v := 0) hx hb hr rfl (fun t ht hW => ⟨⟨0, (ek, en), rfl, Or.inr ⟨rfl, rfl, rfl, fun z => z.2.2.2 (bI_1.mp c_31)⟩, by rw [ht]; exact hP, va_K.moved hW.alike hK, hD⟩, hS.F ht⟩) hS.2.2 dX0_end_35
end
section
set_option maxHeartbeats 4000000 in
set_option maxRecDepth 100000 in
theorem c_read (l : Launch) (dC : Nat → ClassId) (dI : Nat → Nat → Nat) (h0 qb : Nat) (cB : ClassId) (kb : Int64) (nx un ek en : Int32) (fb : Nat → Int32) (sz : Nat)  : Met l yX0_read wsX0_read ({ frames := 1, cells := 0, slots := 0, locals := 20 }) (va_Pc [.ref h0] (fun U => U.heap.size = sz ∧ va_P (dC, dI) vwCl [(h0, .inr (0, [.ref qb, .long kb, .int nx, .int un, .int ek, .int en])), (qb, .inl (cB, 64, .inl fb))] U.heap ∧ va_K (dC, dI) vwCl [(cB, .byte)] U ∧ va_D (fun _ => True) [(h0, .inr (0, [.ref qb, .long kb, .int nx, .int un, .int ek, .int en])), (qb, .inl (cB, 64, .inl fb))])) (va_Qi (fun (r : Int32) (u : Int32) => match u with | un' => (un = 0 ∧ un' = un ∧ r = (if ¬ ek = 0 ∧ nx = en then -2 else -1)) ∨ (¬ un = 0 ∧ un' = un - 1 ∧ r = fb ((nx - un) &&& 63).toNatClampNeg &&& 255)) (fun (u : Int32) (t : State) => match u with | un' => va_P (dC, dI) vwCl [(h0, .inr (0, [.ref qb, .long kb, .int nx, .int un', .int ek, .int en])), (qb, .inl (cB, 64, .inl fb))] t.heap ∧ va_K (dC, dI) vwCl [(cB, .byte)] t ∧ va_D (va_A [(h0, .inr (0, [.ref qb, .long kb, .int nx, .int un, .int ek, .int en])), (qb, .inl (cB, 64, .inl fb))] sz) [(h0, .inr (0, [.ref qb, .long kb, .int nx, .int un', .int ek, .int en])), (qb, .inl (cB, 64, .inl fb))]) (va_A [(h0, .inr (0, [.ref qb, .long kb, .int nx, .int un, .int ek, .int en])), (qb, .inl (cB, 64, .inl fb))] sz)) 0 0 (va_A [(h0, .inr (0, [.ref qb, .long kb, .int nx, .int un, .int ek, .int en])), (qb, .inl (cB, 64, .inl fb))] sz) := by
  refine Met.ofW (cc := cX0_read) (maxL := 2) (ret := (some .int)) (by decide) rfl ?_
  intro p e s m args below meth c s₁ B hml hv
  obtain ⟨rfl, hsz, hP, hK, hD0⟩ := hv
  have hx := B.exec
  have hb := B.bytes
  have hr := B.returns
  have hts := atoms_spec (ws := wsX0_read) B.pre
  have hown : s.vm.findClass RX0 = some m.cls := findClass_of_methodNamed B.named
  have hlocks := B.notSynchronized
  subst hsz
  have hD := hD0.self (sz := s.heap.size)
  generalize hAe : va_A [(h0, .inr (0, [.ref qb, .long kb, .int nx, .int un, .int ek, .int en])), (qb, .inl (cB, 64, .inl fb))] s.heap.size = A at hD ⊢
  have hA : ∀ q : Nat, s.heap.size ≤ q → A q := fun q h => by rw [← hAe]; exact Or.inr h
  have hS : va_S A s.heap s.heap [] := va_S.rf
  have hP : va_P (dC, dI) vwCl [(h0, .inr (0, [.ref qb, .long kb, .int nx, .int un, .int ek, .int en])), (qb, .inl (cB, 64, .inl fb))] s.heap := hP
  have hl := lv_entry ([.ref h0]) (n := 2) (Nat.le_of_ble_eq_true rfl)
  rw [lg_entry_eq]
  generalize (lg_sl ([.ref h0]) ++ List.replicate (2 - (lg_sl ([.ref h0])).length) Slot.unset).toArray = ls at hl ⊢
  have hl : lv_has ls 2 [(0, .ref h0)] := hl
  have hi_0 : ∀ w ∈ u_ws RX0 TX0 6, w ∈ wsX0_read := by decide +kernel
  refine lv_aload_n hx hb dX0_read_0 rfl (lv_at hl 0 rfl) ?_
  refine va_get (D := (dC, dI)) (ci := 0) (v := .int un) (C := RX0) (T := TX0) (N := 6) hx hb hts hi_0 hown hK hP 0 rfl rfl 3 (by decide) (hts (.fieldLink RX0 21 "SegmentBox" "unread" "I") (by decide +kernel)) (fun _ h9 => h9) rfl dX0_read_1 ?_
  refine lv_if_ne (tgt := 32) hx hb dX0_read_4 (by decide) (fun c_4 => ?_) (fun c_4 => ?_)
  · refine lv_aload_n hx hb dX0_read_32 rfl (lv_at hl 0 rfl) ?_
    refine va_get (D := (dC, dI)) (ci := 0) (v := .ref qb) (C := RX0) (T := TX0) (N := 6) hx hb hts hi_0 hown hK hP 0 rfl rfl 0 (by decide) (hts (.fieldLink RX0 9 "SegmentBox" "bytes" "[B") (by decide +kernel)) (fun _ h9 => h9) rfl dX0_read_33 ?_
    refine lv_aload_n hx hb dX0_read_36 rfl (lv_at hl 0 rfl) ?_
    refine va_get (D := (dC, dI)) (ci := 0) (v := .int nx) (C := RX0) (T := TX0) (N := 6) hx hb hts hi_0 hown hK hP 0 rfl rfl 2 (by decide) (hts (.fieldLink RX0 17 "SegmentBox" "next" "I") (by decide +kernel)) (fun _ h9 => h9) rfl dX0_read_37 ?_
    refine lv_aload_n hx hb dX0_read_40 rfl (lv_at hl 0 rfl) ?_
    refine va_get (D := (dC, dI)) (ci := 0) (v := .int un) (C := RX0) (T := TX0) (N := 6) hx hb hts hi_0 hown hK hP 0 rfl rfl 3 (by decide) (hts (.fieldLink RX0 21 "SegmentBox" "unread" "I") (by decide +kernel)) (fun _ h9 => h9) rfl dX0_read_41 ?_
    refine lv_isub hx hb dX0_read_44 ?_
    have hPc := hP.sub (ws' := []) [] rfl
    have hDc := hD.sub (ws' := []) [] (by decide) rfl
    have hKc := hK.sub (tys' := []) [] rfl
    have hFc := va_free (wc := []) hD hS hA [] rfl
    refine va_calli (va_runS (As := [.int (nx - un)]) (rest := [.ref qb]) ⟨hx, hb, hml, hown, hts⟩ (c_slotOf l dC dI (nx - un) s.heap.size ) (va_cwS 1 hts gX0_read_X0_slotOf rfl rfl rfl (by decide +kernel) ⟨Nat.le_of_ble_eq_true rfl, Nat.le_of_ble_eq_true rfl⟩) ⟨fun a U g mk q => by obtain ⟨q0, q1, qP, qK, qD⟩ := q; exact ⟨q0, q1, qP, va_K.moved (u := U) (U := U.calling g mk a) (Vm.Alike.refl U.vm) qK, qD⟩, fun U hU hW => ⟨rfl, by rw [hU], by rw [hU]; exact hPc, va_K.moved hW.alike hKc, hDc.weaken (fun _ _ _ _ => trivial)⟩⟩ rfl rfl hl.1 rfl (lv_room (Nat.le_of_ble_eq_true rfl)) dX0_read_45 ⟨(Nat.zero_le _), (Nat.zero_le _)⟩) hS (fun q _ h => hFc q h) hFc (fun r_1 u t H1 locs ht hvm hw_2 hB hz1 hk1 hS => ?_)
    obtain ⟨hP1, hK1, hD1⟩ := hB
    rw [ht] at hP1
    have hK1 := va_K.moved hvm.symm hK1
    try dsimp only at hw_2
    obtain ⟨hP, hD⟩ := va_join (wr := [(h0, .inr (0, [.ref qb, .long kb, .int nx, .int un, .int ek, .int en])), (qb, .inl (cB, 64, .inl fb))]) (w1 := []) hP hD [] [0, 1] rfl rfl (by decide) (by decide) hk1 hFc hP1 hD1
    generalize H1 = H at hP hS ⊢
    have hP : va_P (dC, dI) vwCl [(h0, .inr (0, [.ref qb, .long kb, .int nx, .int un, .int ek, .int en])), (qb, .inl (cB, 64, .inl fb))] H := hP
    have hD : va_D A [(h0, .inr (0, [.ref qb, .long kb, .int nx, .int un, .int ek, .int en])), (qb, .inl (cB, 64, .inl fb))] := hD
    subst hw_2
    refine va_bald hx hb hK hP 1 0 rfl rfl (pk_andIn (nx - un) 6 (by decide) (by decide)) dX0_read_48 ?_
    refine lv_sipush (v := 255) hx hb dX0_read_49 (by decide) ?_
    refine lv_iand hx hb dX0_read_52 ?_
    refine lv_istore_n (lv' := [(1, .int ((fb ((nx - un) &&& 63).toNatClampNeg) &&& 255)), (0, .ref h0)]) hx hb dX0_read_53 rfl hl (by decide) rfl (fun ls hl => ?_)
    refine lv_aload_n hx hb dX0_read_54 rfl (lv_at hl 1 rfl) ?_
    refine lv_dup hx hb dX0_read_55 rfl ?_
    refine va_get (D := (dC, dI)) (ci := 0) (v := .int un) (C := RX0) (T := TX0) (N := 6) hx hb hts hi_0 hown hK hP 0 rfl rfl 3 (by decide) (hts (.fieldLink RX0 21 "SegmentBox" "unread" "I") (by decide +kernel)) (fun _ h9 => h9) rfl dX0_read_56 ?_
    refine lv_iconst (v := 1) hx hb dX0_read_59 (by decide) ?_
    refine lv_isub hx hb dX0_read_60 ?_
    refine lv_topi (fun f_3 ef_3 => ?_)
    refine va_put (D := (dC, dI)) (ci := 0) (v := .int f_3) (ty := .int) (C := RX0) (T := TX0) (N := 6) hx hb hts hi_0 tyX0 tyX0_ok nmX0 hown hK hP hD hS 0 rfl rfl 3 (by decide) (hts (.fieldLink RX0 21 "SegmentBox" "unread" "I") (by decide +kernel)) (fun _ h9 => h9) rfl (by decide +kernel) rfl rfl (Nat.le_of_ble_eq_true rfl) dX0_read_61 (fun H locs hP hD hS => ?_)
    have hP : va_P (dC, dI) vwCl [(h0, .inr (0, [.ref qb, .long kb, .int nx, .int f_3, .int ek, .int en])), (qb, .inl (cB, 64, .inl fb))] H := hP
    have hD : va_D A [(h0, .inr (0, [.ref qb, .long kb, .int nx, .int f_3, .int ek, .int en])), (qb, .inl (cB, 64, .inl fb))] := hD
    refine lv_iload_n hx hb dX0_read_64 rfl (lv_at hl 0 rfl) ?_
    exact W.iret (v := (fb ((nx - un) &&& 63).toNatClampNeg) &&& 255) hx hb hr (fun t ht hW => ⟨⟨(fb ((nx - un) &&& 63).toNatClampNeg) &&& 255, f_3, rfl, Or.inr ⟨c_4, ef_3, rfl⟩, by rw [ht]; exact hP, va_K.moved hW.alike hK, hD⟩, hS.F ht⟩) hS.2.2 dX0_read_65
  · refine lv_aload_n hx hb dX0_read_7 rfl (lv_at hl 0 rfl) ?_
    refine va_get (D := (dC, dI)) (ci := 0) (v := .int ek) (C := RX0) (T := TX0) (N := 6) hx hb hts hi_0 hown hK hP 0 rfl rfl 4 (by decide) (hts (.fieldLink RX0 24 "SegmentBox" "endKnown" "Z") (by decide +kernel)) (fun _ h9 => h9) rfl dX0_read_8 ?_
    refine lv_if_eq (tgt := 30) hx hb dX0_read_11 (by decide) (fun c_11 => ?_) (fun c_11 => ?_)
    · refine lv_iconst (v := -1) hx hb dX0_read_30 (by decide) ?_
      exact W.iret (v := (-1)) hx hb hr (fun t ht hW => ⟨⟨(-1), un, rfl, Or.inl ⟨c_4, rfl, (if_neg (fun z => z.1 c_11)).symm⟩, by rw [ht]; exact hP, va_K.moved hW.alike hK, hD⟩, hS.F ht⟩) hS.2.2 dX0_read_31
    · refine lv_aload_n hx hb dX0_read_14 rfl (lv_at hl 0 rfl) ?_
      refine va_get (D := (dC, dI)) (ci := 0) (v := .int nx) (C := RX0) (T := TX0) (N := 6) hx hb hts hi_0 hown hK hP 0 rfl rfl 2 (by decide) (hts (.fieldLink RX0 17 "SegmentBox" "next" "I") (by decide +kernel)) (fun _ h9 => h9) rfl dX0_read_15 ?_
      refine lv_aload_n hx hb dX0_read_18 rfl (lv_at hl 0 rfl) ?_
      refine va_get (D := (dC, dI)) (ci := 0) (v := .int en) (C := RX0) (T := TX0) (N := 6) hx hb hts hi_0 hown hK hP 0 rfl rfl 5 (by decide) (hts (.fieldLink RX0 28 "SegmentBox" "endNumber" "I") (by decide +kernel)) (fun _ h9 => h9) rfl dX0_read_19 ?_
      refine lv_icmp_ne (tgt := 30) hx hb dX0_read_22 (by decide) (fun c_22 => ?_) (fun c_22 => ?_)
      · refine lv_iconst (v := -1) hx hb dX0_read_30 (by decide) ?_
        exact W.iret (v := (-1)) hx hb hr (fun t ht hW => ⟨⟨(-1), un, rfl, Or.inl ⟨c_4, rfl, (if_neg (fun z => c_22 z.2)).symm⟩, by rw [ht]; exact hP, va_K.moved hW.alike hK, hD⟩, hS.F ht⟩) hS.2.2 dX0_read_31
      · refine lv_bipush (v := -2) hx hb dX0_read_25 (by decide) ?_
        refine lv_goto (tgt := 31) hx hb dX0_read_27 (by decide) ?_
        exact W.iret (v := (-2)) hx hb hr (fun t ht hW => ⟨⟨(-2), un, rfl, Or.inl ⟨c_4, rfl, (if_pos ⟨c_11, c_22⟩).symm⟩, by rw [ht]; exact hP, va_K.moved hW.alike hK, hD⟩, hS.F ht⟩) hS.2.2 dX0_read_31
end
section
set_option maxHeartbeats 4000000 in
set_option maxRecDepth 100000 in
theorem c_heldM (l : Launch) (dC : Nat → ClassId) (dI : Nat → Nat → Nat) (h0 qb : Nat) (cB : ClassId) (kb : Int64) (nx un ek en : Int32) (fb : Nat → Int32) (n : Int32) (sz : Nat)  : Met l yX0_held wsX0_held ({ frames := 1, cells := 0, slots := 0, locals := 21 }) (va_Pc [.ref h0, .int n] (fun U => U.heap.size = sz ∧ va_P (dC, dI) vwCl [(h0, .inr (0, [.ref qb, .long kb, .int nx, .int un, .int ek, .int en])), (qb, .inl (cB, 64, .inl fb))] U.heap ∧ va_K (dC, dI) vwCl [(cB, .byte)] U ∧ va_D (fun _ => True) [(h0, .inr (0, [.ref qb, .long kb, .int nx, .int un, .int ek, .int en])), (qb, .inl (cB, 64, .inl fb))])) (va_Qi (fun (r : Int32) (u : Unit) => match u with | () => r = bI (c_held kb (n - nx))) (fun (u : Unit) (t : State) => match u with | () => va_P (dC, dI) vwCl [(h0, .inr (0, [.ref qb, .long kb, .int nx, .int un, .int ek, .int en])), (qb, .inl (cB, 64, .inl fb))] t.heap ∧ va_K (dC, dI) vwCl [(cB, .byte)] t ∧ va_D (va_A [(h0, .inr (0, [.ref qb, .long kb, .int nx, .int un, .int ek, .int en])), (qb, .inl (cB, 64, .inl fb))] sz) [(h0, .inr (0, [.ref qb, .long kb, .int nx, .int un, .int ek, .int en])), (qb, .inl (cB, 64, .inl fb))]) (va_A [(h0, .inr (0, [.ref qb, .long kb, .int nx, .int un, .int ek, .int en])), (qb, .inl (cB, 64, .inl fb))] sz)) 0 0 (va_A [(h0, .inr (0, [.ref qb, .long kb, .int nx, .int un, .int ek, .int en])), (qb, .inl (cB, 64, .inl fb))] sz) := by
  refine Met.ofW (cc := cX0_held) (maxL := 2) (ret := (some .boolean)) (by decide) rfl ?_
  intro p e s m args below meth c s₁ B hml hv
  obtain ⟨rfl, hsz, hP, hK, hD0⟩ := hv
  have hx := B.exec
  have hb := B.bytes
  have hr := B.returns
  have hts := atoms_spec (ws := wsX0_held) B.pre
  have hown : s.vm.findClass RX0 = some m.cls := findClass_of_methodNamed B.named
  have hlocks := B.notSynchronized
  subst hsz
  have hD := hD0.self (sz := s.heap.size)
  generalize hAe : va_A [(h0, .inr (0, [.ref qb, .long kb, .int nx, .int un, .int ek, .int en])), (qb, .inl (cB, 64, .inl fb))] s.heap.size = A at hD ⊢
  have hA : ∀ q : Nat, s.heap.size ≤ q → A q := fun q h => by rw [← hAe]; exact Or.inr h
  have hS : va_S A s.heap s.heap [] := va_S.rf
  have hP : va_P (dC, dI) vwCl [(h0, .inr (0, [.ref qb, .long kb, .int nx, .int un, .int ek, .int en])), (qb, .inl (cB, 64, .inl fb))] s.heap := hP
  have hl := lv_entry ([.ref h0, .int n]) (n := 2) (Nat.le_of_ble_eq_true rfl)
  rw [lg_entry_eq]
  generalize (lg_sl ([.ref h0, .int n]) ++ List.replicate (2 - (lg_sl ([.ref h0, .int n])).length) Slot.unset).toArray = ls at hl ⊢
  have hl : lv_has ls 2 [(0, .ref h0), (1, .int n)] := hl
  have hi_0 : ∀ w ∈ u_ws RX0 TX0 6, w ∈ wsX0_held := by decide +kernel
  refine lv_aload_n hx hb dX0_held_0 rfl (lv_at hl 0 rfl) ?_
  refine lv_iload_n hx hb dX0_held_1 rfl (lv_at hl 1 rfl) ?_
  refine lv_aload_n hx hb dX0_held_2 rfl (lv_at hl 0 rfl) ?_
  refine va_get (D := (dC, dI)) (ci := 0) (v := .int nx) (C := RX0) (T := TX0) (N := 6) hx hb hts hi_0 hown hK hP 0 rfl rfl 2 (by decide) (hts (.fieldLink RX0 17 "SegmentBox" "next" "I") (by decide +kernel)) (fun _ h9 => h9) rfl dX0_held_3 ?_
  refine lv_isub hx hb dX0_held_6 ?_
  have hPc := hP.sub (ws' := [(h0, .inr (0, [.ref qb, .long kb, .int nx, .int un, .int ek, .int en])), (qb, .inl (cB, 64, .inl fb))]) [0, 1] rfl
  have hDc := hD.sub (ws' := [(h0, .inr (0, [.ref qb, .long kb, .int nx, .int un, .int ek, .int en])), (qb, .inl (cB, 64, .inl fb))]) [0, 1] (by decide) rfl
  have hKc := hK.sub (tys' := [(cB, .byte)]) [0] rfl
  have hFc := va_free (wc := [(h0, .inr (0, [.ref qb, .long kb, .int nx, .int un, .int ek, .int en])), (qb, .inl (cB, 64, .inl fb))]) hD hS hA [0, 1] rfl
  refine va_calli (va_runV (As := [.int (n - nx)]) (rest := []) ⟨hx, hb, hml, hown, hts⟩ (c_isHeldAhead l dC dI h0 qb cB kb nx un ek en fb (n - nx) s.heap.size ) (cwV 1 hts gX0_held_X0_isHeldAhead rfl rfl rfl (by decide +kernel) ⟨Nat.le_of_ble_eq_true rfl, Nat.le_of_ble_eq_true rfl⟩) ⟨fun a U g mk q => by obtain ⟨q0, q1, qP, qK, qD⟩ := q; exact ⟨q0, q1, qP, va_K.moved (u := U) (U := U.calling g mk a) (Vm.Alike.refl U.vm) qK, qD⟩, va_recv hKc hPc (ci := 0) (q0 := 0) rfl rfl, fun U hU hW => ⟨rfl, by rw [hU], by rw [hU]; exact hPc, va_K.moved hW.alike hKc, hDc.weaken (fun _ _ _ _ => trivial)⟩⟩ rfl rfl hl.1 rfl (lv_room (Nat.le_of_ble_eq_true rfl)) dX0_held_7 ⟨(Nat.zero_le _), (Nat.zero_le _)⟩) hS (fun q _ h => hFc q h) hFc (fun r_1 u t H1 locs ht hvm hw_2 hB hz1 hk1 hS => ?_)
  obtain ⟨hP1, hK1, hD1⟩ := hB
  rw [ht] at hP1
  have hK1 := va_K.moved hvm.symm hK1
  try dsimp only at hw_2
  obtain ⟨hP, hD⟩ := va_join (wr := []) (w1 := [(h0, .inr (0, [.ref qb, .long kb, .int nx, .int un, .int ek, .int en])), (qb, .inl (cB, 64, .inl fb))]) hP hD [0, 1] [] rfl rfl (by decide) (by decide) hk1 hFc hP1 hD1
  generalize H1 = H at hP hS ⊢
  have hP : va_P (dC, dI) vwCl [(h0, .inr (0, [.ref qb, .long kb, .int nx, .int un, .int ek, .int en])), (qb, .inl (cB, 64, .inl fb))] H := hP
  have hD : va_D A [(h0, .inr (0, [.ref qb, .long kb, .int nx, .int un, .int ek, .int en])), (qb, .inl (cB, 64, .inl fb))] := hD
  subst hw_2
  exact W.zret (v := bI (c_held kb (n - nx))) hx hb hr bI_nar (fun t ht hW => ⟨⟨bI (c_held kb (n - nx)), (), rfl, rfl, by rw [ht]; exact hP, va_K.moved hW.alike hK, hD⟩, hS.F ht⟩) hS.2.2 dX0_held_10
end
section
set_option maxHeartbeats 4000000 in
set_option maxRecDepth 100000 in
theorem c_open (l : Launch) (dC : Nat → ClassId) (dI : Nat → Nat → Nat) (h0 qb : Nat) (cB : ClassId) (kb : Int64) (nx un ek en : Int32) (fb : Nat → Int32) (n : Int32) (sz : Nat)  : Met l yX0_open wsX0_open ({ frames := 0, cells := 0, slots := 0, locals := 0 }) (va_Pc [.ref h0, .int n] (fun U => U.heap.size = sz ∧ va_P (dC, dI) vwCl [(h0, .inr (0, [.ref qb, .long kb, .int nx, .int un, .int ek, .int en])), (qb, .inl (cB, 64, .inl fb))] U.heap ∧ va_K (dC, dI) vwCl [(cB, .byte)] U ∧ va_D (fun _ => True) [(h0, .inr (0, [.ref qb, .long kb, .int nx, .int un, .int ek, .int en])), (qb, .inl (cB, 64, .inl fb))])) (va_Qv (fun (u : Unit) => match u with | () => True) (fun (u : Unit) (t : State) => match u with | () => va_P (dC, dI) vwCl [(h0, .inr (0, [.ref qb, .long 0, .int n, .int 0, .int 0, .int 0])), (qb, .inl (cB, 64, .inl fb))] t.heap ∧ va_K (dC, dI) vwCl [(cB, .byte)] t ∧ va_D (va_A [(h0, .inr (0, [.ref qb, .long kb, .int nx, .int un, .int ek, .int en])), (qb, .inl (cB, 64, .inl fb))] sz) [(h0, .inr (0, [.ref qb, .long 0, .int n, .int 0, .int 0, .int 0])), (qb, .inl (cB, 64, .inl fb))]) (va_A [(h0, .inr (0, [.ref qb, .long kb, .int nx, .int un, .int ek, .int en])), (qb, .inl (cB, 64, .inl fb))] sz)) 0 0 (va_A [(h0, .inr (0, [.ref qb, .long kb, .int nx, .int un, .int ek, .int en])), (qb, .inl (cB, 64, .inl fb))] sz) := by
  refine Met.ofW (cc := cX0_open) (maxL := 2) (ret := none) (by decide) rfl ?_
  intro p e s m args below meth c s₁ B hml hv
  obtain ⟨rfl, hsz, hP, hK, hD0⟩ := hv
  have hx := B.exec
  have hb := B.bytes
  have hr := B.returns
  have hts := atoms_spec (ws := wsX0_open) B.pre
  have hown : s.vm.findClass RX0 = some m.cls := findClass_of_methodNamed B.named
  have hlocks := B.notSynchronized
  subst hsz
  have hD := hD0.self (sz := s.heap.size)
  generalize hAe : va_A [(h0, .inr (0, [.ref qb, .long kb, .int nx, .int un, .int ek, .int en])), (qb, .inl (cB, 64, .inl fb))] s.heap.size = A at hD ⊢
  have hA : ∀ q : Nat, s.heap.size ≤ q → A q := fun q h => by rw [← hAe]; exact Or.inr h
  have hS : va_S A s.heap s.heap [] := va_S.rf
  have hP : va_P (dC, dI) vwCl [(h0, .inr (0, [.ref qb, .long kb, .int nx, .int un, .int ek, .int en])), (qb, .inl (cB, 64, .inl fb))] s.heap := hP
  have hl := lv_entry ([.ref h0, .int n]) (n := 2) (Nat.le_of_ble_eq_true rfl)
  rw [lg_entry_eq]
  generalize (lg_sl ([.ref h0, .int n]) ++ List.replicate (2 - (lg_sl ([.ref h0, .int n])).length) Slot.unset).toArray = ls at hl ⊢
  have hl : lv_has ls 2 [(0, .ref h0), (1, .int n)] := hl
  have hi_0 : ∀ w ∈ u_ws RX0 TX0 6, w ∈ wsX0_open := by decide +kernel
  refine lv_aload_n hx hb dX0_open_0 rfl (lv_at hl 0 rfl) ?_
  refine lv_lconst (v := 0) hx hb dX0_open_1 rfl ?_
  refine va_put (D := (dC, dI)) (ci := 0) (v := .long 0) (ty := .long) (C := RX0) (T := TX0) (N := 6) hx hb hts hi_0 tyX0 tyX0_ok nmX0 hown hK hP hD hS 0 rfl rfl 1 (by decide) (hts (.fieldLink RX0 13 "SegmentBox" "heldBits" "J") (by decide +kernel)) (fun _ h9 => h9) rfl (by decide +kernel) rfl rfl (Nat.le_of_ble_eq_true rfl) dX0_open_2 (fun H locs hP hD hS => ?_)
  have hP : va_P (dC, dI) vwCl [(h0, .inr (0, [.ref qb, .long 0, .int nx, .int un, .int ek, .int en])), (qb, .inl (cB, 64, .inl fb))] H := hP
  have hD : va_D A [(h0, .inr (0, [.ref qb, .long 0, .int nx, .int un, .int ek, .int en])), (qb, .inl (cB, 64, .inl fb))] := hD
  refine lv_aload_n hx hb dX0_open_5 rfl (lv_at hl 0 rfl) ?_
  refine lv_iload_n hx hb dX0_open_6 rfl (lv_at hl 1 rfl) ?_
  refine va_put (D := (dC, dI)) (ci := 0) (v := .int n) (ty := .int) (C := RX0) (T := TX0) (N := 6) hx hb hts hi_0 tyX0 tyX0_ok nmX0 hown hK hP hD hS 0 rfl rfl 2 (by decide) (hts (.fieldLink RX0 17 "SegmentBox" "next" "I") (by decide +kernel)) (fun _ h9 => h9) rfl (by decide +kernel) rfl rfl (Nat.le_of_ble_eq_true rfl) dX0_open_7 (fun H locs hP hD hS => ?_)
  have hP : va_P (dC, dI) vwCl [(h0, .inr (0, [.ref qb, .long 0, .int n, .int un, .int ek, .int en])), (qb, .inl (cB, 64, .inl fb))] H := hP
  have hD : va_D A [(h0, .inr (0, [.ref qb, .long 0, .int n, .int un, .int ek, .int en])), (qb, .inl (cB, 64, .inl fb))] := hD
  refine lv_aload_n hx hb dX0_open_10 rfl (lv_at hl 0 rfl) ?_
  refine lv_iconst (v := 0) hx hb dX0_open_11 (by decide) ?_
  refine va_put (D := (dC, dI)) (ci := 0) (v := .int 0) (ty := .int) (C := RX0) (T := TX0) (N := 6) hx hb hts hi_0 tyX0 tyX0_ok nmX0 hown hK hP hD hS 0 rfl rfl 3 (by decide) (hts (.fieldLink RX0 21 "SegmentBox" "unread" "I") (by decide +kernel)) (fun _ h9 => h9) rfl (by decide +kernel) rfl rfl (Nat.le_of_ble_eq_true rfl) dX0_open_12 (fun H locs hP hD hS => ?_)
  have hP : va_P (dC, dI) vwCl [(h0, .inr (0, [.ref qb, .long 0, .int n, .int 0, .int ek, .int en])), (qb, .inl (cB, 64, .inl fb))] H := hP
  have hD : va_D A [(h0, .inr (0, [.ref qb, .long 0, .int n, .int 0, .int ek, .int en])), (qb, .inl (cB, 64, .inl fb))] := hD
  refine lv_aload_n hx hb dX0_open_15 rfl (lv_at hl 0 rfl) ?_
  refine lv_iconst (v := 0) hx hb dX0_open_16 (by decide) ?_
  refine va_put (D := (dC, dI)) (ci := 0) (v := .int 0) (ty := .boolean) (C := RX0) (T := TX0) (N := 6) hx hb hts hi_0 tyX0 tyX0_ok nmX0 hown hK hP hD hS 0 rfl rfl 4 (by decide) (hts (.fieldLink RX0 24 "SegmentBox" "endKnown" "Z") (by decide +kernel)) (fun _ h9 => h9) rfl (by decide +kernel) rfl rfl (Nat.le_of_ble_eq_true rfl) dX0_open_17 (fun H locs hP hD hS => ?_)
  have hP : va_P (dC, dI) vwCl [(h0, .inr (0, [.ref qb, .long 0, .int n, .int 0, .int 0, .int en])), (qb, .inl (cB, 64, .inl fb))] H := hP
  have hD : va_D A [(h0, .inr (0, [.ref qb, .long 0, .int n, .int 0, .int 0, .int en])), (qb, .inl (cB, 64, .inl fb))] := hD
  refine lv_aload_n hx hb dX0_open_20 rfl (lv_at hl 0 rfl) ?_
  refine lv_iconst (v := 0) hx hb dX0_open_21 (by decide) ?_
  refine va_put (D := (dC, dI)) (ci := 0) (v := .int 0) (ty := .int) (C := RX0) (T := TX0) (N := 6) hx hb hts hi_0 tyX0 tyX0_ok nmX0 hown hK hP hD hS 0 rfl rfl 5 (by decide) (hts (.fieldLink RX0 28 "SegmentBox" "endNumber" "I") (by decide +kernel)) (fun _ h9 => h9) rfl (by decide +kernel) rfl rfl (Nat.le_of_ble_eq_true rfl) dX0_open_22 (fun H locs hP hD hS => ?_)
  have hP : va_P (dC, dI) vwCl [(h0, .inr (0, [.ref qb, .long 0, .int n, .int 0, .int 0, .int 0])), (qb, .inl (cB, 64, .inl fb))] H := hP
  have hD : va_D A [(h0, .inr (0, [.ref qb, .long 0, .int n, .int 0, .int 0, .int 0])), (qb, .inl (cB, 64, .inl fb))] := hD
  exact W.vret hx hb hr (fun t ht hW => ⟨⟨(), rfl, trivial, by rw [ht]; exact hP, va_K.moved hW.alike hK, hD⟩, hS.F ht⟩) hS.2.2 dX0_open_25
end
section
set_option maxHeartbeats 4000000 in
set_option maxRecDepth 100000 in
theorem c_init (l : Launch) (dC : Nat → ClassId) (dI : Nat → Nat → Nat) (h0 : Nat) (sz : Nat)  : Met l yX0_init wsX0_init ({ frames := 1, cells := 1, slots := 64, locals := 12 }) (va_Pc [.ref h0] (fun U => U.heap.size = sz ∧ va_P (dC, dI) vwCl [(h0, .inr (0, [.null, .long 0, .int 0, .int 0, .int 0, .int 0]))] U.heap ∧ va_K (dC, dI) vwCl [] U ∧ va_D (fun _ => True) [(h0, .inr (0, [.null, .long 0, .int 0, .int 0, .int 0, .int 0]))])) (va_Qv (fun (u : Nat × ClassId) => match u with | (qb, cB) => True) (fun (u : Nat × ClassId) (t : State) => match u with | (qb, cB) => va_P (dC, dI) vwCl [(h0, .inr (0, [.ref qb, .long 0, .int 0, .int 0, .int 0, .int 0])), (qb, .inl (cB, 64, .inl (fun _ => 0)))] t.heap ∧ va_K (dC, dI) vwCl [(cB, .byte)] t ∧ va_D (va_A [(h0, .inr (0, [.null, .long 0, .int 0, .int 0, .int 0, .int 0]))] sz) [(h0, .inr (0, [.ref qb, .long 0, .int 0, .int 0, .int 0, .int 0])), (qb, .inl (cB, 64, .inl (fun _ => 0)))]) (va_A [(h0, .inr (0, [.null, .long 0, .int 0, .int 0, .int 0, .int 0]))] sz)) 1 64 (va_A [(h0, .inr (0, [.null, .long 0, .int 0, .int 0, .int 0, .int 0]))] sz) := by
  refine Met.ofW (cc := cX0_init) (maxL := 1) (ret := none) (by decide) rfl ?_
  intro p e s m args below meth c s₁ B hml hv
  obtain ⟨rfl, hsz, hP, hK, hD0⟩ := hv
  have hx := B.exec
  have hb := B.bytes
  have hr := B.returns
  have hts := atoms_spec (ws := wsX0_init) B.pre
  have hown : s.vm.findClass RX0 = some m.cls := findClass_of_methodNamed B.named
  have hlocks := B.notSynchronized
  have hin : meth.name = "<init>" := (name_of_methodNamed B.named B.method).1
  subst hsz
  have hD := hD0.self (sz := s.heap.size)
  generalize hAe : va_A [(h0, .inr (0, [.null, .long 0, .int 0, .int 0, .int 0, .int 0]))] s.heap.size = A at hD ⊢
  have hA : ∀ q : Nat, s.heap.size ≤ q → A q := fun q h => by rw [← hAe]; exact Or.inr h
  have hS : va_S A s.heap s.heap [] := va_S.rf
  have hP : va_P (dC, dI) vwCl [(h0, .inr (0, [.null, .long 0, .int 0, .int 0, .int 0, .int 0]))] s.heap := hP
  have hl := lv_entry ([.ref h0]) (n := 1) (Nat.le_of_ble_eq_true rfl)
  rw [lg_entry_eq]
  generalize (lg_sl ([.ref h0]) ++ List.replicate (1 - (lg_sl ([.ref h0])).length) Slot.unset).toArray = ls at hl ⊢
  have hl : lv_has ls 1 [(0, .ref h0)] := hl
  have hi_0 : ∀ w ∈ u_ws RX0 TX0 6, w ∈ wsX0_init := by decide +kernel
  refine lv_aload_n hx hb dX0_init_0 rfl (lv_at hl 0 rfl) ?_
  refine W.objInit hx hb hown (hts (.methodLink RX0 1 objectInit) (by decide +kernel)) (hts (.instanceMethod objectInit) (by decide +kernel)) (hts _ (List.mem_cons_of_mem _ (List.mem_append_left _ (List.mem_of_getElem? (i := 2) rfl)))) rfl (by rw [hml]; exact hl.1) rfl dX0_init_1 (Nat.le_of_ble_eq_true rfl) (Nat.le_of_ble_eq_true rfl) ?_
  refine W.eq (g2 := F0 m 4 ls []) rfl ?_
  refine lv_aload_n hx hb dX0_init_4 rfl (lv_at hl 0 rfl) ?_
  refine lv_bipush (v := 64) hx hb dX0_init_5 (by decide) ?_
  refine va_newa (atype := .byte) (N' := 64) (a0 := (64, .inl (fun _ => 0))) (ty := .byte) (n := 64) hx hb (hts (.arrayClass .byte) (by decide +kernel)) rfl hK hP hD hS hA (fun _ => rfl) (by decide) (by decide) (by decide) (Nat.le_of_ble_eq_true rfl) (Nat.le_of_ble_eq_true rfl) dX0_init_7 (fun qa_1 cB H hK hP hD hS => ?_)
  have hP : va_P (dC, dI) vwCl [(h0, .inr (0, [.null, .long 0, .int 0, .int 0, .int 0, .int 0])), (qa_1, .inl (cB, 64, .inl (fun _ => 0)))] H := hP
  have hD : va_D A [(h0, .inr (0, [.null, .long 0, .int 0, .int 0, .int 0, .int 0])), (qa_1, .inl (cB, 64, .inl (fun _ => 0)))] := hD
  have hK : va_K (dC, dI) vwCl [(cB, .byte)] s := hK
  refine va_putF (D := (dC, dI)) (ci := 0) (v := .ref qa_1) (ty := .array .byte) (C := RX0) (T := TX0) (N := 6) hx hb hts hi_0 tyX0 tyX0_ok nmX0 hown hK hP hD hS 0 rfl rfl 0 (by decide) (hts (.fieldLink RX0 9 "SegmentBox" "bytes" "[B") (by decide +kernel)) (fun _ h9 => h9) rfl hin rfl (by decide +kernel) rfl rfl (Nat.le_of_ble_eq_true rfl) dX0_init_9 (fun H locs hP hD hS => ?_)
  have hP : va_P (dC, dI) vwCl [(h0, .inr (0, [.ref qa_1, .long 0, .int 0, .int 0, .int 0, .int 0])), (qa_1, .inl (cB, 64, .inl (fun _ => 0)))] H := hP
  have hD : va_D A [(h0, .inr (0, [.ref qa_1, .long 0, .int 0, .int 0, .int 0, .int 0])), (qa_1, .inl (cB, 64, .inl (fun _ => 0)))] := hD
  refine lv_aload_n hx hb dX0_init_12 rfl (lv_at hl 0 rfl) ?_
  refine lv_lconst (v := 0) hx hb dX0_init_13 rfl ?_
  refine va_put (D := (dC, dI)) (ci := 0) (v := .long 0) (ty := .long) (C := RX0) (T := TX0) (N := 6) hx hb hts hi_0 tyX0 tyX0_ok nmX0 hown hK hP hD hS 0 rfl rfl 1 (by decide) (hts (.fieldLink RX0 13 "SegmentBox" "heldBits" "J") (by decide +kernel)) (fun _ h9 => h9) rfl (by decide +kernel) rfl rfl (Nat.le_of_ble_eq_true rfl) dX0_init_14 (fun H locs hP hD hS => ?_)
  have hP : va_P (dC, dI) vwCl [(h0, .inr (0, [.ref qa_1, .long 0, .int 0, .int 0, .int 0, .int 0])), (qa_1, .inl (cB, 64, .inl (fun _ => 0)))] H := hP
  have hD : va_D A [(h0, .inr (0, [.ref qa_1, .long 0, .int 0, .int 0, .int 0, .int 0])), (qa_1, .inl (cB, 64, .inl (fun _ => 0)))] := hD
  refine lv_aload_n hx hb dX0_init_17 rfl (lv_at hl 0 rfl) ?_
  refine lv_iconst (v := 0) hx hb dX0_init_18 (by decide) ?_
  refine va_put (D := (dC, dI)) (ci := 0) (v := .int 0) (ty := .int) (C := RX0) (T := TX0) (N := 6) hx hb hts hi_0 tyX0 tyX0_ok nmX0 hown hK hP hD hS 0 rfl rfl 2 (by decide) (hts (.fieldLink RX0 17 "SegmentBox" "next" "I") (by decide +kernel)) (fun _ h9 => h9) rfl (by decide +kernel) rfl rfl (Nat.le_of_ble_eq_true rfl) dX0_init_19 (fun H locs hP hD hS => ?_)
  have hP : va_P (dC, dI) vwCl [(h0, .inr (0, [.ref qa_1, .long 0, .int 0, .int 0, .int 0, .int 0])), (qa_1, .inl (cB, 64, .inl (fun _ => 0)))] H := hP
  have hD : va_D A [(h0, .inr (0, [.ref qa_1, .long 0, .int 0, .int 0, .int 0, .int 0])), (qa_1, .inl (cB, 64, .inl (fun _ => 0)))] := hD
  refine lv_aload_n hx hb dX0_init_22 rfl (lv_at hl 0 rfl) ?_
  refine lv_iconst (v := 0) hx hb dX0_init_23 (by decide) ?_
  refine va_put (D := (dC, dI)) (ci := 0) (v := .int 0) (ty := .int) (C := RX0) (T := TX0) (N := 6) hx hb hts hi_0 tyX0 tyX0_ok nmX0 hown hK hP hD hS 0 rfl rfl 3 (by decide) (hts (.fieldLink RX0 21 "SegmentBox" "unread" "I") (by decide +kernel)) (fun _ h9 => h9) rfl (by decide +kernel) rfl rfl (Nat.le_of_ble_eq_true rfl) dX0_init_24 (fun H locs hP hD hS => ?_)
  have hP : va_P (dC, dI) vwCl [(h0, .inr (0, [.ref qa_1, .long 0, .int 0, .int 0, .int 0, .int 0])), (qa_1, .inl (cB, 64, .inl (fun _ => 0)))] H := hP
  have hD : va_D A [(h0, .inr (0, [.ref qa_1, .long 0, .int 0, .int 0, .int 0, .int 0])), (qa_1, .inl (cB, 64, .inl (fun _ => 0)))] := hD
  refine lv_aload_n hx hb dX0_init_27 rfl (lv_at hl 0 rfl) ?_
  refine lv_iconst (v := 0) hx hb dX0_init_28 (by decide) ?_
  refine va_put (D := (dC, dI)) (ci := 0) (v := .int 0) (ty := .boolean) (C := RX0) (T := TX0) (N := 6) hx hb hts hi_0 tyX0 tyX0_ok nmX0 hown hK hP hD hS 0 rfl rfl 4 (by decide) (hts (.fieldLink RX0 24 "SegmentBox" "endKnown" "Z") (by decide +kernel)) (fun _ h9 => h9) rfl (by decide +kernel) rfl rfl (Nat.le_of_ble_eq_true rfl) dX0_init_29 (fun H locs hP hD hS => ?_)
  have hP : va_P (dC, dI) vwCl [(h0, .inr (0, [.ref qa_1, .long 0, .int 0, .int 0, .int 0, .int 0])), (qa_1, .inl (cB, 64, .inl (fun _ => 0)))] H := hP
  have hD : va_D A [(h0, .inr (0, [.ref qa_1, .long 0, .int 0, .int 0, .int 0, .int 0])), (qa_1, .inl (cB, 64, .inl (fun _ => 0)))] := hD
  refine lv_aload_n hx hb dX0_init_32 rfl (lv_at hl 0 rfl) ?_
  refine lv_iconst (v := 0) hx hb dX0_init_33 (by decide) ?_
  refine va_put (D := (dC, dI)) (ci := 0) (v := .int 0) (ty := .int) (C := RX0) (T := TX0) (N := 6) hx hb hts hi_0 tyX0 tyX0_ok nmX0 hown hK hP hD hS 0 rfl rfl 5 (by decide) (hts (.fieldLink RX0 28 "SegmentBox" "endNumber" "I") (by decide +kernel)) (fun _ h9 => h9) rfl (by decide +kernel) rfl rfl (Nat.le_of_ble_eq_true rfl) dX0_init_34 (fun H locs hP hD hS => ?_)
  have hP : va_P (dC, dI) vwCl [(h0, .inr (0, [.ref qa_1, .long 0, .int 0, .int 0, .int 0, .int 0])), (qa_1, .inl (cB, 64, .inl (fun _ => 0)))] H := hP
  have hD : va_D A [(h0, .inr (0, [.ref qa_1, .long 0, .int 0, .int 0, .int 0, .int 0])), (qa_1, .inl (cB, 64, .inl (fun _ => 0)))] := hD
  exact W.vret hx hb hr (fun t ht hW => ⟨⟨(qa_1, cB), rfl, trivial, by rw [ht]; exact hP, va_K.moved hW.alike hK, hD⟩, hS.F ht⟩) hS.2.2 dX0_init_37
end
section
set_option maxHeartbeats 4000000 in
set_option maxRecDepth 100000 in
theorem c_segment (l : Launch) (hst : l.stackTraces = false) (dC : Nat → ClassId) (dI : Nat → Nat → Nat) (h0 qb : Nat) (cB : ClassId) (kb : Int64) (nx un ek en : Int32) (fb : Nat → Int32) (n : Int32) (v : Int64) (k : Int32) (sz : Nat)  : vx_Met l yX0_segment wsX0_segment ({ frames := 6, cells := 1, slots := 6, locals := 81 }) (va_Pc [.ref h0, .int n, .long v, .int k] (fun U => U.heap.size = sz ∧ va_P (dC, dI) vwCl [(h0, .inr (0, [.ref qb, .long kb, .int nx, .int un, .int ek, .int en])), (qb, .inl (cB, 64, .inl fb))] U.heap ∧ va_K (dC, dI) vwCl [(cB, .byte)] U ∧ va_D (fun _ => True) [(h0, .inr (0, [.ref qb, .long kb, .int nx, .int un, .int ek, .int en])), (qb, .inl (cB, 64, .inl fb))] ∧ thr (va_A [(h0, .inr (0, [.ref qb, .long kb, .int nx, .int un, .int ek, .int en])), (qb, .inl (cB, 64, .inl fb))] sz) U U.heap)) (va_Qi (fun (r : Int32) (u : Int64 × Int32 × Int32 × (Nat → Int32)) => match u with | (kb', nx', un', fb') => ∃ (i j : Nat) (k9 : Int64), i ≤ 8 ∧ k = nI i ∧ (k9, fb') = c_sg nx un ek en n v i (kb, fb) ∧ j ≤ 64 ∧ (∀ i, i < j → sg_b k9 i = true) ∧ (j < 64 → sg_b k9 j = false) ∧ uN kb' = uN k9 / 2 ^ j ∧ r = nI j ∧ nx' = nx + nI j ∧ un' = un + nI j) (fun (u : Int64 × Int32 × Int32 × (Nat → Int32)) (t : State) => match u with | (kb', nx', un', fb') => va_P (dC, dI) vwCl [(h0, .inr (0, [.ref qb, .long kb', .int nx', .int un', .int ek, .int en])), (qb, .inl (cB, 64, .inl fb'))] t.heap ∧ va_K (dC, dI) vwCl [(cB, .byte)] t ∧ va_D (va_A [(h0, .inr (0, [.ref qb, .long kb, .int nx, .int un, .int ek, .int en])), (qb, .inl (cB, 64, .inl fb))] sz) [(h0, .inr (0, [.ref qb, .long kb', .int nx', .int un', .int ek, .int en])), (qb, .inl (cB, 64, .inl fb'))]) (va_A [(h0, .inr (0, [.ref qb, .long kb, .int nx, .int un, .int ek, .int en])), (qb, .inl (cB, 64, .inl fb))] sz)) (vx_X (fun (_ : Unit) => k < 0 ∨ 8 < k) (fun (E : String) (_ : Unit) (t : State) => E = "java/lang/IllegalArgumentException" ∧ va_P (dC, dI) vwCl [(h0, .inr (0, [.ref qb, .long kb, .int nx, .int un, .int ek, .int en])), (qb, .inl (cB, 64, .inl fb))] t.heap ∧ va_K (dC, dI) vwCl [(cB, .byte)] t ∧ va_D (va_A [(h0, .inr (0, [.ref qb, .long kb, .int nx, .int un, .int ek, .int en])), (qb, .inl (cB, 64, .inl fb))] sz) [(h0, .inr (0, [.ref qb, .long kb, .int nx, .int un, .int ek, .int en])), (qb, .inl (cB, 64, .inl fb))]) (va_A [(h0, .inr (0, [.ref qb, .long kb, .int nx, .int un, .int ek, .int en])), (qb, .inl (cB, 64, .inl fb))] sz)) 1 6 (va_A [(h0, .inr (0, [.ref qb, .long kb, .int nx, .int un, .int ek, .int en])), (qb, .inl (cB, 64, .inl fb))] sz) := by
  refine vx_ofW (cc := cX0_segment) (maxL := 6) (ret := (some .int)) (by decide) rfl ?_
  intro p e s m args below meth c s₁ B hml hex hv
  obtain ⟨rfl, hsz, hP, hK, hD0, hZ⟩ := hv
  have hx := B.exec
  have hb := B.bytes
  have hr := B.returns
  have hts := atoms_spec (ws := wsX0_segment) B.pre
  have hown : s.vm.findClass RX0 = some m.cls := findClass_of_methodNamed B.named
  have hlocks := B.notSynchronized
  subst hsz
  have hD := hD0.self (sz := s.heap.size)
  generalize hAe : va_A [(h0, .inr (0, [.ref qb, .long kb, .int nx, .int un, .int ek, .int en])), (qb, .inl (cB, 64, .inl fb))] s.heap.size = A at hD hZ ⊢
  have hA : ∀ q : Nat, s.heap.size ≤ q → A q := fun q h => by rw [← hAe]; exact Or.inr h
  have hS : va_S A s.heap s.heap [] := va_S.rf
  have hP : va_P (dC, dI) vwCl [(h0, .inr (0, [.ref qb, .long kb, .int nx, .int un, .int ek, .int en])), (qb, .inl (cB, 64, .inl fb))] s.heap := hP
  have hl := lv_entry ([.ref h0, .int n, .long v, .int k]) (n := 6) (Nat.le_of_ble_eq_true rfl)
  rw [lg_entry_eq]
  generalize (lg_sl ([.ref h0, .int n, .long v, .int k]) ++ List.replicate (6 - (lg_sl ([.ref h0, .int n, .long v, .int k])).length) Slot.unset).toArray = ls at hl ⊢
  have hl : lv_has ls 6 [(0, .ref h0), (1, .int n), (2, .long v), (4, .int k)] := hl
  have hi_0 : ∀ w ∈ u_ws RX0 TX0 6, w ∈ wsX0_segment := by decide +kernel
  refine lv_iload hx hb dX0_segment_0 (lv_at hl 3 rfl) ?_
  refine lv_if_lt (tgt := 12) hx hb dX0_segment_2 (by decide) (fun c_2 => ?_) (fun c_2 => ?_)
  · exact vx_throw0 (own := RX0) (cls := "java/lang/IllegalArgumentException") (names := ["java/lang/RuntimeException", "java/lang/Exception"]) (A := A) hx hb hst hown (by decide +kernel) (by decide +kernel) (hts (.classLink RX0 31 "java/lang/IllegalArgumentException") (by decide +kernel)) (hts (.initialized "java/lang/IllegalArgumentException") (by decide +kernel)) (vx_hat (L := vx_at0 RX0 33 "java/lang/IllegalArgumentException" ["java/lang/RuntimeException", "java/lang/Exception"]) (B := [.castable "java/lang/IllegalArgumentException" "java/lang/IllegalArgumentException", .declares ⟨"java/lang/RuntimeException", "<init>", "()V"⟩, .declares ⟨"java/lang/Exception", "<init>", "()V"⟩, .declares ⟨"java/lang/Throwable", "<init>", "()V"⟩]) (fun w hw => hts w ((by decide +kernel : ∀ w ∈ (vx_at0 RX0 33 "java/lang/IllegalArgumentException" ["java/lang/RuntimeException", "java/lang/Exception"]).filter goodWord, w ∈ wsX0_segment) w hw)) (by decide +kernel) (vx_c (va_Nw.use rfl hZ.2.2.1) (vx_c (va_Nw.use rfl hZ.2.2.2.2.1) (vx_c (va_Nw.use rfl hZ.2.2.2.2.2.1) (vx_c (va_Nw.use rfl hZ.2.2.2.2.2.2) vx_n))))) (by decide +kernel) hZ.1 hZ.2.1 hS (hl.1.trans hml.symm) dX0_segment_12 dX0_segment_15 dX0_segment_16 dX0_segment_19 (fun x hx9 => (hex x hx9).elim) (Nat.le_of_ble_eq_true rfl) (Nat.le_of_ble_eq_true rfl) (Nat.le_of_ble_eq_true rfl) (Nat.le_of_ble_eq_true rfl) hlocks (fun t hal hsz9 hq9 => ⟨(), Or.inl c_2, ⟨rfl, hP.kept (fun k x hx9 => hq9 x.1 ((hP k x hx9).lt)), va_K.moved hal hK, hD⟩, ⟨Nat.le_trans hS.1 hsz9, fun q h1 h2 => (hq9 q (Nat.lt_of_lt_of_le h1 hS.1)).trans (hS.2.1 q h1 h2)⟩⟩) hS.2.2 (Nat.le_of_ble_eq_true rfl) (Nat.le_of_ble_eq_true rfl)
  · refine lv_iload hx hb dX0_segment_5 (lv_at hl 3 rfl) ?_
    refine lv_bipush (v := 8) hx hb dX0_segment_7 (by decide) ?_
    refine lv_icmp_le (tgt := 20) hx hb dX0_segment_9 (by decide) (fun c_9 => ?_) (fun c_9 => ?_)
    · obtain ⟨i0, hi0, hk⟩ : ∃ i0 : Nat, i0 ≤ 8 ∧ k = nI i0 := nI_of2 (M := 8) (n := 8) (by decide) c_2 c_9
      have loop : ∀ (cnt j : Nat) (x9 : Int32) (k9 : Int64) (f9 : Nat → Int32), j + cnt = i0 → x9 = nI j → (k9, f9) = c_sg nx un ek en n v j (kb, fb) → ∀ (H : Heap) (locs : List Loc) (ls : Array Slot), va_P (dC, dI) vwCl [(h0, .inr (0, [.ref qb, .long k9, .int nx, .int un, .int ek, .int en])), (qb, .inl (cB, 64, .inl f9))] H → va_D A [(h0, .inr (0, [.ref qb, .long k9, .int nx, .int un, .int ek, .int en])), (qb, .inl (cB, 64, .inl f9))] → va_S A s.heap H locs → lv_has ls 6 [(5, .int x9), (0, .ref h0), (1, .int n), (2, .long v), (4, .int k)] → W p l e (headSpec wsX0_segment ({ frames := 6, cells := 1, slots := 6, locals := 81 })).room s m ([.ref h0, .int n, .long v, .int k] : List Value).toArray below meth c H locs 0 0 (vx_MQ below (va_Qi (fun (r : Int32) (u : Int64 × Int32 × Int32 × (Nat → Int32)) => match u with | (kb', nx', un', fb') => ∃ (i j : Nat) (k9 : Int64), i ≤ 8 ∧ k = nI i ∧ (k9, fb') = c_sg nx un ek en n v i (kb, fb) ∧ j ≤ 64 ∧ (∀ i, i < j → sg_b k9 i = true) ∧ (j < 64 → sg_b k9 j = false) ∧ uN kb' = uN k9 / 2 ^ j ∧ r = nI j ∧ nx' = nx + nI j ∧ un' = un + nI j) (fun (u : Int64 × Int32 × Int32 × (Nat → Int32)) (t : State) => match u with | (kb', nx', un', fb') => va_P (dC, dI) vwCl [(h0, .inr (0, [.ref qb, .long kb', .int nx', .int un', .int ek, .int en])), (qb, .inl (cB, 64, .inl fb'))] t.heap ∧ va_K (dC, dI) vwCl [(cB, .byte)] t ∧ va_D A [(h0, .inr (0, [.ref qb, .long kb', .int nx', .int un', .int ek, .int en])), (qb, .inl (cB, 64, .inl fb'))]) A) (vx_X (fun (_ : Unit) => k < 0 ∨ 8 < k) (fun (E : String) (_ : Unit) (t : State) => E = "java/lang/IllegalArgumentException" ∧ va_P (dC, dI) vwCl [(h0, .inr (0, [.ref qb, .long kb, .int nx, .int un, .int ek, .int en])), (qb, .inl (cB, 64, .inl fb))] t.heap ∧ va_K (dC, dI) vwCl [(cB, .byte)] t ∧ va_D A [(h0, .inr (0, [.ref qb, .long kb, .int nx, .int un, .int ek, .int en])), (qb, .inl (cB, 64, .inl fb))]) A) ([.ref h0, .int n, .long v, .int k] : List Value).toArray s 1 6 A) (F0 m 23 ls []) := by
        intro cnt
        induction cnt with
        | zero =>
          intro j x9 k9 f9 hj h1 h2 H locs ls hP hD hS hl
          refine lv_iload hx hb dX0_segment_23 (lv_at hl 0 rfl) ?_
          refine lv_iload hx hb dX0_segment_25 (lv_at hl 4 rfl) ?_
          refine lv_icmp_ge (tgt := 53) hx hb dX0_segment_27 (by decide) (fun c_27 => ?_) (fun c_27 => ?_)
          · refine lv_aload_n hx hb dX0_segment_53 rfl (lv_at hl 1 rfl) ?_
            have hPc := hP.sub (ws' := [(h0, .inr (0, [.ref qb, .long k9, .int nx, .int un, .int ek, .int en])), (qb, .inl (cB, 64, .inl f9))]) [0, 1] rfl
            have hDc := hD.sub (ws' := [(h0, .inr (0, [.ref qb, .long k9, .int nx, .int un, .int ek, .int en])), (qb, .inl (cB, 64, .inl f9))]) [0, 1] (by decide) rfl
            have hKc := hK.sub (tys' := [(cB, .byte)]) [0] rfl
            have hFc := va_free (wc := [(h0, .inr (0, [.ref qb, .long k9, .int nx, .int un, .int ek, .int en])), (qb, .inl (cB, 64, .inl f9))]) hD hS hA [0, 1] rfl
            refine va_calli (va_runV (As := []) (rest := []) ⟨hx, hb, hml, hown, hts⟩ (c_moveOn l dC dI h0 qb cB k9 nx un ek en f9 H.size ) (cwV 0 hts gX0_segment_X0_moveOn rfl rfl rfl (by decide +kernel) ⟨Nat.le_of_ble_eq_true rfl, Nat.le_of_ble_eq_true rfl⟩) ⟨fun a U g mk q => by obtain ⟨q0, q1, qP, qK, qD⟩ := q; exact ⟨q0, q1, qP, va_K.moved (u := U) (U := U.calling g mk a) (Vm.Alike.refl U.vm) qK, qD⟩, va_recv hKc hPc (ci := 0) (q0 := 0) rfl rfl, fun U hU hW => ⟨rfl, by rw [hU], by rw [hU]; exact hPc, va_K.moved hW.alike hKc, hDc.weaken (fun _ _ _ _ => trivial)⟩⟩ rfl rfl hl.1 rfl (lv_room (Nat.le_of_ble_eq_true rfl)) dX0_segment_54 ⟨(Nat.zero_le _), (Nat.zero_le _)⟩) hS (fun q _ h => hFc q h) hFc (fun r_1 u t H1 locs ht hvm hw_2 hB hz1 hk1 hS => ?_)
            obtain ⟨k7, n7, u7⟩ := u
            obtain ⟨hP1, hK1, hD1⟩ := hB
            rw [ht] at hP1
            have hK1 := va_K.moved hvm.symm hK1
            try dsimp only at hw_2
            obtain ⟨hP, hD⟩ := va_join (wr := []) (w1 := [(h0, .inr (0, [.ref qb, .long k7, .int n7, .int u7, .int ek, .int en])), (qb, .inl (cB, 64, .inl f9))]) hP hD [0, 1] [] rfl rfl (by decide) (by decide) hk1 hFc hP1 hD1
            generalize H1 = H at hP hS ⊢
            have hP : va_P (dC, dI) vwCl [(h0, .inr (0, [.ref qb, .long k7, .int n7, .int u7, .int ek, .int en])), (qb, .inl (cB, 64, .inl f9))] H := hP
            have hD : va_D A [(h0, .inr (0, [.ref qb, .long k7, .int n7, .int u7, .int ek, .int en])), (qb, .inl (cB, 64, .inl f9))] := hD
            obtain ⟨j7, m1, m2, m3, m4, m5, m6, m7⟩ := hw_2
            refine vx_ret ?_
            refine W.widen (k := 1) (n := 6) (by omega) (by omega) ?_
            exact W.iret (v := r_1) hx hb hr (fun t ht hW => ⟨⟨r_1, (k7, n7, u7, f9), rfl, ⟨i0, j7, k9, hi0, hk, by rw [h2, show j = i0 by omega], m1, m2, m3, m4, m5, m6, m7⟩, by rw [ht]; exact hP, va_K.moved hW.alike hK, hD⟩, hS.F ht⟩) hS.2.2 dX0_segment_57
          · exact absurd (by rw [hk, h1]; exact nI_le (by omega) (by omega)) c_27
        | succ cnt ih =>
          intro j x9 k9 f9 hj h1 h2 H locs ls hP hD hS hl
          refine lv_iload hx hb dX0_segment_23 (lv_at hl 0 rfl) ?_
          refine lv_iload hx hb dX0_segment_25 (lv_at hl 4 rfl) ?_
          refine lv_icmp_ge (tgt := 53) hx hb dX0_segment_27 (by decide) (fun c_27 => ?_) (fun c_27 => ?_)
          · exact absurd c_27 (by rw [hk, h1]; exact nI_ge (by omega) (by omega))
          · refine lv_aload_n hx hb dX0_segment_30 rfl (lv_at hl 1 rfl) ?_
            refine lv_iload_n hx hb dX0_segment_31 rfl (lv_at hl 2 rfl) ?_
            refine lv_iload hx hb dX0_segment_32 (lv_at hl 0 rfl) ?_
            refine lv_iadd hx hb dX0_segment_34 ?_
            refine lv_lload_n hx hb dX0_segment_35 rfl (lv_at hl 3 rfl) ?_
            refine lv_bipush (v := 8) hx hb dX0_segment_36 (by decide) ?_
            refine lv_iload hx hb dX0_segment_38 (lv_at hl 0 rfl) ?_
            refine lv_imul hx hb dX0_segment_40 ?_
            refine lv_lushr (v := g_sh v (8 * x9)) hx hb dX0_segment_41 rfl ?_
            refine lv_l2i (v := (g_sh v (8 * x9)).toInt32) hx hb dX0_segment_42 rfl ?_
            refine lv_i2b (v := ((g_sh v (8 * x9)).toInt32).toInt8.toInt32) hx hb dX0_segment_43 rfl ?_
            have hPc := hP.sub (ws' := [(h0, .inr (0, [.ref qb, .long k9, .int nx, .int un, .int ek, .int en])), (qb, .inl (cB, 64, .inl f9))]) [0, 1] rfl
            have hDc := hD.sub (ws' := [(h0, .inr (0, [.ref qb, .long k9, .int nx, .int un, .int ek, .int en])), (qb, .inl (cB, 64, .inl f9))]) [0, 1] (by decide) rfl
            have hKc := hK.sub (tys' := [(cB, .byte)]) [0] rfl
            have hFc := va_free (wc := [(h0, .inr (0, [.ref qb, .long k9, .int nx, .int un, .int ek, .int en])), (qb, .inl (cB, 64, .inl f9))]) hD hS hA [0, 1] rfl
            refine va_callv (va_runV (As := [.int (n + x9), .int (((g_sh v (8 * x9)).toInt32).toInt8.toInt32)]) (rest := []) ⟨hx, hb, hml, hown, hts⟩ (c_takeByte l dC dI h0 qb cB k9 nx un ek en f9 (n + x9) ((g_sh v (8 * x9)).toInt32.toInt8.toInt32) H.size ) (cwV 2 hts gX0_segment_X0_takeByte rfl rfl rfl (by decide +kernel) ⟨Nat.le_of_ble_eq_true rfl, Nat.le_of_ble_eq_true rfl⟩) ⟨fun a U g mk q => by obtain ⟨q0, q1, qP, qK, qD⟩ := q; exact ⟨q0, q1, qP, va_K.moved (u := U) (U := U.calling g mk a) (Vm.Alike.refl U.vm) qK, qD⟩, va_recv hKc hPc (ci := 0) (q0 := 0) rfl rfl, fun U hU hW => ⟨rfl, by rw [hU], by rw [hU]; exact hPc, va_K.moved hW.alike hKc, hDc.weaken (fun _ _ _ _ => trivial)⟩⟩ rfl rfl hl.1 rfl (lv_room (Nat.le_of_ble_eq_true rfl)) dX0_segment_44 ⟨(Nat.zero_le _), (Nat.zero_le _)⟩) hS (fun q _ h => hFc q h) hFc (fun u t H1 locs ht hvm hw_4 hB hz1 hk1 hS => ?_)
            obtain ⟨k8, f8⟩ := u
            obtain ⟨hP1, hK1, hD1⟩ := hB
            rw [ht] at hP1
            have hK1 := va_K.moved hvm.symm hK1
            try dsimp only at hw_4
            obtain ⟨hP, hD⟩ := va_join (wr := []) (w1 := [(h0, .inr (0, [.ref qb, .long k8, .int nx, .int un, .int ek, .int en])), (qb, .inl (cB, 64, .inl f8))]) hP hD [0, 1] [] rfl rfl (by decide) (by decide) hk1 hFc hP1 hD1
            generalize H1 = H at hP hS ⊢
            have hP : va_P (dC, dI) vwCl [(h0, .inr (0, [.ref qb, .long k8, .int nx, .int un, .int ek, .int en])), (qb, .inl (cB, 64, .inl f8))] H := hP
            have hD : va_D A [(h0, .inr (0, [.ref qb, .long k8, .int nx, .int un, .int ek, .int en])), (qb, .inl (cB, 64, .inl f8))] := hD
            obtain ⟨x_5, ex_5⟩ : ∃ y : Int32, y = x9 + 1 := ⟨_, rfl⟩
            refine lv_iinc (v := x_5) (lv' := [(5, .int x_5), (0, .ref h0), (1, .int n), (2, .long v), (4, .int k)]) hx hb dX0_segment_47 hl (k := 0) rfl (by rw [ex_5]; rfl) (by decide) rfl (fun ls hl => ?_)
            refine lv_goto (tgt := 23) hx hb dX0_segment_50 (by decide) ?_
            exact ih (j + 1) x_5 k8 f8 (by omega) (by rw [ex_5, h1, nI_succ]) (by rw [hw_4, h1, h2]; rfl) H locs ls hP hD hS (lv_sub hl [0, 1, 2, 3, 4] rfl)
      refine lv_iconst (v := 0) hx hb dX0_segment_20 (by decide) ?_
      refine lv_istore (lv' := [(5, .int 0), (0, .ref h0), (1, .int n), (2, .long v), (4, .int k)]) hx hb dX0_segment_21 hl (by decide) rfl (fun ls hl => ?_)
      exact loop i0 0 0 kb fb (by omega) nI_0.symm rfl s.heap [] ls hP hD hS (lv_sub hl [0, 1, 2, 3, 4] rfl)
    · exact vx_throw0 (own := RX0) (cls := "java/lang/IllegalArgumentException") (names := ["java/lang/RuntimeException", "java/lang/Exception"]) (A := A) hx hb hst hown (by decide +kernel) (by decide +kernel) (hts (.classLink RX0 31 "java/lang/IllegalArgumentException") (by decide +kernel)) (hts (.initialized "java/lang/IllegalArgumentException") (by decide +kernel)) (vx_hat (L := vx_at0 RX0 33 "java/lang/IllegalArgumentException" ["java/lang/RuntimeException", "java/lang/Exception"]) (B := [.castable "java/lang/IllegalArgumentException" "java/lang/IllegalArgumentException", .declares ⟨"java/lang/RuntimeException", "<init>", "()V"⟩, .declares ⟨"java/lang/Exception", "<init>", "()V"⟩, .declares ⟨"java/lang/Throwable", "<init>", "()V"⟩]) (fun w hw => hts w ((by decide +kernel : ∀ w ∈ (vx_at0 RX0 33 "java/lang/IllegalArgumentException" ["java/lang/RuntimeException", "java/lang/Exception"]).filter goodWord, w ∈ wsX0_segment) w hw)) (by decide +kernel) (vx_c (va_Nw.use rfl hZ.2.2.1) (vx_c (va_Nw.use rfl hZ.2.2.2.2.1) (vx_c (va_Nw.use rfl hZ.2.2.2.2.2.1) (vx_c (va_Nw.use rfl hZ.2.2.2.2.2.2) vx_n))))) (by decide +kernel) hZ.1 hZ.2.1 hS (hl.1.trans hml.symm) dX0_segment_12 dX0_segment_15 dX0_segment_16 dX0_segment_19 (fun x hx9 => (hex x hx9).elim) (Nat.le_of_ble_eq_true rfl) (Nat.le_of_ble_eq_true rfl) (Nat.le_of_ble_eq_true rfl) (Nat.le_of_ble_eq_true rfl) hlocks (fun t hal hsz9 hq9 => ⟨(), Or.inr (Int32.not_le.mp c_9), ⟨rfl, hP.kept (fun k x hx9 => hq9 x.1 ((hP k x hx9).lt)), va_K.moved hal hK, hD⟩, ⟨Nat.le_trans hS.1 hsz9, fun q h1 h2 => (hq9 q (Nat.lt_of_lt_of_le h1 hS.1)).trans (hS.2.1 q h1 h2)⟩⟩) hS.2.2 (Nat.le_of_ble_eq_true rfl) (Nat.le_of_ble_eq_true rfl)
end
section
theorem sw6 {n : Int32} (h1 : ¬ n.toInt < 0) (h2 : ¬ 5 < n.toInt) : n = 0 ∨ n = 1 ∨ n = 2 ∨ n = 3 ∨ n = 4 ∨ n = 5 := by
  have h : n.toInt = 0 ∨ n.toInt = 1 ∨ n.toInt = 2 ∨ n.toInt = 3 ∨ n.toInt = 4 ∨ n.toInt = 5 := by omega
  rcases h with h | h | h | h | h | h
  · exact Or.inl (Int32.toInt_inj.mp h)
  · exact Or.inr (Or.inl (Int32.toInt_inj.mp h))
  · exact Or.inr (Or.inr (Or.inl (Int32.toInt_inj.mp h)))
  · exact Or.inr (Or.inr (Or.inr (Or.inl (Int32.toInt_inj.mp h))))
  · exact Or.inr (Or.inr (Or.inr (Or.inr (Or.inl (Int32.toInt_inj.mp h)))))
  · exact Or.inr (Or.inr (Or.inr (Or.inr (Or.inr (Int32.toInt_inj.mp h)))))
set_option maxHeartbeats 4000000 in
set_option maxRecDepth 100000 in
theorem c_told (l : Launch) (hst : l.stackTraces = false) (dC : Nat → ClassId) (dI : Nat → Nat → Nat) (h0 qb : Nat) (cB : ClassId) (kb : Int64) (nx un ek en : Int32) (fb : Nat → Int32) (n : Int32) (sz : Nat)  : vx_Met l yX0_told wsX0_told ({ frames := 6, cells := 1, slots := 6, locals := 81 }) (va_Pc [.ref h0, .int n] (fun U => U.heap.size = sz ∧ va_P (dC, dI) vwCl [(h0, .inr (0, [.ref qb, .long kb, .int nx, .int un, .int ek, .int en])), (qb, .inl (cB, 64, .inl fb))] U.heap ∧ va_K (dC, dI) vwCl [(cB, .byte)] U ∧ va_D (fun _ => True) [(h0, .inr (0, [.ref qb, .long kb, .int nx, .int un, .int ek, .int en])), (qb, .inl (cB, 64, .inl fb))] ∧ thr (va_A [(h0, .inr (0, [.ref qb, .long kb, .int nx, .int un, .int ek, .int en])), (qb, .inl (cB, 64, .inl fb))] sz) U U.heap)) (va_Qi (fun (r : Int32) (u : Unit) => match u with | () => (n = 0 ∧ r = nx) ∨ (n = 1 ∧ r = 64 - un) ∨ (n = 2 ∧ r = un) ∨ (n = 3 ∧ r = g_bc kb) ∨ (n = 4 ∧ r = g_bc (c_st kb)) ∨ (n = 5 ∧ r = (if ek = 0 then 0 else 1))) (fun (u : Unit) (t : State) => match u with | () => va_P (dC, dI) vwCl [(h0, .inr (0, [.ref qb, .long kb, .int nx, .int un, .int ek, .int en])), (qb, .inl (cB, 64, .inl fb))] t.heap ∧ va_K (dC, dI) vwCl [(cB, .byte)] t ∧ va_D (va_A [(h0, .inr (0, [.ref qb, .long kb, .int nx, .int un, .int ek, .int en])), (qb, .inl (cB, 64, .inl fb))] sz) [(h0, .inr (0, [.ref qb, .long kb, .int nx, .int un, .int ek, .int en])), (qb, .inl (cB, 64, .inl fb))]) (va_A [(h0, .inr (0, [.ref qb, .long kb, .int nx, .int un, .int ek, .int en])), (qb, .inl (cB, 64, .inl fb))] sz)) (vx_X (fun (_ : Unit) => n.toInt < 0 ∨ 5 < n.toInt) (fun (E : String) (_ : Unit) (t : State) => E = "java/lang/IllegalArgumentException" ∧ va_P (dC, dI) vwCl [(h0, .inr (0, [.ref qb, .long kb, .int nx, .int un, .int ek, .int en])), (qb, .inl (cB, 64, .inl fb))] t.heap ∧ va_K (dC, dI) vwCl [(cB, .byte)] t ∧ va_D (va_A [(h0, .inr (0, [.ref qb, .long kb, .int nx, .int un, .int ek, .int en])), (qb, .inl (cB, 64, .inl fb))] sz) [(h0, .inr (0, [.ref qb, .long kb, .int nx, .int un, .int ek, .int en])), (qb, .inl (cB, 64, .inl fb))]) (va_A [(h0, .inr (0, [.ref qb, .long kb, .int nx, .int un, .int ek, .int en])), (qb, .inl (cB, 64, .inl fb))] sz)) 1 6 (va_A [(h0, .inr (0, [.ref qb, .long kb, .int nx, .int un, .int ek, .int en])), (qb, .inl (cB, 64, .inl fb))] sz) := by
  refine vx_ofW (cc := cX0_told) (maxL := 2) (ret := (some .int)) (by decide) rfl ?_
  intro p e s m args below meth c s₁ B hml hex hv
  obtain ⟨rfl, hsz, hP, hK, hD0, hZ⟩ := hv
  have hx := B.exec
  have hb := B.bytes
  have hr := B.returns
  have hts := atoms_spec (ws := wsX0_told) B.pre
  have hown : s.vm.findClass RX0 = some m.cls := findClass_of_methodNamed B.named
  have hlocks := B.notSynchronized
  subst hsz
  have hD := hD0.self (sz := s.heap.size)
  generalize hAe : va_A [(h0, .inr (0, [.ref qb, .long kb, .int nx, .int un, .int ek, .int en])), (qb, .inl (cB, 64, .inl fb))] s.heap.size = A at hD hZ ⊢
  have hA : ∀ q : Nat, s.heap.size ≤ q → A q := fun q h => by rw [← hAe]; exact Or.inr h
  have hS : va_S A s.heap s.heap [] := va_S.rf
  have hP : va_P (dC, dI) vwCl [(h0, .inr (0, [.ref qb, .long kb, .int nx, .int un, .int ek, .int en])), (qb, .inl (cB, 64, .inl fb))] s.heap := hP
  have hl := lv_entry ([.ref h0, .int n]) (n := 2) (Nat.le_of_ble_eq_true rfl)
  rw [lg_entry_eq]
  generalize (lg_sl ([.ref h0, .int n]) ++ List.replicate (2 - (lg_sl ([.ref h0, .int n])).length) Slot.unset).toArray = ls at hl ⊢
  have hl : lv_has ls 2 [(0, .ref h0), (1, .int n)] := hl
  have hi_0 : ∀ w ∈ u_ws RX0 TX0 6, w ∈ wsX0_told := by decide +kernel
  refine lv_iload_n hx hb dX0_told_0 rfl (lv_at hl 1 rfl) ?_
  by_cases c_lo : n.toInt < 0
  · refine lv_tableOut (tgt := 84) hx hb dX0_told_1 (Or.inl c_lo) (by decide) ?_
    exact vx_throw0 (own := RX0) (cls := "java/lang/IllegalArgumentException") (names := ["java/lang/RuntimeException", "java/lang/Exception"]) (A := A) hx hb hst hown (by decide +kernel) (by decide +kernel) (hts (.classLink RX0 31 "java/lang/IllegalArgumentException") (by decide +kernel)) (hts (.initialized "java/lang/IllegalArgumentException") (by decide +kernel)) (vx_hat (L := vx_at0 RX0 33 "java/lang/IllegalArgumentException" ["java/lang/RuntimeException", "java/lang/Exception"]) (B := [.castable "java/lang/IllegalArgumentException" "java/lang/IllegalArgumentException", .declares ⟨"java/lang/RuntimeException", "<init>", "()V"⟩, .declares ⟨"java/lang/Exception", "<init>", "()V"⟩, .declares ⟨"java/lang/Throwable", "<init>", "()V"⟩]) (fun w hw => hts w ((by decide +kernel : ∀ w ∈ (vx_at0 RX0 33 "java/lang/IllegalArgumentException" ["java/lang/RuntimeException", "java/lang/Exception"]).filter goodWord, w ∈ wsX0_told) w hw)) (by decide +kernel) (vx_c (va_Nw.use rfl hZ.2.2.1) (vx_c (va_Nw.use rfl hZ.2.2.2.2.1) (vx_c (va_Nw.use rfl hZ.2.2.2.2.2.1) (vx_c (va_Nw.use rfl hZ.2.2.2.2.2.2) vx_n))))) (by decide +kernel) hZ.1 hZ.2.1 hS (hl.1.trans hml.symm) dX0_told_84 dX0_told_87 dX0_told_88 dX0_told_91 (fun x hx9 => (hex x hx9).elim) (Nat.le_of_ble_eq_true rfl) (Nat.le_of_ble_eq_true rfl) (Nat.le_of_ble_eq_true rfl) (Nat.le_of_ble_eq_true rfl) hlocks (fun t hal hsz9 hq9 => ⟨(), Or.inl c_lo, ⟨rfl, hP.kept (fun k x hx9 => hq9 x.1 ((hP k x hx9).lt)), va_K.moved hal hK, hD⟩, ⟨Nat.le_trans hS.1 hsz9, fun q h1 h2 => (hq9 q (Nat.lt_of_lt_of_le h1 hS.1)).trans (hS.2.1 q h1 h2)⟩⟩) hS.2.2 (Nat.le_of_ble_eq_true rfl) (Nat.le_of_ble_eq_true rfl)
  by_cases c_hi : 5 < n.toInt
  · refine lv_tableOut (tgt := 84) hx hb dX0_told_1 (Or.inr c_hi) (by decide) ?_
    exact vx_throw0 (own := RX0) (cls := "java/lang/IllegalArgumentException") (names := ["java/lang/RuntimeException", "java/lang/Exception"]) (A := A) hx hb hst hown (by decide +kernel) (by decide +kernel) (hts (.classLink RX0 31 "java/lang/IllegalArgumentException") (by decide +kernel)) (hts (.initialized "java/lang/IllegalArgumentException") (by decide +kernel)) (vx_hat (L := vx_at0 RX0 33 "java/lang/IllegalArgumentException" ["java/lang/RuntimeException", "java/lang/Exception"]) (B := [.castable "java/lang/IllegalArgumentException" "java/lang/IllegalArgumentException", .declares ⟨"java/lang/RuntimeException", "<init>", "()V"⟩, .declares ⟨"java/lang/Exception", "<init>", "()V"⟩, .declares ⟨"java/lang/Throwable", "<init>", "()V"⟩]) (fun w hw => hts w ((by decide +kernel : ∀ w ∈ (vx_at0 RX0 33 "java/lang/IllegalArgumentException" ["java/lang/RuntimeException", "java/lang/Exception"]).filter goodWord, w ∈ wsX0_told) w hw)) (by decide +kernel) (vx_c (va_Nw.use rfl hZ.2.2.1) (vx_c (va_Nw.use rfl hZ.2.2.2.2.1) (vx_c (va_Nw.use rfl hZ.2.2.2.2.2.1) (vx_c (va_Nw.use rfl hZ.2.2.2.2.2.2) vx_n))))) (by decide +kernel) hZ.1 hZ.2.1 hS (hl.1.trans hml.symm) dX0_told_84 dX0_told_87 dX0_told_88 dX0_told_91 (fun x hx9 => (hex x hx9).elim) (Nat.le_of_ble_eq_true rfl) (Nat.le_of_ble_eq_true rfl) (Nat.le_of_ble_eq_true rfl) (Nat.le_of_ble_eq_true rfl) hlocks (fun t hal hsz9 hq9 => ⟨(), Or.inr c_hi, ⟨rfl, hP.kept (fun k x hx9 => hq9 x.1 ((hP k x hx9).lt)), va_K.moved hal hK, hD⟩, ⟨Nat.le_trans hS.1 hsz9, fun q h1 h2 => (hq9 q (Nat.lt_of_lt_of_le h1 hS.1)).trans (hS.2.1 q h1 h2)⟩⟩) hS.2.2 (Nat.le_of_ble_eq_true rfl) (Nat.le_of_ble_eq_true rfl)
  have hn6 : n = 0 ∨ n = 1 ∨ n = 2 ∨ n = 3 ∨ n = 4 ∨ n = 5 := sw6 c_lo c_hi
  rcases hn6 with e6 | e6 | e6 | e6 | e6 | e6
  · refine lv_tableIn (off := 39) (tgt := 40) hx hb dX0_told_1 c_lo c_hi (by rw [e6]; decide) (by decide) ?_
    refine lv_aload_n hx hb dX0_told_40 rfl (lv_at hl 0 rfl) ?_
    refine va_get (D := (dC, dI)) (ci := 0) (v := .int nx) (C := RX0) (T := TX0) (N := 6) hx hb hts hi_0 hown hK hP 0 rfl rfl 2 (by decide) (hts (.fieldLink RX0 17 "SegmentBox" "next" "I") (by decide +kernel)) (fun _ h9 => h9) rfl dX0_told_41 ?_
    refine vx_ret ?_
    refine W.widen (k := 1) (n := 6) (by omega) (by omega) ?_
    exact W.iret (v := nx) hx hb hr (fun t ht hW => ⟨⟨nx, (), rfl, Or.inl ⟨e6, rfl⟩, by rw [ht]; exact hP, va_K.moved hW.alike hK, hD⟩, hS.F ht⟩) hS.2.2 dX0_told_44
  · refine lv_tableIn (off := 44) (tgt := 45) hx hb dX0_told_1 c_lo c_hi (by rw [e6]; decide) (by decide) ?_
    refine lv_aload_n hx hb dX0_told_45 rfl (lv_at hl 0 rfl) ?_
    have hPc := hP.sub (ws' := [(h0, .inr (0, [.ref qb, .long kb, .int nx, .int un, .int ek, .int en])), (qb, .inl (cB, 64, .inl fb))]) [0, 1] rfl
    have hDc := hD.sub (ws' := [(h0, .inr (0, [.ref qb, .long kb, .int nx, .int un, .int ek, .int en])), (qb, .inl (cB, 64, .inl fb))]) [0, 1] (by decide) rfl
    have hKc := hK.sub (tys' := [(cB, .byte)]) [0] rfl
    have hFc := va_free (wc := [(h0, .inr (0, [.ref qb, .long kb, .int nx, .int un, .int ek, .int en])), (qb, .inl (cB, 64, .inl fb))]) hD hS hA [0, 1] rfl
    refine va_calli (va_runV (As := []) (rest := []) ⟨hx, hb, hml, hown, hts⟩ (c_window l dC dI h0 qb cB kb nx un ek en fb s.heap.size ) (cwV 0 hts gX0_told_X0_window rfl rfl rfl (by decide +kernel) ⟨Nat.le_of_ble_eq_true rfl, Nat.le_of_ble_eq_true rfl⟩) ⟨fun a U g mk q => by obtain ⟨q0, q1, qP, qK, qD⟩ := q; exact ⟨q0, q1, qP, va_K.moved (u := U) (U := U.calling g mk a) (Vm.Alike.refl U.vm) qK, qD⟩, va_recv hKc hPc (ci := 0) (q0 := 0) rfl rfl, fun U hU hW => ⟨rfl, by rw [hU], by rw [hU]; exact hPc, va_K.moved hW.alike hKc, hDc.weaken (fun _ _ _ _ => trivial)⟩⟩ rfl rfl hl.1 rfl (lv_room (Nat.le_of_ble_eq_true rfl)) dX0_told_46 ⟨(Nat.zero_le _), (Nat.zero_le _)⟩) hS (fun q _ h => hFc q h) hFc (fun r_1 u t H1 locs ht hvm hw_2 hB hz1 hk1 hS => ?_)
    obtain ⟨hP1, hK1, hD1⟩ := hB
    rw [ht] at hP1
    have hK1 := va_K.moved hvm.symm hK1
    try dsimp only at hw_2
    obtain ⟨hP, hD⟩ := va_join (wr := []) (w1 := [(h0, .inr (0, [.ref qb, .long kb, .int nx, .int un, .int ek, .int en])), (qb, .inl (cB, 64, .inl fb))]) hP hD [0, 1] [] rfl rfl (by decide) (by decide) hk1 hFc hP1 hD1
    generalize H1 = H at hP hS ⊢
    have hP : va_P (dC, dI) vwCl [(h0, .inr (0, [.ref qb, .long kb, .int nx, .int un, .int ek, .int en])), (qb, .inl (cB, 64, .inl fb))] H := hP
    have hD : va_D A [(h0, .inr (0, [.ref qb, .long kb, .int nx, .int un, .int ek, .int en])), (qb, .inl (cB, 64, .inl fb))] := hD
    subst hw_2
    refine vx_ret ?_
    refine W.widen (k := 1) (n := 6) (by omega) (by omega) ?_
    exact W.iret (v := 64 - un) hx hb hr (fun t ht hW => ⟨⟨64 - un, (), rfl, Or.inr (Or.inl ⟨e6, rfl⟩), by rw [ht]; exact hP, va_K.moved hW.alike hK, hD⟩, hS.F ht⟩) hS.2.2 dX0_told_49
  · refine lv_tableIn (off := 49) (tgt := 50) hx hb dX0_told_1 c_lo c_hi (by rw [e6]; decide) (by decide) ?_
    refine lv_aload_n hx hb dX0_told_50 rfl (lv_at hl 0 rfl) ?_
    refine va_get (D := (dC, dI)) (ci := 0) (v := .int un) (C := RX0) (T := TX0) (N := 6) hx hb hts hi_0 hown hK hP 0 rfl rfl 3 (by decide) (hts (.fieldLink RX0 21 "SegmentBox" "unread" "I") (by decide +kernel)) (fun _ h9 => h9) rfl dX0_told_51 ?_
    refine vx_ret ?_
    refine W.widen (k := 1) (n := 6) (by omega) (by omega) ?_
    exact W.iret (v := un) hx hb hr (fun t ht hW => ⟨⟨un, (), rfl, Or.inr (Or.inr (Or.inl ⟨e6, rfl⟩)), by rw [ht]; exact hP, va_K.moved hW.alike hK, hD⟩, hS.F ht⟩) hS.2.2 dX0_told_54
  · refine lv_tableIn (off := 54) (tgt := 55) hx hb dX0_told_1 c_lo c_hi (by rw [e6]; decide) (by decide) ?_
    refine lv_aload_n hx hb dX0_told_55 rfl (lv_at hl 0 rfl) ?_
    refine va_get (D := (dC, dI)) (ci := 0) (v := .long kb) (C := RX0) (T := TX0) (N := 6) hx hb hts hi_0 hown hK hP 0 rfl rfl 1 (by decide) (hts (.fieldLink RX0 13 "SegmentBox" "heldBits" "J") (by decide +kernel)) (fun _ h9 => h9) rfl dX0_told_56 ?_
    have hPc := hP.sub (ws' := []) [] rfl
    have hDc := hD.sub (ws' := []) [] (by decide) rfl
    have hKc := hK.sub (tys' := []) [] rfl
    have hFc := va_free (wc := []) hD hS hA [] rfl
    refine va_calli (va_runS (As := [.long kb]) (rest := []) ⟨hx, hb, hml, hown, hts⟩ (c_bitCount l dC dI kb s.heap.size ) (va_cwS 1 hts gX0_told_J13_bitCount_95d88 rfl rfl rfl (by decide +kernel) ⟨Nat.le_of_ble_eq_true rfl, Nat.le_of_ble_eq_true rfl⟩) ⟨fun a U g mk q => by obtain ⟨q0, q1, qP, qK, qD⟩ := q; exact ⟨q0, q1, qP, va_K.moved (u := U) (U := U.calling g mk a) (Vm.Alike.refl U.vm) qK, qD⟩, fun U hU hW => ⟨rfl, by rw [hU], by rw [hU]; exact hPc, va_K.moved hW.alike hKc, hDc.weaken (fun _ _ _ _ => trivial)⟩⟩ rfl rfl hl.1 rfl (lv_room (Nat.le_of_ble_eq_true rfl)) dX0_told_59 ⟨(Nat.zero_le _), (Nat.zero_le _)⟩) hS (fun q _ h => hFc q h) hFc (fun r_3 u t H1 locs ht hvm hw_4 hB hz1 hk1 hS => ?_)
    obtain ⟨hP1, hK1, hD1⟩ := hB
    rw [ht] at hP1
    have hK1 := va_K.moved hvm.symm hK1
    try dsimp only at hw_4
    obtain ⟨hP, hD⟩ := va_join (wr := [(h0, .inr (0, [.ref qb, .long kb, .int nx, .int un, .int ek, .int en])), (qb, .inl (cB, 64, .inl fb))]) (w1 := []) hP hD [] [0, 1] rfl rfl (by decide) (by decide) hk1 hFc hP1 hD1
    generalize H1 = H at hP hS ⊢
    have hP : va_P (dC, dI) vwCl [(h0, .inr (0, [.ref qb, .long kb, .int nx, .int un, .int ek, .int en])), (qb, .inl (cB, 64, .inl fb))] H := hP
    have hD : va_D A [(h0, .inr (0, [.ref qb, .long kb, .int nx, .int un, .int ek, .int en])), (qb, .inl (cB, 64, .inl fb))] := hD
    subst hw_4
    refine vx_ret ?_
    refine W.widen (k := 1) (n := 6) (by omega) (by omega) ?_
    exact W.iret (v := g_bc kb) hx hb hr (fun t ht hW => ⟨⟨g_bc kb, (), rfl, Or.inr (Or.inr (Or.inr (Or.inl ⟨e6, rfl⟩))), by rw [ht]; exact hP, va_K.moved hW.alike hK, hD⟩, hS.F ht⟩) hS.2.2 dX0_told_62
  · refine lv_tableIn (off := 62) (tgt := 63) hx hb dX0_told_1 c_lo c_hi (by rw [e6]; decide) (by decide) ?_
    refine lv_aload_n hx hb dX0_told_63 rfl (lv_at hl 0 rfl) ?_
    have hPc := hP.sub (ws' := [(h0, .inr (0, [.ref qb, .long kb, .int nx, .int un, .int ek, .int en])), (qb, .inl (cB, 64, .inl fb))]) [0, 1] rfl
    have hDc := hD.sub (ws' := [(h0, .inr (0, [.ref qb, .long kb, .int nx, .int un, .int ek, .int en])), (qb, .inl (cB, 64, .inl fb))]) [0, 1] (by decide) rfl
    have hKc := hK.sub (tys' := [(cB, .byte)]) [0] rfl
    have hFc := va_free (wc := [(h0, .inr (0, [.ref qb, .long kb, .int nx, .int un, .int ek, .int en])), (qb, .inl (cB, 64, .inl fb))]) hD hS hA [0, 1] rfl
    refine va_calll (va_runV (As := []) (rest := []) ⟨hx, hb, hml, hown, hts⟩ (c_blockStarts l dC dI h0 qb cB kb nx un ek en fb s.heap.size ) (cwV 0 hts gX0_told_X0_blockStarts rfl rfl rfl (by decide +kernel) ⟨Nat.le_of_ble_eq_true rfl, Nat.le_of_ble_eq_true rfl⟩) ⟨fun a U g mk q => by obtain ⟨q0, q1, qP, qK, qD⟩ := q; exact ⟨q0, q1, qP, va_K.moved (u := U) (U := U.calling g mk a) (Vm.Alike.refl U.vm) qK, qD⟩, va_recv hKc hPc (ci := 0) (q0 := 0) rfl rfl, fun U hU hW => ⟨rfl, by rw [hU], by rw [hU]; exact hPc, va_K.moved hW.alike hKc, hDc.weaken (fun _ _ _ _ => trivial)⟩⟩ rfl rfl hl.1 rfl (lv_room (Nat.le_of_ble_eq_true rfl)) dX0_told_64 ⟨(Nat.zero_le _), (Nat.zero_le _)⟩) hS (fun q _ h => hFc q h) hFc (fun r_5 u t H1 locs ht hvm hw_6 hB hz1 hk1 hS => ?_)
    obtain ⟨hP1, hK1, hD1⟩ := hB
    rw [ht] at hP1
    have hK1 := va_K.moved hvm.symm hK1
    try dsimp only at hw_6
    obtain ⟨hP, hD⟩ := va_join (wr := []) (w1 := [(h0, .inr (0, [.ref qb, .long kb, .int nx, .int un, .int ek, .int en])), (qb, .inl (cB, 64, .inl fb))]) hP hD [0, 1] [] rfl rfl (by decide) (by decide) hk1 hFc hP1 hD1
    generalize H1 = H at hP hS ⊢
    have hP : va_P (dC, dI) vwCl [(h0, .inr (0, [.ref qb, .long kb, .int nx, .int un, .int ek, .int en])), (qb, .inl (cB, 64, .inl fb))] H := hP
    have hD : va_D A [(h0, .inr (0, [.ref qb, .long kb, .int nx, .int un, .int ek, .int en])), (qb, .inl (cB, 64, .inl fb))] := hD
    subst hw_6
    have hPc := hP.sub (ws' := []) [] rfl
    have hDc := hD.sub (ws' := []) [] (by decide) rfl
    have hKc := hK.sub (tys' := []) [] rfl
    have hFc := va_free (wc := []) hD hS hA [] rfl
    refine va_calli (va_runS (As := [.long (c_st kb)]) (rest := []) ⟨hx, hb, hml, hown, hts⟩ (c_bitCount l dC dI (c_st kb) H.size ) (va_cwS 1 hts gX0_told_J13_bitCount_95d88 rfl rfl rfl (by decide +kernel) ⟨Nat.le_of_ble_eq_true rfl, Nat.le_of_ble_eq_true rfl⟩) ⟨fun a U g mk q => by obtain ⟨q0, q1, qP, qK, qD⟩ := q; exact ⟨q0, q1, qP, va_K.moved (u := U) (U := U.calling g mk a) (Vm.Alike.refl U.vm) qK, qD⟩, fun U hU hW => ⟨rfl, by rw [hU], by rw [hU]; exact hPc, va_K.moved hW.alike hKc, hDc.weaken (fun _ _ _ _ => trivial)⟩⟩ rfl rfl hl.1 rfl (lv_room (Nat.le_of_ble_eq_true rfl)) dX0_told_67 ⟨(Nat.zero_le _), (Nat.zero_le _)⟩) hS (fun q _ h => hFc q h) hFc (fun r_7 u t H1 locs ht hvm hw_8 hB hz1 hk1 hS => ?_)
    obtain ⟨hP1, hK1, hD1⟩ := hB
    rw [ht] at hP1
    have hK1 := va_K.moved hvm.symm hK1
    try dsimp only at hw_8
    obtain ⟨hP, hD⟩ := va_join (wr := [(h0, .inr (0, [.ref qb, .long kb, .int nx, .int un, .int ek, .int en])), (qb, .inl (cB, 64, .inl fb))]) (w1 := []) hP hD [] [0, 1] rfl rfl (by decide) (by decide) hk1 hFc hP1 hD1
    generalize H1 = H at hP hS ⊢
    have hP : va_P (dC, dI) vwCl [(h0, .inr (0, [.ref qb, .long kb, .int nx, .int un, .int ek, .int en])), (qb, .inl (cB, 64, .inl fb))] H := hP
    have hD : va_D A [(h0, .inr (0, [.ref qb, .long kb, .int nx, .int un, .int ek, .int en])), (qb, .inl (cB, 64, .inl fb))] := hD
    subst hw_8
    refine vx_ret ?_
    refine W.widen (k := 1) (n := 6) (by omega) (by omega) ?_
    exact W.iret (v := g_bc (c_st kb)) hx hb hr (fun t ht hW => ⟨⟨g_bc (c_st kb), (), rfl, Or.inr (Or.inr (Or.inr (Or.inr (Or.inl ⟨e6, rfl⟩)))), by rw [ht]; exact hP, va_K.moved hW.alike hK, hD⟩, hS.F ht⟩) hS.2.2 dX0_told_70
  · refine lv_tableIn (off := 70) (tgt := 71) hx hb dX0_told_1 c_lo c_hi (by rw [e6]; decide) (by decide) ?_
    refine lv_aload_n hx hb dX0_told_71 rfl (lv_at hl 0 rfl) ?_
    refine va_get (D := (dC, dI)) (ci := 0) (v := .int ek) (C := RX0) (T := TX0) (N := 6) hx hb hts hi_0 hown hK hP 0 rfl rfl 4 (by decide) (hts (.fieldLink RX0 24 "SegmentBox" "endKnown" "Z") (by decide +kernel)) (fun _ h9 => h9) rfl dX0_told_72 ?_
    refine lv_if_eq (tgt := 82) hx hb dX0_told_75 (by decide) (fun c_75 => ?_) (fun c_75 => ?_)
    · refine lv_iconst (v := 0) hx hb dX0_told_82 (by decide) ?_
      refine vx_ret ?_
      refine W.widen (k := 1) (n := 6) (by omega) (by omega) ?_
      exact W.iret (v := 0) hx hb hr (fun t ht hW => ⟨⟨0, (), rfl, Or.inr (Or.inr (Or.inr (Or.inr (Or.inr (⟨e6, (if_pos c_75).symm⟩))))), by rw [ht]; exact hP, va_K.moved hW.alike hK, hD⟩, hS.F ht⟩) hS.2.2 dX0_told_83
    · refine lv_iconst (v := 1) hx hb dX0_told_78 (by decide) ?_
      refine lv_goto (tgt := 83) hx hb dX0_told_79 (by decide) ?_
      refine vx_ret ?_
      refine W.widen (k := 1) (n := 6) (by omega) (by omega) ?_
      exact W.iret (v := 1) hx hb hr (fun t ht hW => ⟨⟨1, (), rfl, Or.inr (Or.inr (Or.inr (Or.inr (Or.inr (⟨e6, (if_neg c_75).symm⟩))))), by rw [ht]; exact hP, va_K.moved hW.alike hK, hD⟩, hS.F ht⟩) hS.2.2 dX0_told_83
end
section
set_option maxHeartbeats 4000000 in
set_option maxRecDepth 100000 in
theorem c_block (l : Launch) (hst : l.stackTraces = false) (dC : Nat → ClassId) (dI : Nat → Nat → Nat) (h0 qb : Nat) (cB : ClassId) (kb : Int64) (nx un ek en : Int32) (fb : Nat → Int32) (i : Int32) (b : Int32) (sz : Nat)  : vx_Met l yX0_block wsX0_block ({ frames := 6, cells := 1, slots := 6, locals := 81 }) (va_Pc [.ref h0, .int i, .int b] (fun U => U.heap.size = sz ∧ va_P (dC, dI) vwCl [(h0, .inr (0, [.ref qb, .long kb, .int nx, .int un, .int ek, .int en])), (qb, .inl (cB, 64, .inl fb))] U.heap ∧ va_K (dC, dI) vwCl [(cB, .byte)] U ∧ va_D (fun _ => True) [(h0, .inr (0, [.ref qb, .long kb, .int nx, .int un, .int ek, .int en])), (qb, .inl (cB, 64, .inl fb))] ∧ thr (va_A [(h0, .inr (0, [.ref qb, .long kb, .int nx, .int un, .int ek, .int en])), (qb, .inl (cB, 64, .inl fb))] sz) U U.heap)) (va_Qi (fun (r : Int32) (u : Unit) => match u with | () => ∃ i0 k : Nat, i = nI i0 ∧ i0 < sg_c (sg_b (c_st kb)) 64 ∧ k < 64 ∧ sg_b (c_st kb) k = true ∧ sg_c (sg_b (c_st kb)) k = i0 ∧ ((b = 0 ∧ r = nx + nI k) ∨ (¬ b = 0 ∧ ∃ j : Nat, r = nI j ∧ k + j ≤ 64 ∧ (∀ i, i < j → sg_b kb (k + i) = true) ∧ (k + j < 64 → sg_b kb (k + j) = false)))) (fun (u : Unit) (t : State) => match u with | () => va_P (dC, dI) vwCl [(h0, .inr (0, [.ref qb, .long kb, .int nx, .int un, .int ek, .int en])), (qb, .inl (cB, 64, .inl fb))] t.heap ∧ va_K (dC, dI) vwCl [(cB, .byte)] t ∧ va_D (va_A [(h0, .inr (0, [.ref qb, .long kb, .int nx, .int un, .int ek, .int en])), (qb, .inl (cB, 64, .inl fb))] sz) [(h0, .inr (0, [.ref qb, .long kb, .int nx, .int un, .int ek, .int en])), (qb, .inl (cB, 64, .inl fb))]) (va_A [(h0, .inr (0, [.ref qb, .long kb, .int nx, .int un, .int ek, .int en])), (qb, .inl (cB, 64, .inl fb))] sz)) (vx_X (fun (_ : Unit) => i < 0 ∨ g_bc (c_st kb) ≤ i) (fun (E : String) (_ : Unit) (t : State) => E = "java/lang/IndexOutOfBoundsException" ∧ va_P (dC, dI) vwCl [(h0, .inr (0, [.ref qb, .long kb, .int nx, .int un, .int ek, .int en])), (qb, .inl (cB, 64, .inl fb))] t.heap ∧ va_K (dC, dI) vwCl [(cB, .byte)] t ∧ va_D (va_A [(h0, .inr (0, [.ref qb, .long kb, .int nx, .int un, .int ek, .int en])), (qb, .inl (cB, 64, .inl fb))] sz) [(h0, .inr (0, [.ref qb, .long kb, .int nx, .int un, .int ek, .int en])), (qb, .inl (cB, 64, .inl fb))]) (va_A [(h0, .inr (0, [.ref qb, .long kb, .int nx, .int un, .int ek, .int en])), (qb, .inl (cB, 64, .inl fb))] sz)) 1 6 (va_A [(h0, .inr (0, [.ref qb, .long kb, .int nx, .int un, .int ek, .int en])), (qb, .inl (cB, 64, .inl fb))] sz) := by
  refine vx_ofW (cc := cX0_block) (maxL := 4) (ret := (some .int)) (by decide) rfl ?_
  intro p e s m args below meth c s₁ B hml hex hv
  obtain ⟨rfl, hsz, hP, hK, hD0, hZ⟩ := hv
  have hx := B.exec
  have hb := B.bytes
  have hr := B.returns
  have hts := atoms_spec (ws := wsX0_block) B.pre
  have hown : s.vm.findClass RX0 = some m.cls := findClass_of_methodNamed B.named
  have hlocks := B.notSynchronized
  subst hsz
  have hD := hD0.self (sz := s.heap.size)
  generalize hAe : va_A [(h0, .inr (0, [.ref qb, .long kb, .int nx, .int un, .int ek, .int en])), (qb, .inl (cB, 64, .inl fb))] s.heap.size = A at hD hZ ⊢
  have hA : ∀ q : Nat, s.heap.size ≤ q → A q := fun q h => by rw [← hAe]; exact Or.inr h
  have hS : va_S A s.heap s.heap [] := va_S.rf
  have hP : va_P (dC, dI) vwCl [(h0, .inr (0, [.ref qb, .long kb, .int nx, .int un, .int ek, .int en])), (qb, .inl (cB, 64, .inl fb))] s.heap := hP
  have hl := lv_entry ([.ref h0, .int i, .int b]) (n := 4) (Nat.le_of_ble_eq_true rfl)
  rw [lg_entry_eq]
  generalize (lg_sl ([.ref h0, .int i, .int b]) ++ List.replicate (4 - (lg_sl ([.ref h0, .int i, .int b])).length) Slot.unset).toArray = ls at hl ⊢
  have hl : lv_has ls 4 [(0, .ref h0), (1, .int i), (2, .int b)] := hl
  have hi_0 : ∀ w ∈ u_ws RX0 TX0 6, w ∈ wsX0_block := by decide +kernel
  refine lv_iload_n hx hb dX0_block_0 rfl (lv_at hl 1 rfl) ?_
  refine lv_if_lt (tgt := 15) hx hb dX0_block_1 (by decide) (fun c_1 => ?_) (fun c_1 => ?_)
  · exact vx_throw0 (own := RX0) (cls := "java/lang/IndexOutOfBoundsException") (names := ["java/lang/RuntimeException", "java/lang/Exception"]) (A := A) hx hb hst hown (by decide +kernel) (by decide +kernel) (hts (.classLink RX0 63 "java/lang/IndexOutOfBoundsException") (by decide +kernel)) (hts (.initialized "java/lang/IndexOutOfBoundsException") (by decide +kernel)) (vx_hat (L := vx_at0 RX0 65 "java/lang/IndexOutOfBoundsException" ["java/lang/RuntimeException", "java/lang/Exception"]) (B := [.castable "java/lang/IndexOutOfBoundsException" "java/lang/IndexOutOfBoundsException", .declares ⟨"java/lang/RuntimeException", "<init>", "()V"⟩, .declares ⟨"java/lang/Exception", "<init>", "()V"⟩, .declares ⟨"java/lang/Throwable", "<init>", "()V"⟩]) (fun w hw => hts w ((by decide +kernel : ∀ w ∈ (vx_at0 RX0 65 "java/lang/IndexOutOfBoundsException" ["java/lang/RuntimeException", "java/lang/Exception"]).filter goodWord, w ∈ wsX0_block) w hw)) (by decide +kernel) (vx_c (va_Nw.use rfl hZ.2.2.2.1) (vx_c (va_Nw.use rfl hZ.2.2.2.2.1) (vx_c (va_Nw.use rfl hZ.2.2.2.2.2.1) (vx_c (va_Nw.use rfl hZ.2.2.2.2.2.2) vx_n))))) (by decide +kernel) hZ.1 hZ.2.1 hS (hl.1.trans hml.symm) dX0_block_15 dX0_block_18 dX0_block_19 dX0_block_22 (fun x hx9 => (hex x hx9).elim) (Nat.le_of_ble_eq_true rfl) (Nat.le_of_ble_eq_true rfl) (Nat.le_of_ble_eq_true rfl) (Nat.le_of_ble_eq_true rfl) hlocks (fun t hal hsz9 hq9 => ⟨(), Or.inl c_1, ⟨rfl, hP.kept (fun k x hx9 => hq9 x.1 ((hP k x hx9).lt)), va_K.moved hal hK, hD⟩, ⟨Nat.le_trans hS.1 hsz9, fun q h1 h2 => (hq9 q (Nat.lt_of_lt_of_le h1 hS.1)).trans (hS.2.1 q h1 h2)⟩⟩) hS.2.2 (Nat.le_of_ble_eq_true rfl) (Nat.le_of_ble_eq_true rfl)
  · refine lv_iload_n hx hb dX0_block_4 rfl (lv_at hl 1 rfl) ?_
    refine lv_aload_n hx hb dX0_block_5 rfl (lv_at hl 0 rfl) ?_
    have hPc := hP.sub (ws' := [(h0, .inr (0, [.ref qb, .long kb, .int nx, .int un, .int ek, .int en])), (qb, .inl (cB, 64, .inl fb))]) [0, 1] rfl
    have hDc := hD.sub (ws' := [(h0, .inr (0, [.ref qb, .long kb, .int nx, .int un, .int ek, .int en])), (qb, .inl (cB, 64, .inl fb))]) [0, 1] (by decide) rfl
    have hKc := hK.sub (tys' := [(cB, .byte)]) [0] rfl
    have hFc := va_free (wc := [(h0, .inr (0, [.ref qb, .long kb, .int nx, .int un, .int ek, .int en])), (qb, .inl (cB, 64, .inl fb))]) hD hS hA [0, 1] rfl
    refine va_calll (va_runV (As := []) (rest := [.int i]) ⟨hx, hb, hml, hown, hts⟩ (c_blockStarts l dC dI h0 qb cB kb nx un ek en fb s.heap.size ) (cwV 0 hts gX0_block_X0_blockStarts rfl rfl rfl (by decide +kernel) ⟨Nat.le_of_ble_eq_true rfl, Nat.le_of_ble_eq_true rfl⟩) ⟨fun a U g mk q => by obtain ⟨q0, q1, qP, qK, qD⟩ := q; exact ⟨q0, q1, qP, va_K.moved (u := U) (U := U.calling g mk a) (Vm.Alike.refl U.vm) qK, qD⟩, va_recv hKc hPc (ci := 0) (q0 := 0) rfl rfl, fun U hU hW => ⟨rfl, by rw [hU], by rw [hU]; exact hPc, va_K.moved hW.alike hKc, hDc.weaken (fun _ _ _ _ => trivial)⟩⟩ rfl rfl hl.1 rfl (lv_room (Nat.le_of_ble_eq_true rfl)) dX0_block_6 ⟨(Nat.zero_le _), (Nat.zero_le _)⟩) hS (fun q _ h => hFc q h) hFc (fun r_1 u t H1 locs ht hvm hw_2 hB hz1 hk1 hS => ?_)
    obtain ⟨hP1, hK1, hD1⟩ := hB
    rw [ht] at hP1
    have hK1 := va_K.moved hvm.symm hK1
    try dsimp only at hw_2
    obtain ⟨hP, hD⟩ := va_join (wr := []) (w1 := [(h0, .inr (0, [.ref qb, .long kb, .int nx, .int un, .int ek, .int en])), (qb, .inl (cB, 64, .inl fb))]) hP hD [0, 1] [] rfl rfl (by decide) (by decide) hk1 hFc hP1 hD1
    generalize H1 = H at hP hS ⊢
    have hP : va_P (dC, dI) vwCl [(h0, .inr (0, [.ref qb, .long kb, .int nx, .int un, .int ek, .int en])), (qb, .inl (cB, 64, .inl fb))] H := hP
    have hD : va_D A [(h0, .inr (0, [.ref qb, .long kb, .int nx, .int un, .int ek, .int en])), (qb, .inl (cB, 64, .inl fb))] := hD
    subst hw_2
    have hPc := hP.sub (ws' := []) [] rfl
    have hDc := hD.sub (ws' := []) [] (by decide) rfl
    have hKc := hK.sub (tys' := []) [] rfl
    have hFc := va_free (wc := []) hD hS hA [] rfl
    refine va_calli (va_runS (As := [.long (c_st kb)]) (rest := [.int i]) ⟨hx, hb, hml, hown, hts⟩ (c_bitCount l dC dI (c_st kb) H.size ) (va_cwS 1 hts gX0_block_J13_bitCount_95d88 rfl rfl rfl (by decide +kernel) ⟨Nat.le_of_ble_eq_true rfl, Nat.le_of_ble_eq_true rfl⟩) ⟨fun a U g mk q => by obtain ⟨q0, q1, qP, qK, qD⟩ := q; exact ⟨q0, q1, qP, va_K.moved (u := U) (U := U.calling g mk a) (Vm.Alike.refl U.vm) qK, qD⟩, fun U hU hW => ⟨rfl, by rw [hU], by rw [hU]; exact hPc, va_K.moved hW.alike hKc, hDc.weaken (fun _ _ _ _ => trivial)⟩⟩ rfl rfl hl.1 rfl (lv_room (Nat.le_of_ble_eq_true rfl)) dX0_block_9 ⟨(Nat.zero_le _), (Nat.zero_le _)⟩) hS (fun q _ h => hFc q h) hFc (fun r_3 u t H1 locs ht hvm hw_4 hB hz1 hk1 hS => ?_)
    obtain ⟨hP1, hK1, hD1⟩ := hB
    rw [ht] at hP1
    have hK1 := va_K.moved hvm.symm hK1
    try dsimp only at hw_4
    obtain ⟨hP, hD⟩ := va_join (wr := [(h0, .inr (0, [.ref qb, .long kb, .int nx, .int un, .int ek, .int en])), (qb, .inl (cB, 64, .inl fb))]) (w1 := []) hP hD [] [0, 1] rfl rfl (by decide) (by decide) hk1 hFc hP1 hD1
    generalize H1 = H at hP hS ⊢
    have hP : va_P (dC, dI) vwCl [(h0, .inr (0, [.ref qb, .long kb, .int nx, .int un, .int ek, .int en])), (qb, .inl (cB, 64, .inl fb))] H := hP
    have hD : va_D A [(h0, .inr (0, [.ref qb, .long kb, .int nx, .int un, .int ek, .int en])), (qb, .inl (cB, 64, .inl fb))] := hD
    subst hw_4
    refine lv_icmp_lt (tgt := 23) hx hb dX0_block_12 (by decide) (fun c_12 => ?_) (fun c_12 => ?_)
    · refine lv_aload_n hx hb dX0_block_23 rfl (lv_at hl 0 rfl) ?_
      refine lv_iload_n hx hb dX0_block_24 rfl (lv_at hl 1 rfl) ?_
      obtain ⟨i0, hi0, hi⟩ := nI_of c_1
      have hc4 := sg_c_le (sg_b (c_st kb)) 64
      have hlt : i0 < sg_c (sg_b (c_st kb)) 64 := by
        rw [hi, g_bc_eq, nI_ltI hi0 (by omega)] at c_12
        exact c_12
      have hPc := hP.sub (ws' := [(h0, .inr (0, [.ref qb, .long kb, .int nx, .int un, .int ek, .int en])), (qb, .inl (cB, 64, .inl fb))]) [0, 1] rfl
      have hDc := hD.sub (ws' := [(h0, .inr (0, [.ref qb, .long kb, .int nx, .int un, .int ek, .int en])), (qb, .inl (cB, 64, .inl fb))]) [0, 1] (by decide) rfl
      have hKc := hK.sub (tys' := [(cB, .byte)]) [0] rfl
      have hFc := va_free (wc := [(h0, .inr (0, [.ref qb, .long kb, .int nx, .int un, .int ek, .int en])), (qb, .inl (cB, 64, .inl fb))]) hD hS hA [0, 1] rfl
      refine va_calli (va_runV (As := [.int i]) (rest := []) ⟨hx, hb, hml, hown, hts⟩ (c_startOfBlock l dC dI h0 qb cB kb nx un ek en fb i i0 H.size hi hlt) (cwV 1 hts gX0_block_X0_startOfBlock rfl rfl rfl (by decide +kernel) ⟨Nat.le_of_ble_eq_true rfl, Nat.le_of_ble_eq_true rfl⟩) ⟨fun a U g mk q => by obtain ⟨q0, q1, qP, qK, qD⟩ := q; exact ⟨q0, q1, qP, va_K.moved (u := U) (U := U.calling g mk a) (Vm.Alike.refl U.vm) qK, qD⟩, va_recv hKc hPc (ci := 0) (q0 := 0) rfl rfl, fun U hU hW => ⟨rfl, by rw [hU], by rw [hU]; exact hPc, va_K.moved hW.alike hKc, hDc.weaken (fun _ _ _ _ => trivial)⟩⟩ rfl rfl hl.1 rfl (lv_room (Nat.le_of_ble_eq_true rfl)) dX0_block_25 ⟨(Nat.zero_le _), (Nat.zero_le _)⟩) hS (fun q _ h => hFc q h) hFc (fun r_5 u t H1 locs ht hvm hw_6 hB hz1 hk1 hS => ?_)
      obtain ⟨hP1, hK1, hD1⟩ := hB
      rw [ht] at hP1
      have hK1 := va_K.moved hvm.symm hK1
      try dsimp only at hw_6
      obtain ⟨hP, hD⟩ := va_join (wr := []) (w1 := [(h0, .inr (0, [.ref qb, .long kb, .int nx, .int un, .int ek, .int en])), (qb, .inl (cB, 64, .inl fb))]) hP hD [0, 1] [] rfl rfl (by decide) (by decide) hk1 hFc hP1 hD1
      generalize H1 = H at hP hS ⊢
      have hP : va_P (dC, dI) vwCl [(h0, .inr (0, [.ref qb, .long kb, .int nx, .int un, .int ek, .int en])), (qb, .inl (cB, 64, .inl fb))] H := hP
      have hD : va_D A [(h0, .inr (0, [.ref qb, .long kb, .int nx, .int un, .int ek, .int en])), (qb, .inl (cB, 64, .inl fb))] := hD
      obtain ⟨k, k1, k2, k3, k4⟩ := hw_6
      refine lv_istore_n (lv' := [(3, .int r_5), (0, .ref h0), (1, .int i), (2, .int b)]) hx hb dX0_block_28 rfl hl (by decide) rfl (fun ls hl => ?_)
      refine lv_iload_n hx hb dX0_block_29 rfl (lv_at hl 3 rfl) ?_
      refine lv_if_eq (tgt := 41) hx hb dX0_block_30 (by decide) (fun c_30 => ?_) (fun c_30 => ?_)
      · refine lv_aload_n hx hb dX0_block_41 rfl (lv_at hl 1 rfl) ?_
        refine va_get (D := (dC, dI)) (ci := 0) (v := .int nx) (C := RX0) (T := TX0) (N := 6) hx hb hts hi_0 hown hK hP 0 rfl rfl 2 (by decide) (hts (.fieldLink RX0 17 "SegmentBox" "next" "I") (by decide +kernel)) (fun _ h9 => h9) rfl dX0_block_42 ?_
        refine lv_iload_n hx hb dX0_block_45 rfl (lv_at hl 0 rfl) ?_
        refine lv_iadd hx hb dX0_block_46 ?_
        refine vx_ret ?_
        refine W.widen (k := 1) (n := 6) (by omega) (by omega) ?_
        exact W.iret (v := nx + r_5) hx hb hr (fun t ht hW => ⟨⟨nx + r_5, (), rfl, ⟨i0, k, hi, hlt, k1, k3, k4, Or.inl ⟨c_30, by rw [k2]⟩⟩, by rw [ht]; exact hP, va_K.moved hW.alike hK, hD⟩, hS.F ht⟩) hS.2.2 dX0_block_47
      · refine lv_aload_n hx hb dX0_block_33 rfl (lv_at hl 1 rfl) ?_
        refine lv_iload_n hx hb dX0_block_34 rfl (lv_at hl 0 rfl) ?_
        have hPc := hP.sub (ws' := [(h0, .inr (0, [.ref qb, .long kb, .int nx, .int un, .int ek, .int en])), (qb, .inl (cB, 64, .inl fb))]) [0, 1] rfl
        have hDc := hD.sub (ws' := [(h0, .inr (0, [.ref qb, .long kb, .int nx, .int un, .int ek, .int en])), (qb, .inl (cB, 64, .inl fb))]) [0, 1] (by decide) rfl
        have hKc := hK.sub (tys' := [(cB, .byte)]) [0] rfl
        have hFc := va_free (wc := [(h0, .inr (0, [.ref qb, .long kb, .int nx, .int un, .int ek, .int en])), (qb, .inl (cB, 64, .inl fb))]) hD hS hA [0, 1] rfl
        refine va_calli (va_runV (As := [.int r_5]) (rest := []) ⟨hx, hb, hml, hown, hts⟩ (c_lengthOfBlock l dC dI h0 qb cB kb nx un ek en fb r_5 k H.size k2 k1) (cwV 1 hts gX0_block_X0_lengthOfBlock rfl rfl rfl (by decide +kernel) ⟨Nat.le_of_ble_eq_true rfl, Nat.le_of_ble_eq_true rfl⟩) ⟨fun a U g mk q => by obtain ⟨q0, q1, qP, qK, qD⟩ := q; exact ⟨q0, q1, qP, va_K.moved (u := U) (U := U.calling g mk a) (Vm.Alike.refl U.vm) qK, qD⟩, va_recv hKc hPc (ci := 0) (q0 := 0) rfl rfl, fun U hU hW => ⟨rfl, by rw [hU], by rw [hU]; exact hPc, va_K.moved hW.alike hKc, hDc.weaken (fun _ _ _ _ => trivial)⟩⟩ rfl rfl hl.1 rfl (lv_room (Nat.le_of_ble_eq_true rfl)) dX0_block_35 ⟨(Nat.zero_le _), (Nat.zero_le _)⟩) hS (fun q _ h => hFc q h) hFc (fun r_7 u t H1 locs ht hvm hw_8 hB hz1 hk1 hS => ?_)
        obtain ⟨hP1, hK1, hD1⟩ := hB
        rw [ht] at hP1
        have hK1 := va_K.moved hvm.symm hK1
        try dsimp only at hw_8
        obtain ⟨hP, hD⟩ := va_join (wr := []) (w1 := [(h0, .inr (0, [.ref qb, .long kb, .int nx, .int un, .int ek, .int en])), (qb, .inl (cB, 64, .inl fb))]) hP hD [0, 1] [] rfl rfl (by decide) (by decide) hk1 hFc hP1 hD1
        generalize H1 = H at hP hS ⊢
        have hP : va_P (dC, dI) vwCl [(h0, .inr (0, [.ref qb, .long kb, .int nx, .int un, .int ek, .int en])), (qb, .inl (cB, 64, .inl fb))] H := hP
        have hD : va_D A [(h0, .inr (0, [.ref qb, .long kb, .int nx, .int un, .int ek, .int en])), (qb, .inl (cB, 64, .inl fb))] := hD
        refine lv_goto (tgt := 47) hx hb dX0_block_38 (by decide) ?_
        refine vx_ret ?_
        refine W.widen (k := 1) (n := 6) (by omega) (by omega) ?_
        exact W.iret (v := r_7) hx hb hr (fun t ht hW => ⟨⟨r_7, (), rfl, ⟨i0, k, hi, hlt, k1, k3, k4, Or.inr ⟨c_30, hw_8⟩⟩, by rw [ht]; exact hP, va_K.moved hW.alike hK, hD⟩, hS.F ht⟩) hS.2.2 dX0_block_47
    · exact vx_throw0 (own := RX0) (cls := "java/lang/IndexOutOfBoundsException") (names := ["java/lang/RuntimeException", "java/lang/Exception"]) (A := A) hx hb hst hown (by decide +kernel) (by decide +kernel) (hts (.classLink RX0 63 "java/lang/IndexOutOfBoundsException") (by decide +kernel)) (hts (.initialized "java/lang/IndexOutOfBoundsException") (by decide +kernel)) (vx_hat (L := vx_at0 RX0 65 "java/lang/IndexOutOfBoundsException" ["java/lang/RuntimeException", "java/lang/Exception"]) (B := [.castable "java/lang/IndexOutOfBoundsException" "java/lang/IndexOutOfBoundsException", .declares ⟨"java/lang/RuntimeException", "<init>", "()V"⟩, .declares ⟨"java/lang/Exception", "<init>", "()V"⟩, .declares ⟨"java/lang/Throwable", "<init>", "()V"⟩]) (fun w hw => hts w ((by decide +kernel : ∀ w ∈ (vx_at0 RX0 65 "java/lang/IndexOutOfBoundsException" ["java/lang/RuntimeException", "java/lang/Exception"]).filter goodWord, w ∈ wsX0_block) w hw)) (by decide +kernel) (vx_c (va_Nw.use rfl hZ.2.2.2.1) (vx_c (va_Nw.use rfl hZ.2.2.2.2.1) (vx_c (va_Nw.use rfl hZ.2.2.2.2.2.1) (vx_c (va_Nw.use rfl hZ.2.2.2.2.2.2) vx_n))))) (by decide +kernel) hZ.1 hZ.2.1 hS (hl.1.trans hml.symm) dX0_block_15 dX0_block_18 dX0_block_19 dX0_block_22 (fun x hx9 => (hex x hx9).elim) (Nat.le_of_ble_eq_true rfl) (Nat.le_of_ble_eq_true rfl) (Nat.le_of_ble_eq_true rfl) (Nat.le_of_ble_eq_true rfl) hlocks (fun t hal hsz9 hq9 => ⟨(), Or.inr (Int32.not_lt.mp c_12), ⟨rfl, hP.kept (fun k x hx9 => hq9 x.1 ((hP k x hx9).lt)), va_K.moved hal hK, hD⟩, ⟨Nat.le_trans hS.1 hsz9, fun q h1 h2 => (hq9 q (Nat.lt_of_lt_of_le h1 hS.1)).trans (hS.2.1 q h1 h2)⟩⟩) hS.2.2 (Nat.le_of_ble_eq_true rfl) (Nat.le_of_ble_eq_true rfl)
end
section
def pH (f : Nat → Int32) (k : Nat) : Bool := decide (¬ f k = 0)
theorem pH_t {f : Nat → Int32} {k : Nat} (h : ¬ f k = 0) : pH f k = true := decide_eq_true h
theorem pH_f {f : Nat → Int32} {k : Nat} (h : f k = 0) : pH f k = false := decide_eq_false (fun z => z h)
abbrev m_hd (f : Nat → Int32) (d : Int32) : Prop := ¬ d < 0 ∧ d < 64 ∧ ¬ f d.toNatClampNeg = 0
def m_eok (nx mn he : Int32) (fH : Nat → Int32) (n : Int32) : Prop := he = 0 ∧ ¬ (n - nx) < 0 ∧ (n - nx) ≤ 64 - mn ∧ ∀ k, k < 64 → (n - nx).toNatClampNeg ≤ k → fH k = 0
theorem inb_of {x : Int32} {k : Nat} (h : x = nI k) (hk : k < 64) : vp_in x 64 := by rw [h]; exact vp_in_nI hk (by decide)
theorem cl_of {x : Int32} {k : Nat} (h : x = nI k) (hk : k < 2 ^ 31) : x.toNatClampNeg = k := by rw [h]; exact nI_clamp hk
theorem inb_0 : vp_in (0 : Int32) 64 := inb_of nI_0.symm (by decide)
theorem inb_d {d mn : Int32} {u : Nat} (hm : mn = nI u) (hu : u ≤ 64) (h1 : ¬ d < 0) (h2 : ¬ (64 - mn) ≤ d) : ∃ k, k + u < 64 ∧ d = nI k := by
  have e64 : (64 : Int32) - nI u = nI (64 - u) := pk_sub (a := 64) hu
  rw [hm, e64] at h2
  rcases pk_ix d (n := 64 - u) (by omega) with c | c | ⟨k, hk, c⟩
  · exact absurd c h1
  · exact absurd c h2
  · exact ⟨k, by omega, c⟩
theorem lt64 {d : Int32} (h1 : ¬ d < 0) (h2 : ¬ (64 : Int32) ≤ d) : ∃ k, k < 64 ∧ d = nI k := by
  rcases pk_ix d (n := 64) (by decide) with c | c | ⟨k, hk, c⟩
  · exact absurd c h1
  · exact absurd c h2
  · exact ⟨k, hk, c⟩
theorem nar_b {x : Int32} (h : x = 0 ∨ x = 1) : vp_nar .boolean x = x := by rcases h with h | h <;> rw [h] <;> rfl
theorem IV_up {u e : Nat} {ek : Int32} {T : Nat → Bool} (h : IV u e ek T) (hT : T u = true) : u < 64 ∧ IV (u + 1) e ek T := by
  obtain ⟨h1, h2, h3, h4⟩ := h
  have hu : u < 64 := by
    apply Nat.lt_of_not_le
    intro z
    rw [h3 u z] at hT
    cases hT
  refine ⟨hu, hu, fun q hq => ?_, h3, ?_⟩
  · by_cases z : q = u
    · rw [z]; exact hT
    · exact h2 q (by omega)
  · rcases h4 with h4 | ⟨z1, z2, z3⟩
    · exact Or.inl h4
    · refine Or.inr ⟨?_, z2, z3⟩
      apply Nat.lt_of_not_le
      intro z
      rw [z3 u z] at hT
      cases hT
theorem MR_01 {u : Nat} {S : aS} {fU fB fH : Nat → Int32} (h : MRa u S fU fB fH) (k : Nat) (hk : k < 64) : fH k = 0 ∨ fH k = 1 := by
  rw [h.1 k hk]
  split
  · exact Or.inr rfl
  · exact Or.inl rfl
theorem MR_nz {u : Nat} {S : aS} {fU fB fH : Nat → Int32} (h : MRa u S fU fB fH) {k : Nat} (hk : k < 64) : (¬ fH k = 0) ↔ S.1 (u + k) = true := by
  rw [h.1 k hk]
  constructor
  · intro q
    cases w : S.1 (u + k) with
    | true => rfl
    | false => rw [w] at q; exact absurd rfl q
  · intro q
    rw [q]
    decide
theorem nI_diff {bs : Int32} {q u : Nat} (h : u ≤ q) : bs + nI q - (bs + nI u) = nI (q - u) := by
  have : nI q = nI u + nI (q - u) := by rw [nI_add]; congr 1; omega
  rw [this, ← Int32.add_assoc, Int32.add_comm (bs + nI u), Int32.add_sub_cancel]
theorem st_0 {p : Nat → Bool} {k : Nat} (h : p k = false) : st p k = false := by unfold st; rw [h]; rfl
theorem st_1 {p : Nat → Bool} {k : Nat} (h : p k = true) (h2 : k = 0 ∨ p (k - 1) = false) : st p k = true := by
  unfold st
  rw [h]
  rcases h2 with h2 | h2
  · rw [h2]; rfl
  · rw [h2]; simp
theorem st_2 {p : Nat → Bool} {k : Nat} (h1 : 0 < k) (h2 : p (k - 1) = true) : st p k = false := by
  unfold st
  rw [h2, show decide (0 < k) = true from decide_eq_true h1]
  simp
theorem sg_cs {p : Nat → Bool} {k : Nat} (h : p k = true) : sg_c p (k + 1) = sg_c p k + 1 := by simp [sg_c, h]
theorem sg_cn {p : Nat → Bool} {k : Nat} (h : p k = false) : sg_c p (k + 1) = sg_c p k := by simp [sg_c, h]
end
section
set_option maxHeartbeats 4000000 in
set_option maxRecDepth 100000 in
theorem m_init (l : Launch) (dC : Nat → ClassId) (dI : Nat → Nat → Nat) (a1 : Nat) (sz : Nat)  : Met l yX1_init wsX1_init ({ frames := 1, cells := 3, slots := 192, locals := 12 }) (va_Pc [.ref a1] (fun U => U.heap.size = sz ∧ va_P (dC, dI) vwCl [(a1, .inr (1, [.null, .null, .null, .int 0, .int 0, .int 0, .int 0, .int 0]))] U.heap ∧ va_K (dC, dI) vwCl [] U ∧ va_D (fun _ => True) [(a1, .inr (1, [.null, .null, .null, .int 0, .int 0, .int 0, .int 0, .int 0]))])) (va_Qv (fun (u0 : Nat × Nat × Nat × ClassId × ClassId × ClassId) => match u0 with | (q1, q2, q3, cU, cV, cZ) => True) (fun (u0 : Nat × Nat × Nat × ClassId × ClassId × ClassId) (t : State) => match u0 with | (q1, q2, q3, cU, cV, cZ) => va_P (dC, dI) vwCl [(a1, .inr (1, [.ref q1, .ref q2, .ref q3, .int 0, .int 0, .int 0, .int 0, .int 0])), (q1, .inl (cU, 64, .inl (fun _ => 0))), (q2, .inl (cV, 64, .inl (fun _ => 0))), (q3, .inl (cZ, 64, .inl (fun _ => 0)))] t.heap ∧ va_K (dC, dI) vwCl [(cU, .int), (cV, .int), (cZ, .boolean)] t ∧ va_D (va_A [(a1, .inr (1, [.null, .null, .null, .int 0, .int 0, .int 0, .int 0, .int 0]))] sz) [(a1, .inr (1, [.ref q1, .ref q2, .ref q3, .int 0, .int 0, .int 0, .int 0, .int 0])), (q1, .inl (cU, 64, .inl (fun _ => 0))), (q2, .inl (cV, 64, .inl (fun _ => 0))), (q3, .inl (cZ, 64, .inl (fun _ => 0)))]) (va_A [(a1, .inr (1, [.null, .null, .null, .int 0, .int 0, .int 0, .int 0, .int 0]))] sz)) 3 192 (va_A [(a1, .inr (1, [.null, .null, .null, .int 0, .int 0, .int 0, .int 0, .int 0]))] sz) := by
  refine Met.ofW (cc := cX1_init) (maxL := 1) (ret := none) (by decide) rfl ?_
  intro p e s m args below meth c s₁ B hml hv
  obtain ⟨rfl, hsz, hP, hK, hD0⟩ := hv
  have hx := B.exec
  have hb := B.bytes
  have hr := B.returns
  have hts := atoms_spec (ws := wsX1_init) B.pre
  have hown : s.vm.findClass RX1 = some m.cls := findClass_of_methodNamed B.named
  have hlocks := B.notSynchronized
  have hin : meth.name = "<init>" := (name_of_methodNamed B.named B.method).1
  subst hsz
  have hD := hD0.self (sz := s.heap.size)
  generalize hAe : va_A [(a1, .inr (1, [.null, .null, .null, .int 0, .int 0, .int 0, .int 0, .int 0]))] s.heap.size = A at hD ⊢
  have hA : ∀ q : Nat, s.heap.size ≤ q → A q := fun q h => by rw [← hAe]; exact Or.inr h
  have hS : va_S A s.heap s.heap [] := va_S.rf
  have hP : va_P (dC, dI) vwCl [(a1, .inr (1, [.null, .null, .null, .int 0, .int 0, .int 0, .int 0, .int 0]))] s.heap := hP
  have hl := lv_entry ([.ref a1]) (n := 1) (Nat.le_of_ble_eq_true rfl)
  rw [lg_entry_eq]
  generalize (lg_sl ([.ref a1]) ++ List.replicate (1 - (lg_sl ([.ref a1])).length) Slot.unset).toArray = ls at hl ⊢
  have hl : lv_has ls 1 [(0, .ref a1)] := hl
  have hi_1 : ∀ w ∈ u_ws RX1 TX1 8, w ∈ wsX1_init := by decide +kernel
  refine lv_aload_n hx hb dX1_init_0 rfl (lv_at hl 0 rfl) ?_
  refine W.objInit hx hb hown (hts (.methodLink RX1 1 objectInit) (by decide +kernel)) (hts (.instanceMethod objectInit) (by decide +kernel)) (hts _ (List.mem_cons_of_mem _ (List.mem_append_left _ (List.mem_of_getElem? (i := 2) rfl)))) rfl (by rw [hml]; exact hl.1) rfl dX1_init_1 (Nat.le_of_ble_eq_true rfl) (Nat.le_of_ble_eq_true rfl) ?_
  refine W.eq (g2 := F0 m 4 ls []) rfl ?_
  refine lv_aload_n hx hb dX1_init_4 rfl (lv_at hl 0 rfl) ?_
  refine lv_bipush (v := 64) hx hb dX1_init_5 (by decide) ?_
  refine va_newa (atype := .int) (N' := 64) (a0 := (64, .inl (fun _ => 0))) (ty := .int) (n := 64) hx hb (hts (.arrayClass .int) (by decide +kernel)) rfl hK hP hD hS hA (fun _ => rfl) (by decide) (by decide) (by decide) (Nat.le_of_ble_eq_true rfl) (Nat.le_of_ble_eq_true rfl) dX1_init_7 (fun qa_1 cU H hK hP hD hS => ?_)
  have hP : va_P (dC, dI) vwCl [(a1, .inr (1, [.null, .null, .null, .int 0, .int 0, .int 0, .int 0, .int 0])), (qa_1, .inl (cU, 64, .inl (fun _ => 0)))] H := hP
  have hD : va_D A [(a1, .inr (1, [.null, .null, .null, .int 0, .int 0, .int 0, .int 0, .int 0])), (qa_1, .inl (cU, 64, .inl (fun _ => 0)))] := hD
  have hK : va_K (dC, dI) vwCl [(cU, .int)] s := hK
  refine va_putF (D := (dC, dI)) (ci := 1) (v := .ref qa_1) (ty := .array .int) (C := RX1) (T := TX1) (N := 8) hx hb hts hi_1 tyX1 tyX1_ok nmX1 hown hK hP hD hS 0 rfl rfl 0 (by decide) (hts (.fieldLink RX1 9 "SegmentBoxModel" "unread" "[I") (by decide +kernel)) (fun _ h9 => h9) rfl hin rfl (by decide +kernel) rfl rfl (Nat.le_of_ble_eq_true rfl) dX1_init_9 (fun H locs hP hD hS => ?_)
  have hP : va_P (dC, dI) vwCl [(a1, .inr (1, [.ref qa_1, .null, .null, .int 0, .int 0, .int 0, .int 0, .int 0])), (qa_1, .inl (cU, 64, .inl (fun _ => 0)))] H := hP
  have hD : va_D A [(a1, .inr (1, [.ref qa_1, .null, .null, .int 0, .int 0, .int 0, .int 0, .int 0])), (qa_1, .inl (cU, 64, .inl (fun _ => 0)))] := hD
  refine lv_aload_n hx hb dX1_init_12 rfl (lv_at hl 0 rfl) ?_
  refine lv_bipush (v := 64) hx hb dX1_init_13 (by decide) ?_
  refine va_newa (atype := .int) (N' := 64) (a0 := (64, .inl (fun _ => 0))) (ty := .int) (n := 64) hx hb (hts (.arrayClass .int) (by decide +kernel)) rfl hK hP hD hS hA (fun _ => rfl) (by decide) (by decide) (by decide) (Nat.le_of_ble_eq_true rfl) (Nat.le_of_ble_eq_true rfl) dX1_init_15 (fun qa_2 cV H hK hP hD hS => ?_)
  have hP : va_P (dC, dI) vwCl [(a1, .inr (1, [.ref qa_1, .null, .null, .int 0, .int 0, .int 0, .int 0, .int 0])), (qa_1, .inl (cU, 64, .inl (fun _ => 0))), (qa_2, .inl (cV, 64, .inl (fun _ => 0)))] H := hP
  have hD : va_D A [(a1, .inr (1, [.ref qa_1, .null, .null, .int 0, .int 0, .int 0, .int 0, .int 0])), (qa_1, .inl (cU, 64, .inl (fun _ => 0))), (qa_2, .inl (cV, 64, .inl (fun _ => 0)))] := hD
  have hK : va_K (dC, dI) vwCl [(cU, .int), (cV, .int)] s := hK
  refine va_putF (D := (dC, dI)) (ci := 1) (v := .ref qa_2) (ty := .array .int) (C := RX1) (T := TX1) (N := 8) hx hb hts hi_1 tyX1 tyX1_ok nmX1 hown hK hP hD hS 0 rfl rfl 1 (by decide) (hts (.fieldLink RX1 13 "SegmentBoxModel" "byteAt" "[I") (by decide +kernel)) (fun _ h9 => h9) rfl hin rfl (by decide +kernel) rfl rfl (Nat.le_of_ble_eq_true rfl) dX1_init_17 (fun H locs hP hD hS => ?_)
  have hP : va_P (dC, dI) vwCl [(a1, .inr (1, [.ref qa_1, .ref qa_2, .null, .int 0, .int 0, .int 0, .int 0, .int 0])), (qa_1, .inl (cU, 64, .inl (fun _ => 0))), (qa_2, .inl (cV, 64, .inl (fun _ => 0)))] H := hP
  have hD : va_D A [(a1, .inr (1, [.ref qa_1, .ref qa_2, .null, .int 0, .int 0, .int 0, .int 0, .int 0])), (qa_1, .inl (cU, 64, .inl (fun _ => 0))), (qa_2, .inl (cV, 64, .inl (fun _ => 0)))] := hD
  refine lv_aload_n hx hb dX1_init_20 rfl (lv_at hl 0 rfl) ?_
  refine lv_bipush (v := 64) hx hb dX1_init_21 (by decide) ?_
  refine va_newa (atype := .boolean) (N' := 64) (a0 := (64, .inl (fun _ => 0))) (ty := .boolean) (n := 64) hx hb (hts (.arrayClass .boolean) (by decide +kernel)) rfl hK hP hD hS hA (fun _ => rfl) (by decide) (by decide) (by decide) (Nat.le_of_ble_eq_true rfl) (Nat.le_of_ble_eq_true rfl) dX1_init_23 (fun qa_3 cZ H hK hP hD hS => ?_)
  have hP : va_P (dC, dI) vwCl [(a1, .inr (1, [.ref qa_1, .ref qa_2, .null, .int 0, .int 0, .int 0, .int 0, .int 0])), (qa_1, .inl (cU, 64, .inl (fun _ => 0))), (qa_2, .inl (cV, 64, .inl (fun _ => 0))), (qa_3, .inl (cZ, 64, .inl (fun _ => 0)))] H := hP
  have hD : va_D A [(a1, .inr (1, [.ref qa_1, .ref qa_2, .null, .int 0, .int 0, .int 0, .int 0, .int 0])), (qa_1, .inl (cU, 64, .inl (fun _ => 0))), (qa_2, .inl (cV, 64, .inl (fun _ => 0))), (qa_3, .inl (cZ, 64, .inl (fun _ => 0)))] := hD
  have hK : va_K (dC, dI) vwCl [(cU, .int), (cV, .int), (cZ, .boolean)] s := hK
  refine va_putF (D := (dC, dI)) (ci := 1) (v := .ref qa_3) (ty := .array .boolean) (C := RX1) (T := TX1) (N := 8) hx hb hts hi_1 tyX1 tyX1_ok nmX1 hown hK hP hD hS 0 rfl rfl 2 (by decide) (hts (.fieldLink RX1 16 "SegmentBoxModel" "isHeld" "[Z") (by decide +kernel)) (fun _ h9 => h9) rfl hin rfl (by decide +kernel) rfl rfl (Nat.le_of_ble_eq_true rfl) dX1_init_25 (fun H locs hP hD hS => ?_)
  have hP : va_P (dC, dI) vwCl [(a1, .inr (1, [.ref qa_1, .ref qa_2, .ref qa_3, .int 0, .int 0, .int 0, .int 0, .int 0])), (qa_1, .inl (cU, 64, .inl (fun _ => 0))), (qa_2, .inl (cV, 64, .inl (fun _ => 0))), (qa_3, .inl (cZ, 64, .inl (fun _ => 0)))] H := hP
  have hD : va_D A [(a1, .inr (1, [.ref qa_1, .ref qa_2, .ref qa_3, .int 0, .int 0, .int 0, .int 0, .int 0])), (qa_1, .inl (cU, 64, .inl (fun _ => 0))), (qa_2, .inl (cV, 64, .inl (fun _ => 0))), (qa_3, .inl (cZ, 64, .inl (fun _ => 0)))] := hD
  exact W.vret hx hb hr (fun t ht hW => ⟨⟨(qa_1, qa_2, qa_3, cU, cV, cZ), rfl, trivial, by rw [ht]; exact hP, va_K.moved hW.alike hK, hD⟩, hS.F ht⟩) hS.2.2 dX1_init_28
end
section
set_option maxHeartbeats 4000000 in
set_option maxRecDepth 100000 in
theorem m_thrown (l : Launch) (dC : Nat → ClassId) (dI : Nat → Nat → Nat) (a1 q1 q2 q3 : Nat) (cU cV cZ : ClassId) (nx mn ed th he : Int32) (fU fB fH : Nat → Int32) (sz : Nat)  : Met l yX1_thrown wsX1_thrown ({ frames := 0, cells := 0, slots := 0, locals := 0 }) (va_Pc [.ref a1] (fun U => U.heap.size = sz ∧ va_P (dC, dI) vwCl [(a1, .inr (1, [.ref q1, .ref q2, .ref q3, .int nx, .int mn, .int ed, .int th, .int he])), (q1, .inl (cU, 64, .inl fU)), (q2, .inl (cV, 64, .inl fB)), (q3, .inl (cZ, 64, .inl fH))] U.heap ∧ va_K (dC, dI) vwCl [(cU, .int), (cV, .int), (cZ, .boolean)] U ∧ va_D (fun _ => True) [(a1, .inr (1, [.ref q1, .ref q2, .ref q3, .int nx, .int mn, .int ed, .int th, .int he])), (q1, .inl (cU, 64, .inl fU)), (q2, .inl (cV, 64, .inl fB)), (q3, .inl (cZ, 64, .inl fH))])) (va_Qi (fun (r : Int32) (u0 : Unit) => match u0 with | () => r = th) (fun (u0 : Unit) (t : State) => match u0 with | () => va_P (dC, dI) vwCl [(a1, .inr (1, [.ref q1, .ref q2, .ref q3, .int nx, .int mn, .int ed, .int th, .int he])), (q1, .inl (cU, 64, .inl fU)), (q2, .inl (cV, 64, .inl fB)), (q3, .inl (cZ, 64, .inl fH))] t.heap ∧ va_K (dC, dI) vwCl [(cU, .int), (cV, .int), (cZ, .boolean)] t ∧ va_D (va_A [(a1, .inr (1, [.ref q1, .ref q2, .ref q3, .int nx, .int mn, .int ed, .int th, .int he])), (q1, .inl (cU, 64, .inl fU)), (q2, .inl (cV, 64, .inl fB)), (q3, .inl (cZ, 64, .inl fH))] sz) [(a1, .inr (1, [.ref q1, .ref q2, .ref q3, .int nx, .int mn, .int ed, .int th, .int he])), (q1, .inl (cU, 64, .inl fU)), (q2, .inl (cV, 64, .inl fB)), (q3, .inl (cZ, 64, .inl fH))]) (va_A [(a1, .inr (1, [.ref q1, .ref q2, .ref q3, .int nx, .int mn, .int ed, .int th, .int he])), (q1, .inl (cU, 64, .inl fU)), (q2, .inl (cV, 64, .inl fB)), (q3, .inl (cZ, 64, .inl fH))] sz)) 0 0 (va_A [(a1, .inr (1, [.ref q1, .ref q2, .ref q3, .int nx, .int mn, .int ed, .int th, .int he])), (q1, .inl (cU, 64, .inl fU)), (q2, .inl (cV, 64, .inl fB)), (q3, .inl (cZ, 64, .inl fH))] sz) := by
  refine Met.ofW (cc := cX1_thrown) (maxL := 1) (ret := (some .int)) (by decide) rfl ?_
  intro p e s m args below meth c s₁ B hml hv
  obtain ⟨rfl, hsz, hP, hK, hD0⟩ := hv
  have hx := B.exec
  have hb := B.bytes
  have hr := B.returns
  have hts := atoms_spec (ws := wsX1_thrown) B.pre
  have hown : s.vm.findClass RX1 = some m.cls := findClass_of_methodNamed B.named
  have hlocks := B.notSynchronized
  subst hsz
  have hD := hD0.self (sz := s.heap.size)
  generalize hAe : va_A [(a1, .inr (1, [.ref q1, .ref q2, .ref q3, .int nx, .int mn, .int ed, .int th, .int he])), (q1, .inl (cU, 64, .inl fU)), (q2, .inl (cV, 64, .inl fB)), (q3, .inl (cZ, 64, .inl fH))] s.heap.size = A at hD ⊢
  have hA : ∀ q : Nat, s.heap.size ≤ q → A q := fun q h => by rw [← hAe]; exact Or.inr h
  have hS : va_S A s.heap s.heap [] := va_S.rf
  have hP : va_P (dC, dI) vwCl [(a1, .inr (1, [.ref q1, .ref q2, .ref q3, .int nx, .int mn, .int ed, .int th, .int he])), (q1, .inl (cU, 64, .inl fU)), (q2, .inl (cV, 64, .inl fB)), (q3, .inl (cZ, 64, .inl fH))] s.heap := hP
  have hl := lv_entry ([.ref a1]) (n := 1) (Nat.le_of_ble_eq_true rfl)
  rw [lg_entry_eq]
  generalize (lg_sl ([.ref a1]) ++ List.replicate (1 - (lg_sl ([.ref a1])).length) Slot.unset).toArray = ls at hl ⊢
  have hl : lv_has ls 1 [(0, .ref a1)] := hl
  have hi_1 : ∀ w ∈ u_ws RX1 TX1 8, w ∈ wsX1_thrown := by decide +kernel
  refine lv_aload_n hx hb dX1_thrown_0 rfl (lv_at hl 0 rfl) ?_
  refine va_get (D := (dC, dI)) (ci := 1) (v := .int th) (C := RX1) (T := TX1) (N := 8) hx hb hts hi_1 hown hK hP 0 rfl rfl 6 (by decide) (hts (.fieldLink RX1 20 "SegmentBoxModel" "thrown" "I") (by decide +kernel)) (fun _ h9 => h9) rfl dX1_thrown_1 ?_
  exact W.iret (v := th) hx hb hr (fun t ht hW => ⟨⟨th, (), rfl, rfl, by rw [ht]; exact hP, va_K.moved hW.alike hK, hD⟩, hS.F ht⟩) hS.2.2 dX1_thrown_4
end
section
set_option maxHeartbeats 4000000 in
set_option maxRecDepth 100000 in
theorem m_open (l : Launch) (dC : Nat → ClassId) (dI : Nat → Nat → Nat) (a1 q1 q2 q3 : Nat) (cU cV cZ : ClassId) (nx mn ed th he : Int32) (fU fB fH : Nat → Int32) (n : Int32) (sz : Nat)  : Met l yX1_open wsX1_open ({ frames := 0, cells := 0, slots := 0, locals := 0 }) (va_Pc [.ref a1, .int n] (fun U => U.heap.size = sz ∧ va_P (dC, dI) vwCl [(a1, .inr (1, [.ref q1, .ref q2, .ref q3, .int nx, .int mn, .int ed, .int th, .int he])), (q1, .inl (cU, 64, .inl fU)), (q2, .inl (cV, 64, .inl fB)), (q3, .inl (cZ, 64, .inl fH))] U.heap ∧ va_K (dC, dI) vwCl [(cU, .int), (cV, .int), (cZ, .boolean)] U ∧ va_D (fun _ => True) [(a1, .inr (1, [.ref q1, .ref q2, .ref q3, .int nx, .int mn, .int ed, .int th, .int he])), (q1, .inl (cU, 64, .inl fU)), (q2, .inl (cV, 64, .inl fB)), (q3, .inl (cZ, 64, .inl fH))])) (va_Qv (fun (u0 : Nat → Int32) => match u0 with | fH' => ∀ k, k < 64 → fH' k = 0) (fun (u0 : Nat → Int32) (t : State) => match u0 with | fH' => va_P (dC, dI) vwCl [(a1, .inr (1, [.ref q1, .ref q2, .ref q3, .int n, .int 0, .int ed, .int 0, .int 0])), (q1, .inl (cU, 64, .inl fU)), (q2, .inl (cV, 64, .inl fB)), (q3, .inl (cZ, 64, .inl fH'))] t.heap ∧ va_K (dC, dI) vwCl [(cU, .int), (cV, .int), (cZ, .boolean)] t ∧ va_D (va_A [(a1, .inr (1, [.ref q1, .ref q2, .ref q3, .int nx, .int mn, .int ed, .int th, .int he])), (q1, .inl (cU, 64, .inl fU)), (q2, .inl (cV, 64, .inl fB)), (q3, .inl (cZ, 64, .inl fH))] sz) [(a1, .inr (1, [.ref q1, .ref q2, .ref q3, .int n, .int 0, .int ed, .int 0, .int 0])), (q1, .inl (cU, 64, .inl fU)), (q2, .inl (cV, 64, .inl fB)), (q3, .inl (cZ, 64, .inl fH'))]) (va_A [(a1, .inr (1, [.ref q1, .ref q2, .ref q3, .int nx, .int mn, .int ed, .int th, .int he])), (q1, .inl (cU, 64, .inl fU)), (q2, .inl (cV, 64, .inl fB)), (q3, .inl (cZ, 64, .inl fH))] sz)) 0 0 (va_A [(a1, .inr (1, [.ref q1, .ref q2, .ref q3, .int nx, .int mn, .int ed, .int th, .int he])), (q1, .inl (cU, 64, .inl fU)), (q2, .inl (cV, 64, .inl fB)), (q3, .inl (cZ, 64, .inl fH))] sz) := by
  refine Met.ofW (cc := cX1_open) (maxL := 3) (ret := none) (by decide) rfl ?_
  intro p e s m args below meth c s₁ B hml hv
  obtain ⟨rfl, hsz, hP, hK, hD0⟩ := hv
  have hx := B.exec
  have hb := B.bytes
  have hr := B.returns
  have hts := atoms_spec (ws := wsX1_open) B.pre
  have hown : s.vm.findClass RX1 = some m.cls := findClass_of_methodNamed B.named
  have hlocks := B.notSynchronized
  subst hsz
  have hD := hD0.self (sz := s.heap.size)
  generalize hAe : va_A [(a1, .inr (1, [.ref q1, .ref q2, .ref q3, .int nx, .int mn, .int ed, .int th, .int he])), (q1, .inl (cU, 64, .inl fU)), (q2, .inl (cV, 64, .inl fB)), (q3, .inl (cZ, 64, .inl fH))] s.heap.size = A at hD ⊢
  have hA : ∀ q : Nat, s.heap.size ≤ q → A q := fun q h => by rw [← hAe]; exact Or.inr h
  have hS : va_S A s.heap s.heap [] := va_S.rf
  have hP : va_P (dC, dI) vwCl [(a1, .inr (1, [.ref q1, .ref q2, .ref q3, .int nx, .int mn, .int ed, .int th, .int he])), (q1, .inl (cU, 64, .inl fU)), (q2, .inl (cV, 64, .inl fB)), (q3, .inl (cZ, 64, .inl fH))] s.heap := hP
  have hl := lv_entry ([.ref a1, .int n]) (n := 3) (Nat.le_of_ble_eq_true rfl)
  rw [lg_entry_eq]
  generalize (lg_sl ([.ref a1, .int n]) ++ List.replicate (3 - (lg_sl ([.ref a1, .int n])).length) Slot.unset).toArray = ls at hl ⊢
  have hl : lv_has ls 3 [(0, .ref a1), (1, .int n)] := hl
  have hi_1 : ∀ w ∈ u_ws RX1 TX1 8, w ∈ wsX1_open := by decide +kernel
  have loop : ∀ (cnt k : Nat) (x9 : Int32) (f9 : Nat → Int32), k + cnt = 64 → x9 = nI k → (∀ i, i < k → f9 i = 0) → ∀ (H : Heap) (locs : List Loc) (ls : Array Slot), va_P (dC, dI) vwCl [(a1, .inr (1, [.ref q1, .ref q2, .ref q3, .int n, .int 0, .int ed, .int 0, .int 0])), (q1, .inl (cU, 64, .inl fU)), (q2, .inl (cV, 64, .inl fB)), (q3, .inl (cZ, 64, .inl f9))] H → va_D A [(a1, .inr (1, [.ref q1, .ref q2, .ref q3, .int n, .int 0, .int ed, .int 0, .int 0])), (q1, .inl (cU, 64, .inl fU)), (q2, .inl (cV, 64, .inl fB)), (q3, .inl (cZ, 64, .inl f9))] → va_S A s.heap H locs → lv_has ls 3 [(2, .int x9), (0, .ref a1), (1, .int n)] → W p l e (headSpec wsX1_open ({ frames := 0, cells := 0, slots := 0, locals := 0 })).room s m ([.ref a1, .int n] : List Value).toArray below meth c H locs 0 0 (MQ below (va_Qv (fun (u0 : Nat → Int32) => match u0 with | fH' => ∀ k, k < 64 → fH' k = 0) (fun (u0 : Nat → Int32) (t : State) => match u0 with | fH' => va_P (dC, dI) vwCl [(a1, .inr (1, [.ref q1, .ref q2, .ref q3, .int n, .int 0, .int ed, .int 0, .int 0])), (q1, .inl (cU, 64, .inl fU)), (q2, .inl (cV, 64, .inl fB)), (q3, .inl (cZ, 64, .inl fH'))] t.heap ∧ va_K (dC, dI) vwCl [(cU, .int), (cV, .int), (cZ, .boolean)] t ∧ va_D A [(a1, .inr (1, [.ref q1, .ref q2, .ref q3, .int n, .int 0, .int ed, .int 0, .int 0])), (q1, .inl (cU, 64, .inl fU)), (q2, .inl (cV, 64, .inl fB)), (q3, .inl (cZ, 64, .inl fH'))]) A) ([.ref a1, .int n] : List Value).toArray s 0 0 A) (F0 m 22 ls []) := by
    intro cnt
    induction cnt with
    | zero =>
      intro k x9 f9 hk h1 h2 H locs ls hP hD hS hl
      refine lv_iload_n hx hb dX1_open_22 rfl (lv_at hl 0 rfl) ?_
      refine lv_bipush (v := 64) hx hb dX1_open_23 (by decide) ?_
      refine lv_icmp_ge (tgt := 41) hx hb dX1_open_25 (by decide) (fun c_25 => ?_) (fun c_25 => ?_)
      · exact W.vret hx hb hr (fun t ht hW => ⟨⟨f9, rfl, fun i hi => h2 i (by omega), by rw [ht]; exact hP, va_K.moved hW.alike hK, hD⟩, hS.F ht⟩) hS.2.2 dX1_open_41
      · exact absurd ((ge64 h1 (by omega)).mpr (by omega)) c_25
    | succ cnt ih =>
      intro k x9 f9 hk h1 h2 H locs ls hP hD hS hl
      refine lv_iload_n hx hb dX1_open_22 rfl (lv_at hl 0 rfl) ?_
      refine lv_bipush (v := 64) hx hb dX1_open_23 (by decide) ?_
      refine lv_icmp_ge (tgt := 41) hx hb dX1_open_25 (by decide) (fun c_25 => ?_) (fun c_25 => ?_)
      · exact absurd ((ge64 h1 (by omega)).mp c_25) (by omega)
      · refine lv_aload_n hx hb dX1_open_28 rfl (lv_at hl 1 rfl) ?_
        refine va_get (D := (dC, dI)) (ci := 1) (v := .ref q3) (C := RX1) (T := TX1) (N := 8) hx hb hts hi_1 hown hK hP 0 rfl rfl 2 (by decide) (hts (.fieldLink RX1 16 "SegmentBoxModel" "isHeld" "[Z") (by decide +kernel)) (fun _ h9 => h9) rfl dX1_open_29 ?_
        refine lv_iload_n hx hb dX1_open_32 rfl (lv_at hl 0 rfl) ?_
        refine lv_iconst (v := 0) hx hb dX1_open_33 (by decide) ?_
        refine va_zast hx hb hK hP hD hS 3 2 rfl rfl (inb_of h1 (by omega)) dX1_open_34 (fun H locs hP hD hS => ?_)
        have hP : va_P (dC, dI) vwCl [(a1, .inr (1, [.ref q1, .ref q2, .ref q3, .int n, .int 0, .int ed, .int 0, .int 0])), (q1, .inl (cU, 64, .inl fU)), (q2, .inl (cV, 64, .inl fB)), (q3, .inl (cZ, 64, .inl (upd f9 x9.toNatClampNeg (vp_nar .boolean 0))))] H := hP
        have hD : va_D A [(a1, .inr (1, [.ref q1, .ref q2, .ref q3, .int n, .int 0, .int ed, .int 0, .int 0])), (q1, .inl (cU, 64, .inl fU)), (q2, .inl (cV, 64, .inl fB)), (q3, .inl (cZ, 64, .inl (upd f9 x9.toNatClampNeg (vp_nar .boolean 0))))] := hD
        obtain ⟨x_1, ex_1⟩ : ∃ y : Int32, y = x9 + 1 := ⟨_, rfl⟩
        refine lv_iinc (v := x_1) (lv' := [(2, .int x_1), (0, .ref a1), (1, .int n)]) hx hb dX1_open_35 hl (k := 0) rfl (by rw [ex_1]; rfl) (by decide) rfl (fun ls hl => ?_)
        refine lv_goto (tgt := 22) hx hb dX1_open_38 (by decide) ?_
        exact ih (k + 1) x_1 _ (by omega) (by rw [ex_1, h1, nI_succ]) (fun i hi => by
          rw [cl_of h1 (by omega)]
          by_cases q : i = k
          · rw [q, pk_us]; rfl
          · rw [pk_un q]; exact h2 i (by omega)) H locs ls hP hD hS (lv_sub hl [0, 1, 2] rfl)
  refine lv_aload_n hx hb dX1_open_0 rfl (lv_at hl 0 rfl) ?_
  refine lv_iconst (v := 0) hx hb dX1_open_1 (by decide) ?_
  refine va_put (D := (dC, dI)) (ci := 1) (v := .int 0) (ty := .int) (C := RX1) (T := TX1) (N := 8) hx hb hts hi_1 tyX1 tyX1_ok nmX1 hown hK hP hD hS 0 rfl rfl 6 (by decide) (hts (.fieldLink RX1 20 "SegmentBoxModel" "thrown" "I") (by decide +kernel)) (fun _ h9 => h9) rfl (by decide +kernel) rfl rfl (Nat.le_of_ble_eq_true rfl) dX1_open_2 (fun H locs hP hD hS => ?_)
  have hP : va_P (dC, dI) vwCl [(a1, .inr (1, [.ref q1, .ref q2, .ref q3, .int nx, .int mn, .int ed, .int 0, .int he])), (q1, .inl (cU, 64, .inl fU)), (q2, .inl (cV, 64, .inl fB)), (q3, .inl (cZ, 64, .inl fH))] H := hP
  have hD : va_D A [(a1, .inr (1, [.ref q1, .ref q2, .ref q3, .int nx, .int mn, .int ed, .int 0, .int he])), (q1, .inl (cU, 64, .inl fU)), (q2, .inl (cV, 64, .inl fB)), (q3, .inl (cZ, 64, .inl fH))] := hD
  refine lv_aload_n hx hb dX1_open_5 rfl (lv_at hl 0 rfl) ?_
  refine lv_iload_n hx hb dX1_open_6 rfl (lv_at hl 1 rfl) ?_
  refine va_put (D := (dC, dI)) (ci := 1) (v := .int n) (ty := .int) (C := RX1) (T := TX1) (N := 8) hx hb hts hi_1 tyX1 tyX1_ok nmX1 hown hK hP hD hS 0 rfl rfl 3 (by decide) (hts (.fieldLink RX1 24 "SegmentBoxModel" "next" "I") (by decide +kernel)) (fun _ h9 => h9) rfl (by decide +kernel) rfl rfl (Nat.le_of_ble_eq_true rfl) dX1_open_7 (fun H locs hP hD hS => ?_)
  have hP : va_P (dC, dI) vwCl [(a1, .inr (1, [.ref q1, .ref q2, .ref q3, .int n, .int mn, .int ed, .int 0, .int he])), (q1, .inl (cU, 64, .inl fU)), (q2, .inl (cV, 64, .inl fB)), (q3, .inl (cZ, 64, .inl fH))] H := hP
  have hD : va_D A [(a1, .inr (1, [.ref q1, .ref q2, .ref q3, .int n, .int mn, .int ed, .int 0, .int he])), (q1, .inl (cU, 64, .inl fU)), (q2, .inl (cV, 64, .inl fB)), (q3, .inl (cZ, 64, .inl fH))] := hD
  refine lv_aload_n hx hb dX1_open_10 rfl (lv_at hl 0 rfl) ?_
  refine lv_iconst (v := 0) hx hb dX1_open_11 (by decide) ?_
  refine va_put (D := (dC, dI)) (ci := 1) (v := .int 0) (ty := .int) (C := RX1) (T := TX1) (N := 8) hx hb hts hi_1 tyX1 tyX1_ok nmX1 hown hK hP hD hS 0 rfl rfl 4 (by decide) (hts (.fieldLink RX1 27 "SegmentBoxModel" "many" "I") (by decide +kernel)) (fun _ h9 => h9) rfl (by decide +kernel) rfl rfl (Nat.le_of_ble_eq_true rfl) dX1_open_12 (fun H locs hP hD hS => ?_)
  have hP : va_P (dC, dI) vwCl [(a1, .inr (1, [.ref q1, .ref q2, .ref q3, .int n, .int 0, .int ed, .int 0, .int he])), (q1, .inl (cU, 64, .inl fU)), (q2, .inl (cV, 64, .inl fB)), (q3, .inl (cZ, 64, .inl fH))] H := hP
  have hD : va_D A [(a1, .inr (1, [.ref q1, .ref q2, .ref q3, .int n, .int 0, .int ed, .int 0, .int he])), (q1, .inl (cU, 64, .inl fU)), (q2, .inl (cV, 64, .inl fB)), (q3, .inl (cZ, 64, .inl fH))] := hD
  refine lv_aload_n hx hb dX1_open_15 rfl (lv_at hl 0 rfl) ?_
  refine lv_iconst (v := 0) hx hb dX1_open_16 (by decide) ?_
  refine va_put (D := (dC, dI)) (ci := 1) (v := .int 0) (ty := .boolean) (C := RX1) (T := TX1) (N := 8) hx hb hts hi_1 tyX1 tyX1_ok nmX1 hown hK hP hD hS 0 rfl rfl 7 (by decide) (hts (.fieldLink RX1 30 "SegmentBoxModel" "hasEnd" "Z") (by decide +kernel)) (fun _ h9 => h9) rfl (by decide +kernel) rfl rfl (Nat.le_of_ble_eq_true rfl) dX1_open_17 (fun H locs hP hD hS => ?_)
  have hP : va_P (dC, dI) vwCl [(a1, .inr (1, [.ref q1, .ref q2, .ref q3, .int n, .int 0, .int ed, .int 0, .int 0])), (q1, .inl (cU, 64, .inl fU)), (q2, .inl (cV, 64, .inl fB)), (q3, .inl (cZ, 64, .inl fH))] H := hP
  have hD : va_D A [(a1, .inr (1, [.ref q1, .ref q2, .ref q3, .int n, .int 0, .int ed, .int 0, .int 0])), (q1, .inl (cU, 64, .inl fU)), (q2, .inl (cV, 64, .inl fB)), (q3, .inl (cZ, 64, .inl fH))] := hD
  refine lv_iconst (v := 0) hx hb dX1_open_20 (by decide) ?_
  refine lv_istore_n (lv' := [(2, .int 0), (0, .ref a1), (1, .int n)]) hx hb dX1_open_21 rfl hl (by decide) rfl (fun ls hl => ?_)
  exact loop 64 0 0 fH (by omega) nI_0.symm (fun i hi => absurd hi (by omega)) H _ ls hP hD hS (lv_sub hl [0, 1, 2] rfl)
end
section
set_option maxHeartbeats 4000000 in
set_option maxRecDepth 100000 in
theorem m_up (l : Launch) (dC : Nat → ClassId) (dI : Nat → Nat → Nat) (a1 q1 q2 q3 : Nat) (cU cV cZ : ClassId) (nx mn ed th he : Int32) (fU fB fH : Nat → Int32) (u : Nat) (sz : Nat) (hu : mn = nI u) (hlt : u < 64) (hz : ∀ k, k < 64 → fH k = 0 ∨ fH k = 1) : Met l yX1_up wsX1_up ({ frames := 0, cells := 0, slots := 0, locals := 0 }) (va_Pc [.ref a1] (fun U => U.heap.size = sz ∧ va_P (dC, dI) vwCl [(a1, .inr (1, [.ref q1, .ref q2, .ref q3, .int nx, .int mn, .int ed, .int th, .int he])), (q1, .inl (cU, 64, .inl fU)), (q2, .inl (cV, 64, .inl fB)), (q3, .inl (cZ, 64, .inl fH))] U.heap ∧ va_K (dC, dI) vwCl [(cU, .int), (cV, .int), (cZ, .boolean)] U ∧ va_D (fun _ => True) [(a1, .inr (1, [.ref q1, .ref q2, .ref q3, .int nx, .int mn, .int ed, .int th, .int he])), (q1, .inl (cU, 64, .inl fU)), (q2, .inl (cV, 64, .inl fB)), (q3, .inl (cZ, 64, .inl fH))])) (va_Qv (fun (u0 : Int32 × Int32 × (Nat → Int32) × (Nat → Int32) × (Nat → Int32)) => match u0 with | (nx', mn', fU', fB', fH') => nx' = nx + 1 ∧ mn' = nI (u + 1) ∧ fU' = upd fU u (fB 0) ∧ (∀ k, k < 63 → fB' k = fB (k + 1)) ∧ (∀ k, k < 63 → fH' k = fH (k + 1)) ∧ fH' 63 = 0) (fun (u0 : Int32 × Int32 × (Nat → Int32) × (Nat → Int32) × (Nat → Int32)) (t : State) => match u0 with | (nx', mn', fU', fB', fH') => va_P (dC, dI) vwCl [(a1, .inr (1, [.ref q1, .ref q2, .ref q3, .int nx', .int mn', .int ed, .int th, .int he])), (q1, .inl (cU, 64, .inl fU')), (q2, .inl (cV, 64, .inl fB')), (q3, .inl (cZ, 64, .inl fH'))] t.heap ∧ va_K (dC, dI) vwCl [(cU, .int), (cV, .int), (cZ, .boolean)] t ∧ va_D (va_A [(a1, .inr (1, [.ref q1, .ref q2, .ref q3, .int nx, .int mn, .int ed, .int th, .int he])), (q1, .inl (cU, 64, .inl fU)), (q2, .inl (cV, 64, .inl fB)), (q3, .inl (cZ, 64, .inl fH))] sz) [(a1, .inr (1, [.ref q1, .ref q2, .ref q3, .int nx', .int mn', .int ed, .int th, .int he])), (q1, .inl (cU, 64, .inl fU')), (q2, .inl (cV, 64, .inl fB')), (q3, .inl (cZ, 64, .inl fH'))]) (va_A [(a1, .inr (1, [.ref q1, .ref q2, .ref q3, .int nx, .int mn, .int ed, .int th, .int he])), (q1, .inl (cU, 64, .inl fU)), (q2, .inl (cV, 64, .inl fB)), (q3, .inl (cZ, 64, .inl fH))] sz)) 0 0 (va_A [(a1, .inr (1, [.ref q1, .ref q2, .ref q3, .int nx, .int mn, .int ed, .int th, .int he])), (q1, .inl (cU, 64, .inl fU)), (q2, .inl (cV, 64, .inl fB)), (q3, .inl (cZ, 64, .inl fH))] sz) := by
  refine Met.ofW (cc := cX1_up) (maxL := 2) (ret := none) (by decide) rfl ?_
  intro p e s m args below meth c s₁ B hml hv
  obtain ⟨rfl, hsz, hP, hK, hD0⟩ := hv
  have hx := B.exec
  have hb := B.bytes
  have hr := B.returns
  have hts := atoms_spec (ws := wsX1_up) B.pre
  have hown : s.vm.findClass RX1 = some m.cls := findClass_of_methodNamed B.named
  have hlocks := B.notSynchronized
  subst hsz
  have hD := hD0.self (sz := s.heap.size)
  generalize hAe : va_A [(a1, .inr (1, [.ref q1, .ref q2, .ref q3, .int nx, .int mn, .int ed, .int th, .int he])), (q1, .inl (cU, 64, .inl fU)), (q2, .inl (cV, 64, .inl fB)), (q3, .inl (cZ, 64, .inl fH))] s.heap.size = A at hD ⊢
  have hA : ∀ q : Nat, s.heap.size ≤ q → A q := fun q h => by rw [← hAe]; exact Or.inr h
  have hS : va_S A s.heap s.heap [] := va_S.rf
  have hP : va_P (dC, dI) vwCl [(a1, .inr (1, [.ref q1, .ref q2, .ref q3, .int nx, .int mn, .int ed, .int th, .int he])), (q1, .inl (cU, 64, .inl fU)), (q2, .inl (cV, 64, .inl fB)), (q3, .inl (cZ, 64, .inl fH))] s.heap := hP
  have hl := lv_entry ([.ref a1]) (n := 2) (Nat.le_of_ble_eq_true rfl)
  rw [lg_entry_eq]
  generalize (lg_sl ([.ref a1]) ++ List.replicate (2 - (lg_sl ([.ref a1])).length) Slot.unset).toArray = ls at hl ⊢
  have hl : lv_has ls 2 [(0, .ref a1)] := hl
  have hi_1 : ∀ w ∈ u_ws RX1 TX1 8, w ∈ wsX1_up := by decide +kernel
  obtain ⟨nx', enx⟩ : ∃ y : Int32, y = nx + 1 := ⟨_, rfl⟩
  obtain ⟨mn', emn⟩ : ∃ y : Int32, y = mn + 1 := ⟨_, rfl⟩
  have loop : ∀ (cnt k : Nat) (x9 : Int32) (f8 f9 : Nat → Int32), k + cnt = 63 → x9 = nI k → (∀ i, i < k → f8 i = fB (i + 1)) → (∀ i, i < k → f9 i = fH (i + 1)) → (∀ i, k ≤ i → i < 64 → f8 i = fB i) → (∀ i, k ≤ i → i < 64 → f9 i = fH i) → ∀ (H : Heap) (locs : List Loc) (ls : Array Slot), va_P (dC, dI) vwCl [(a1, .inr (1, [.ref q1, .ref q2, .ref q3, .int nx', .int mn', .int ed, .int th, .int he])), (q1, .inl (cU, 64, .inl (upd fU mn.toNatClampNeg (fB (0 : Int32).toNatClampNeg)))), (q2, .inl (cV, 64, .inl f8)), (q3, .inl (cZ, 64, .inl f9))] H → va_D A [(a1, .inr (1, [.ref q1, .ref q2, .ref q3, .int nx', .int mn', .int ed, .int th, .int he])), (q1, .inl (cU, 64, .inl (upd fU mn.toNatClampNeg (fB (0 : Int32).toNatClampNeg)))), (q2, .inl (cV, 64, .inl f8)), (q3, .inl (cZ, 64, .inl f9))] → va_S A s.heap H locs → lv_has ls 2 [(1, .int x9), (0, .ref a1)] → W p l e (headSpec wsX1_up ({ frames := 0, cells := 0, slots := 0, locals := 0 })).room s m ([.ref a1] : List Value).toArray below meth c H locs 0 0 (MQ below (va_Qv (fun (u0 : Int32 × Int32 × (Nat → Int32) × (Nat → Int32) × (Nat → Int32)) => match u0 with | (nx', mn', fU', fB', fH') => nx' = nx + 1 ∧ mn' = nI (u + 1) ∧ fU' = upd fU u (fB 0) ∧ (∀ k, k < 63 → fB' k = fB (k + 1)) ∧ (∀ k, k < 63 → fH' k = fH (k + 1)) ∧ fH' 63 = 0) (fun (u0 : Int32 × Int32 × (Nat → Int32) × (Nat → Int32) × (Nat → Int32)) (t : State) => match u0 with | (nx', mn', fU', fB', fH') => va_P (dC, dI) vwCl [(a1, .inr (1, [.ref q1, .ref q2, .ref q3, .int nx', .int mn', .int ed, .int th, .int he])), (q1, .inl (cU, 64, .inl fU')), (q2, .inl (cV, 64, .inl fB')), (q3, .inl (cZ, 64, .inl fH'))] t.heap ∧ va_K (dC, dI) vwCl [(cU, .int), (cV, .int), (cZ, .boolean)] t ∧ va_D A [(a1, .inr (1, [.ref q1, .ref q2, .ref q3, .int nx', .int mn', .int ed, .int th, .int he])), (q1, .inl (cU, 64, .inl fU')), (q2, .inl (cV, 64, .inl fB')), (q3, .inl (cZ, 64, .inl fH'))]) A) ([.ref a1] : List Value).toArray s 0 0 A) (F0 m 37 ls []) := by
    intro cnt
    induction cnt with
    | zero =>
      intro k x9 f8 f9 hk h1 h2 h3 h4 h5 H locs ls hP hD hS hl
      refine lv_iload_n hx hb dX1_up_37 rfl (lv_at hl 0 rfl) ?_
      refine lv_iconst (v := 1) hx hb dX1_up_38 (by decide) ?_
      refine lv_iadd hx hb dX1_up_39 ?_
      refine lv_bipush (v := 64) hx hb dX1_up_40 (by decide) ?_
      refine lv_icmp_ge (tgt := 79) hx hb dX1_up_42 (by decide) (fun c_42 => ?_) (fun c_42 => ?_)
      · refine lv_aload_n hx hb dX1_up_79 rfl (lv_at hl 1 rfl) ?_
        refine va_get (D := (dC, dI)) (ci := 1) (v := .ref q3) (C := RX1) (T := TX1) (N := 8) hx hb hts hi_1 hown hK hP 0 rfl rfl 2 (by decide) (hts (.fieldLink RX1 16 "SegmentBoxModel" "isHeld" "[Z") (by decide +kernel)) (fun _ h9 => h9) rfl dX1_up_80 ?_
        refine lv_bipush (v := 63) hx hb dX1_up_83 (by decide) ?_
        refine lv_iconst (v := 0) hx hb dX1_up_85 (by decide) ?_
        refine va_zast hx hb hK hP hD hS 3 2 rfl rfl (inb_of (k := 63) rfl (by decide)) dX1_up_86 (fun H locs hP hD hS => ?_)
        have hP : va_P (dC, dI) vwCl [(a1, .inr (1, [.ref q1, .ref q2, .ref q3, .int nx', .int mn', .int ed, .int th, .int he])), (q1, .inl (cU, 64, .inl (upd fU mn.toNatClampNeg (fB (0 : Int32).toNatClampNeg)))), (q2, .inl (cV, 64, .inl f8)), (q3, .inl (cZ, 64, .inl (upd f9 (63 : Int32).toNatClampNeg (vp_nar .boolean 0))))] H := hP
        have hD : va_D A [(a1, .inr (1, [.ref q1, .ref q2, .ref q3, .int nx', .int mn', .int ed, .int th, .int he])), (q1, .inl (cU, 64, .inl (upd fU mn.toNatClampNeg (fB (0 : Int32).toNatClampNeg)))), (q2, .inl (cV, 64, .inl f8)), (q3, .inl (cZ, 64, .inl (upd f9 (63 : Int32).toNatClampNeg (vp_nar .boolean 0))))] := hD
        exact W.vret hx hb hr (fun t ht hW => ⟨⟨(nx', mn', upd fU mn.toNatClampNeg (fB (0 : Int32).toNatClampNeg), f8, upd f9 (63 : Int32).toNatClampNeg (vp_nar .boolean 0)), rfl, ⟨enx, by rw [emn, hu, nI_succ], by rw [cl_of hu (by omega)]; rfl, fun i hi => h2 i (by omega), fun i hi => by rw [show (63 : Int32).toNatClampNeg = 63 from by decide, pk_un (by omega)]; exact h3 i (by omega), by rw [show (63 : Int32).toNatClampNeg = 63 from by decide, pk_us]; rfl⟩, by rw [ht]; exact hP, va_K.moved hW.alike hK, hD⟩, hS.F ht⟩) hS.2.2 dX1_up_87
      · exact absurd ((ge64 (show x9 + 1 = nI (k + 1) by rw [h1, nI_succ]) (by omega)).mpr (by omega)) c_42
    | succ cnt ih =>
      intro k x9 f8 f9 hk h1 h2 h3 h4 h5 H locs ls hP hD hS hl
      refine lv_iload_n hx hb dX1_up_37 rfl (lv_at hl 0 rfl) ?_
      refine lv_iconst (v := 1) hx hb dX1_up_38 (by decide) ?_
      refine lv_iadd hx hb dX1_up_39 ?_
      refine lv_bipush (v := 64) hx hb dX1_up_40 (by decide) ?_
      refine lv_icmp_ge (tgt := 79) hx hb dX1_up_42 (by decide) (fun c_42 => ?_) (fun c_42 => ?_)
      · exact absurd ((ge64 (show x9 + 1 = nI (k + 1) by rw [h1, nI_succ]) (by omega)).mp c_42) (by omega)
      · refine lv_aload_n hx hb dX1_up_45 rfl (lv_at hl 1 rfl) ?_
        refine va_get (D := (dC, dI)) (ci := 1) (v := .ref q3) (C := RX1) (T := TX1) (N := 8) hx hb hts hi_1 hown hK hP 0 rfl rfl 2 (by decide) (hts (.fieldLink RX1 16 "SegmentBoxModel" "isHeld" "[Z") (by decide +kernel)) (fun _ h9 => h9) rfl dX1_up_46 ?_
        refine lv_iload_n hx hb dX1_up_49 rfl (lv_at hl 0 rfl) ?_
        refine lv_aload_n hx hb dX1_up_50 rfl (lv_at hl 1 rfl) ?_
        refine va_get (D := (dC, dI)) (ci := 1) (v := .ref q3) (C := RX1) (T := TX1) (N := 8) hx hb hts hi_1 hown hK hP 0 rfl rfl 2 (by decide) (hts (.fieldLink RX1 16 "SegmentBoxModel" "isHeld" "[Z") (by decide +kernel)) (fun _ h9 => h9) rfl dX1_up_51 ?_
        refine lv_iload_n hx hb dX1_up_54 rfl (lv_at hl 0 rfl) ?_
        refine lv_iconst (v := 1) hx hb dX1_up_55 (by decide) ?_
        refine lv_iadd hx hb dX1_up_56 ?_
        refine va_zald hx hb hK hP 3 2 rfl rfl (inb_of (show x9 + 1 = nI (k + 1) by rw [h1, nI_succ]) (by omega)) dX1_up_57 ?_
        refine va_zast hx hb hK hP hD hS 3 2 rfl rfl (inb_of h1 (by omega)) dX1_up_58 (fun H locs hP hD hS => ?_)
        have hP : va_P (dC, dI) vwCl [(a1, .inr (1, [.ref q1, .ref q2, .ref q3, .int nx', .int mn', .int ed, .int th, .int he])), (q1, .inl (cU, 64, .inl (upd fU mn.toNatClampNeg (fB (0 : Int32).toNatClampNeg)))), (q2, .inl (cV, 64, .inl f8)), (q3, .inl (cZ, 64, .inl (upd f9 x9.toNatClampNeg (vp_nar .boolean (f9 (x9 + 1).toNatClampNeg)))))] H := hP
        have hD : va_D A [(a1, .inr (1, [.ref q1, .ref q2, .ref q3, .int nx', .int mn', .int ed, .int th, .int he])), (q1, .inl (cU, 64, .inl (upd fU mn.toNatClampNeg (fB (0 : Int32).toNatClampNeg)))), (q2, .inl (cV, 64, .inl f8)), (q3, .inl (cZ, 64, .inl (upd f9 x9.toNatClampNeg (vp_nar .boolean (f9 (x9 + 1).toNatClampNeg)))))] := hD
        refine lv_aload_n hx hb dX1_up_59 rfl (lv_at hl 1 rfl) ?_
        refine va_get (D := (dC, dI)) (ci := 1) (v := .ref q2) (C := RX1) (T := TX1) (N := 8) hx hb hts hi_1 hown hK hP 0 rfl rfl 1 (by decide) (hts (.fieldLink RX1 13 "SegmentBoxModel" "byteAt" "[I") (by decide +kernel)) (fun _ h9 => h9) rfl dX1_up_60 ?_
        refine lv_iload_n hx hb dX1_up_63 rfl (lv_at hl 0 rfl) ?_
        refine lv_aload_n hx hb dX1_up_64 rfl (lv_at hl 1 rfl) ?_
        refine va_get (D := (dC, dI)) (ci := 1) (v := .ref q2) (C := RX1) (T := TX1) (N := 8) hx hb hts hi_1 hown hK hP 0 rfl rfl 1 (by decide) (hts (.fieldLink RX1 13 "SegmentBoxModel" "byteAt" "[I") (by decide +kernel)) (fun _ h9 => h9) rfl dX1_up_65 ?_
        refine lv_iload_n hx hb dX1_up_68 rfl (lv_at hl 0 rfl) ?_
        refine lv_iconst (v := 1) hx hb dX1_up_69 (by decide) ?_
        refine lv_iadd hx hb dX1_up_70 ?_
        refine va_iald hx hb hK hP 2 1 rfl rfl (inb_of (show x9 + 1 = nI (k + 1) by rw [h1, nI_succ]) (by omega)) dX1_up_71 ?_
        refine va_iast hx hb hK hP hD hS 2 1 rfl rfl (inb_of h1 (by omega)) dX1_up_72 (fun H locs hP hD hS => ?_)
        have hP : va_P (dC, dI) vwCl [(a1, .inr (1, [.ref q1, .ref q2, .ref q3, .int nx', .int mn', .int ed, .int th, .int he])), (q1, .inl (cU, 64, .inl (upd fU mn.toNatClampNeg (fB (0 : Int32).toNatClampNeg)))), (q2, .inl (cV, 64, .inl (upd f8 x9.toNatClampNeg (f8 (x9 + 1).toNatClampNeg)))), (q3, .inl (cZ, 64, .inl (upd f9 x9.toNatClampNeg (vp_nar .boolean (f9 (x9 + 1).toNatClampNeg)))))] H := hP
        have hD : va_D A [(a1, .inr (1, [.ref q1, .ref q2, .ref q3, .int nx', .int mn', .int ed, .int th, .int he])), (q1, .inl (cU, 64, .inl (upd fU mn.toNatClampNeg (fB (0 : Int32).toNatClampNeg)))), (q2, .inl (cV, 64, .inl (upd f8 x9.toNatClampNeg (f8 (x9 + 1).toNatClampNeg)))), (q3, .inl (cZ, 64, .inl (upd f9 x9.toNatClampNeg (vp_nar .boolean (f9 (x9 + 1).toNatClampNeg)))))] := hD
        obtain ⟨x_1, ex_1⟩ : ∃ y : Int32, y = x9 + 1 := ⟨_, rfl⟩
        refine lv_iinc (v := x_1) (lv' := [(1, .int x_1), (0, .ref a1)]) hx hb dX1_up_73 hl (k := 0) rfl (by rw [ex_1]; rfl) (by decide) rfl (fun ls hl => ?_)
        refine lv_goto (tgt := 37) hx hb dX1_up_76 (by decide) ?_
        have ek : x9.toNatClampNeg = k := cl_of h1 (by omega)
        have ek1 : (x9 + 1).toNatClampNeg = k + 1 := cl_of (show x9 + 1 = nI (k + 1) by rw [h1, nI_succ]) (by omega)
        exact ih (k + 1) x_1 _ _ (by omega) (by rw [ex_1, h1, nI_succ]) (fun i hi => by
          rw [ek, ek1]
          by_cases q : i = k
          · rw [q, pk_us]; exact h4 (k + 1) (by omega) (by omega)
          · rw [pk_un q]; exact h2 i (by omega)) (fun i hi => by
          rw [ek, ek1, h5 (k + 1) (by omega) (by omega), nar_b (hz (k + 1) (by omega))]
          by_cases q : i = k
          · rw [q, pk_us]
          · rw [pk_un q]; exact h3 i (by omega)) (fun i h6 h7 => by rw [ek, ek1, pk_un (by omega)]; exact h4 i (by omega) h7) (fun i h6 h7 => by rw [ek, pk_un (by omega)]; exact h5 i (by omega) h7) H locs ls hP hD hS (lv_sub hl [0, 1] rfl)
  refine lv_aload_n hx hb dX1_up_0 rfl (lv_at hl 0 rfl) ?_
  refine va_get (D := (dC, dI)) (ci := 1) (v := .ref q1) (C := RX1) (T := TX1) (N := 8) hx hb hts hi_1 hown hK hP 0 rfl rfl 0 (by decide) (hts (.fieldLink RX1 9 "SegmentBoxModel" "unread" "[I") (by decide +kernel)) (fun _ h9 => h9) rfl dX1_up_1 ?_
  refine lv_aload_n hx hb dX1_up_4 rfl (lv_at hl 0 rfl) ?_
  refine va_get (D := (dC, dI)) (ci := 1) (v := .int mn) (C := RX1) (T := TX1) (N := 8) hx hb hts hi_1 hown hK hP 0 rfl rfl 4 (by decide) (hts (.fieldLink RX1 27 "SegmentBoxModel" "many" "I") (by decide +kernel)) (fun _ h9 => h9) rfl dX1_up_5 ?_
  refine lv_aload_n hx hb dX1_up_8 rfl (lv_at hl 0 rfl) ?_
  refine va_get (D := (dC, dI)) (ci := 1) (v := .ref q2) (C := RX1) (T := TX1) (N := 8) hx hb hts hi_1 hown hK hP 0 rfl rfl 1 (by decide) (hts (.fieldLink RX1 13 "SegmentBoxModel" "byteAt" "[I") (by decide +kernel)) (fun _ h9 => h9) rfl dX1_up_9 ?_
  refine lv_iconst (v := 0) hx hb dX1_up_12 (by decide) ?_
  refine va_iald hx hb hK hP 2 1 rfl rfl inb_0 dX1_up_13 ?_
  refine va_iast hx hb hK hP hD hS 1 0 rfl rfl (inb_of hu hlt) dX1_up_14 (fun H locs hP hD hS => ?_)
  have hP : va_P (dC, dI) vwCl [(a1, .inr (1, [.ref q1, .ref q2, .ref q3, .int nx, .int mn, .int ed, .int th, .int he])), (q1, .inl (cU, 64, .inl (upd fU mn.toNatClampNeg (fB (0 : Int32).toNatClampNeg)))), (q2, .inl (cV, 64, .inl fB)), (q3, .inl (cZ, 64, .inl fH))] H := hP
  have hD : va_D A [(a1, .inr (1, [.ref q1, .ref q2, .ref q3, .int nx, .int mn, .int ed, .int th, .int he])), (q1, .inl (cU, 64, .inl (upd fU mn.toNatClampNeg (fB (0 : Int32).toNatClampNeg)))), (q2, .inl (cV, 64, .inl fB)), (q3, .inl (cZ, 64, .inl fH))] := hD
  refine lv_aload_n hx hb dX1_up_15 rfl (lv_at hl 0 rfl) ?_
  refine lv_dup hx hb dX1_up_16 rfl ?_
  refine va_get (D := (dC, dI)) (ci := 1) (v := .int mn) (C := RX1) (T := TX1) (N := 8) hx hb hts hi_1 hown hK hP 0 rfl rfl 4 (by decide) (hts (.fieldLink RX1 27 "SegmentBoxModel" "many" "I") (by decide +kernel)) (fun _ h9 => h9) rfl dX1_up_17 ?_
  refine lv_iconst (v := 1) hx hb dX1_up_20 (by decide) ?_
  refine lv_iadd hx hb dX1_up_21 ?_
  refine lv_topi (fun f_2 ef_2 => ?_)
  refine va_put (D := (dC, dI)) (ci := 1) (v := .int f_2) (ty := .int) (C := RX1) (T := TX1) (N := 8) hx hb hts hi_1 tyX1 tyX1_ok nmX1 hown hK hP hD hS 0 rfl rfl 4 (by decide) (hts (.fieldLink RX1 27 "SegmentBoxModel" "many" "I") (by decide +kernel)) (fun _ h9 => h9) rfl (by decide +kernel) rfl rfl (Nat.le_of_ble_eq_true rfl) dX1_up_22 (fun H locs hP hD hS => ?_)
  have hP : va_P (dC, dI) vwCl [(a1, .inr (1, [.ref q1, .ref q2, .ref q3, .int nx, .int f_2, .int ed, .int th, .int he])), (q1, .inl (cU, 64, .inl (upd fU mn.toNatClampNeg (fB (0 : Int32).toNatClampNeg)))), (q2, .inl (cV, 64, .inl fB)), (q3, .inl (cZ, 64, .inl fH))] H := hP
  have hD : va_D A [(a1, .inr (1, [.ref q1, .ref q2, .ref q3, .int nx, .int f_2, .int ed, .int th, .int he])), (q1, .inl (cU, 64, .inl (upd fU mn.toNatClampNeg (fB (0 : Int32).toNatClampNeg)))), (q2, .inl (cV, 64, .inl fB)), (q3, .inl (cZ, 64, .inl fH))] := hD
  refine lv_aload_n hx hb dX1_up_25 rfl (lv_at hl 0 rfl) ?_
  refine lv_dup hx hb dX1_up_26 rfl ?_
  refine va_get (D := (dC, dI)) (ci := 1) (v := .int nx) (C := RX1) (T := TX1) (N := 8) hx hb hts hi_1 hown hK hP 0 rfl rfl 3 (by decide) (hts (.fieldLink RX1 24 "SegmentBoxModel" "next" "I") (by decide +kernel)) (fun _ h9 => h9) rfl dX1_up_27 ?_
  refine lv_iconst (v := 1) hx hb dX1_up_30 (by decide) ?_
  refine lv_iadd hx hb dX1_up_31 ?_
  refine lv_topi (fun f_3 ef_3 => ?_)
  refine va_put (D := (dC, dI)) (ci := 1) (v := .int f_3) (ty := .int) (C := RX1) (T := TX1) (N := 8) hx hb hts hi_1 tyX1 tyX1_ok nmX1 hown hK hP hD hS 0 rfl rfl 3 (by decide) (hts (.fieldLink RX1 24 "SegmentBoxModel" "next" "I") (by decide +kernel)) (fun _ h9 => h9) rfl (by decide +kernel) rfl rfl (Nat.le_of_ble_eq_true rfl) dX1_up_32 (fun H locs hP hD hS => ?_)
  have hP : va_P (dC, dI) vwCl [(a1, .inr (1, [.ref q1, .ref q2, .ref q3, .int f_3, .int f_2, .int ed, .int th, .int he])), (q1, .inl (cU, 64, .inl (upd fU mn.toNatClampNeg (fB (0 : Int32).toNatClampNeg)))), (q2, .inl (cV, 64, .inl fB)), (q3, .inl (cZ, 64, .inl fH))] H := hP
  have hD : va_D A [(a1, .inr (1, [.ref q1, .ref q2, .ref q3, .int f_3, .int f_2, .int ed, .int th, .int he])), (q1, .inl (cU, 64, .inl (upd fU mn.toNatClampNeg (fB (0 : Int32).toNatClampNeg)))), (q2, .inl (cV, 64, .inl fB)), (q3, .inl (cZ, 64, .inl fH))] := hD
  refine lv_iconst (v := 0) hx hb dX1_up_35 (by decide) ?_
  refine lv_istore_n (lv' := [(1, .int 0), (0, .ref a1)]) hx hb dX1_up_36 rfl hl (by decide) rfl (fun ls hl => ?_)
  have en1 : f_3 = nx' := by rw [ef_3, enx]
  have em1 : f_2 = mn' := by rw [ef_2, emn]
  subst en1
  subst em1
  exact loop 63 0 0 fB fH (by omega) nI_0.symm (fun i hi => absurd hi (by omega)) (fun i hi => absurd hi (by omega)) (fun i _ _ => rfl) (fun i _ _ => rfl) H _ ls hP hD hS (lv_sub hl [0, 1] rfl)
end
section
set_option maxHeartbeats 4000000 in
set_option maxRecDepth 100000 in
theorem m_read (l : Launch) (dC : Nat → ClassId) (dI : Nat → Nat → Nat) (a1 q1 q2 q3 : Nat) (cU cV cZ : ClassId) (nx mn ed th he : Int32) (fU fB fH : Nat → Int32) (u : Nat) (sz : Nat) (hu : mn = nI u) (hu4 : u ≤ 64) : Met l yX1_read wsX1_read ({ frames := 0, cells := 0, slots := 0, locals := 0 }) (va_Pc [.ref a1] (fun U => U.heap.size = sz ∧ va_P (dC, dI) vwCl [(a1, .inr (1, [.ref q1, .ref q2, .ref q3, .int nx, .int mn, .int ed, .int th, .int he])), (q1, .inl (cU, 64, .inl fU)), (q2, .inl (cV, 64, .inl fB)), (q3, .inl (cZ, 64, .inl fH))] U.heap ∧ va_K (dC, dI) vwCl [(cU, .int), (cV, .int), (cZ, .boolean)] U ∧ va_D (fun _ => True) [(a1, .inr (1, [.ref q1, .ref q2, .ref q3, .int nx, .int mn, .int ed, .int th, .int he])), (q1, .inl (cU, 64, .inl fU)), (q2, .inl (cV, 64, .inl fB)), (q3, .inl (cZ, 64, .inl fH))])) (va_Qi (fun (r : Int32) (u0 : Int32 × (Nat → Int32)) => match u0 with | (mn', fU') => (u = 0 ∧ mn' = mn ∧ fU' = fU ∧ r = (if ¬ he = 0 ∧ nx = ed then -2 else -1)) ∨ ∃ u1 : Nat, u = u1 + 1 ∧ mn' = nI u1 ∧ r = fU 0 ∧ ∀ k, k < u1 → fU' k = fU (k + 1)) (fun (u0 : Int32 × (Nat → Int32)) (t : State) => match u0 with | (mn', fU') => va_P (dC, dI) vwCl [(a1, .inr (1, [.ref q1, .ref q2, .ref q3, .int nx, .int mn', .int ed, .int 0, .int he])), (q1, .inl (cU, 64, .inl fU')), (q2, .inl (cV, 64, .inl fB)), (q3, .inl (cZ, 64, .inl fH))] t.heap ∧ va_K (dC, dI) vwCl [(cU, .int), (cV, .int), (cZ, .boolean)] t ∧ va_D (va_A [(a1, .inr (1, [.ref q1, .ref q2, .ref q3, .int nx, .int mn, .int ed, .int th, .int he])), (q1, .inl (cU, 64, .inl fU)), (q2, .inl (cV, 64, .inl fB)), (q3, .inl (cZ, 64, .inl fH))] sz) [(a1, .inr (1, [.ref q1, .ref q2, .ref q3, .int nx, .int mn', .int ed, .int 0, .int he])), (q1, .inl (cU, 64, .inl fU')), (q2, .inl (cV, 64, .inl fB)), (q3, .inl (cZ, 64, .inl fH))]) (va_A [(a1, .inr (1, [.ref q1, .ref q2, .ref q3, .int nx, .int mn, .int ed, .int th, .int he])), (q1, .inl (cU, 64, .inl fU)), (q2, .inl (cV, 64, .inl fB)), (q3, .inl (cZ, 64, .inl fH))] sz)) 0 0 (va_A [(a1, .inr (1, [.ref q1, .ref q2, .ref q3, .int nx, .int mn, .int ed, .int th, .int he])), (q1, .inl (cU, 64, .inl fU)), (q2, .inl (cV, 64, .inl fB)), (q3, .inl (cZ, 64, .inl fH))] sz) := by
  refine Met.ofW (cc := cX1_read) (maxL := 3) (ret := (some .int)) (by decide) rfl ?_
  intro p e s m args below meth c s₁ B hml hv
  obtain ⟨rfl, hsz, hP, hK, hD0⟩ := hv
  have hx := B.exec
  have hb := B.bytes
  have hr := B.returns
  have hts := atoms_spec (ws := wsX1_read) B.pre
  have hown : s.vm.findClass RX1 = some m.cls := findClass_of_methodNamed B.named
  have hlocks := B.notSynchronized
  subst hsz
  have hD := hD0.self (sz := s.heap.size)
  generalize hAe : va_A [(a1, .inr (1, [.ref q1, .ref q2, .ref q3, .int nx, .int mn, .int ed, .int th, .int he])), (q1, .inl (cU, 64, .inl fU)), (q2, .inl (cV, 64, .inl fB)), (q3, .inl (cZ, 64, .inl fH))] s.heap.size = A at hD ⊢
  have hA : ∀ q : Nat, s.heap.size ≤ q → A q := fun q h => by rw [← hAe]; exact Or.inr h
  have hS : va_S A s.heap s.heap [] := va_S.rf
  have hP : va_P (dC, dI) vwCl [(a1, .inr (1, [.ref q1, .ref q2, .ref q3, .int nx, .int mn, .int ed, .int th, .int he])), (q1, .inl (cU, 64, .inl fU)), (q2, .inl (cV, 64, .inl fB)), (q3, .inl (cZ, 64, .inl fH))] s.heap := hP
  have hl := lv_entry ([.ref a1]) (n := 3) (Nat.le_of_ble_eq_true rfl)
  rw [lg_entry_eq]
  generalize (lg_sl ([.ref a1]) ++ List.replicate (3 - (lg_sl ([.ref a1])).length) Slot.unset).toArray = ls at hl ⊢
  have hl : lv_has ls 3 [(0, .ref a1)] := hl
  have hi_1 : ∀ w ∈ u_ws RX1 TX1 8, w ∈ wsX1_read := by decide +kernel
  refine lv_aload_n hx hb dX1_read_0 rfl (lv_at hl 0 rfl) ?_
  refine lv_iconst (v := 0) hx hb dX1_read_1 (by decide) ?_
  refine va_put (D := (dC, dI)) (ci := 1) (v := .int 0) (ty := .int) (C := RX1) (T := TX1) (N := 8) hx hb hts hi_1 tyX1 tyX1_ok nmX1 hown hK hP hD hS 0 rfl rfl 6 (by decide) (hts (.fieldLink RX1 20 "SegmentBoxModel" "thrown" "I") (by decide +kernel)) (fun _ h9 => h9) rfl (by decide +kernel) rfl rfl (Nat.le_of_ble_eq_true rfl) dX1_read_2 (fun H locs hP hD hS => ?_)
  have hP : va_P (dC, dI) vwCl [(a1, .inr (1, [.ref q1, .ref q2, .ref q3, .int nx, .int mn, .int ed, .int 0, .int he])), (q1, .inl (cU, 64, .inl fU)), (q2, .inl (cV, 64, .inl fB)), (q3, .inl (cZ, 64, .inl fH))] H := hP
  have hD : va_D A [(a1, .inr (1, [.ref q1, .ref q2, .ref q3, .int nx, .int mn, .int ed, .int 0, .int he])), (q1, .inl (cU, 64, .inl fU)), (q2, .inl (cV, 64, .inl fB)), (q3, .inl (cZ, 64, .inl fH))] := hD
  refine lv_aload_n hx hb dX1_read_5 rfl (lv_at hl 0 rfl) ?_
  refine va_get (D := (dC, dI)) (ci := 1) (v := .int mn) (C := RX1) (T := TX1) (N := 8) hx hb hts hi_1 hown hK hP 0 rfl rfl 4 (by decide) (hts (.fieldLink RX1 27 "SegmentBoxModel" "many" "I") (by decide +kernel)) (fun _ h9 => h9) rfl dX1_read_6 ?_
  refine lv_if_ne (tgt := 37) hx hb dX1_read_9 (by decide) (fun c_9 => ?_) (fun c_9 => ?_)
  · refine lv_aload_n hx hb dX1_read_37 rfl (lv_at hl 0 rfl) ?_
    refine va_get (D := (dC, dI)) (ci := 1) (v := .ref q1) (C := RX1) (T := TX1) (N := 8) hx hb hts hi_1 hown hK hP 0 rfl rfl 0 (by decide) (hts (.fieldLink RX1 9 "SegmentBoxModel" "unread" "[I") (by decide +kernel)) (fun _ h9 => h9) rfl dX1_read_38 ?_
    refine lv_iconst (v := 0) hx hb dX1_read_41 (by decide) ?_
    refine va_iald hx hb hK hP 1 0 rfl rfl inb_0 dX1_read_42 ?_
    refine lv_istore_n (lv' := [(1, .int (fU (0 : Int32).toNatClampNeg)), (0, .ref a1)]) hx hb dX1_read_43 rfl hl (by decide) rfl (fun ls hl => ?_)
    refine lv_aload_n hx hb dX1_read_44 rfl (lv_at hl 1 rfl) ?_
    refine lv_dup hx hb dX1_read_45 rfl ?_
    refine va_get (D := (dC, dI)) (ci := 1) (v := .int mn) (C := RX1) (T := TX1) (N := 8) hx hb hts hi_1 hown hK hP 0 rfl rfl 4 (by decide) (hts (.fieldLink RX1 27 "SegmentBoxModel" "many" "I") (by decide +kernel)) (fun _ h9 => h9) rfl dX1_read_46 ?_
    refine lv_iconst (v := 1) hx hb dX1_read_49 (by decide) ?_
    refine lv_isub hx hb dX1_read_50 ?_
    refine lv_topi (fun f_1 ef_1 => ?_)
    refine va_put (D := (dC, dI)) (ci := 1) (v := .int f_1) (ty := .int) (C := RX1) (T := TX1) (N := 8) hx hb hts hi_1 tyX1 tyX1_ok nmX1 hown hK hP hD hS 0 rfl rfl 4 (by decide) (hts (.fieldLink RX1 27 "SegmentBoxModel" "many" "I") (by decide +kernel)) (fun _ h9 => h9) rfl (by decide +kernel) rfl rfl (Nat.le_of_ble_eq_true rfl) dX1_read_51 (fun H locs hP hD hS => ?_)
    have hP : va_P (dC, dI) vwCl [(a1, .inr (1, [.ref q1, .ref q2, .ref q3, .int nx, .int f_1, .int ed, .int 0, .int he])), (q1, .inl (cU, 64, .inl fU)), (q2, .inl (cV, 64, .inl fB)), (q3, .inl (cZ, 64, .inl fH))] H := hP
    have hD : va_D A [(a1, .inr (1, [.ref q1, .ref q2, .ref q3, .int nx, .int f_1, .int ed, .int 0, .int he])), (q1, .inl (cU, 64, .inl fU)), (q2, .inl (cV, 64, .inl fB)), (q3, .inl (cZ, 64, .inl fH))] := hD
    obtain ⟨u1, hu1⟩ : ∃ u1, u = u1 + 1 := ⟨u - 1, by
      have : u ≠ 0 := fun z => c_9 (by rw [hu, z]; rfl)
      omega⟩
    have em : f_1 = nI u1 := by rw [ef_1, hu, hu1, nI_pred]
    have loop : ∀ (cnt k : Nat) (x9 : Int32) (f9 : Nat → Int32), k + cnt = u1 → x9 = nI k → (∀ i, i < k → f9 i = fU (i + 1)) → (∀ i, k ≤ i → i < 64 → f9 i = fU i) → ∀ (H : Heap) (locs : List Loc) (ls : Array Slot), va_P (dC, dI) vwCl [(a1, .inr (1, [.ref q1, .ref q2, .ref q3, .int nx, .int f_1, .int ed, .int 0, .int he])), (q1, .inl (cU, 64, .inl f9)), (q2, .inl (cV, 64, .inl fB)), (q3, .inl (cZ, 64, .inl fH))] H → va_D A [(a1, .inr (1, [.ref q1, .ref q2, .ref q3, .int nx, .int f_1, .int ed, .int 0, .int he])), (q1, .inl (cU, 64, .inl f9)), (q2, .inl (cV, 64, .inl fB)), (q3, .inl (cZ, 64, .inl fH))] → va_S A s.heap H locs → lv_has ls 3 [(2, .int x9), (1, .int (fU (0 : Int32).toNatClampNeg)), (0, .ref a1)] → W p l e (headSpec wsX1_read ({ frames := 0, cells := 0, slots := 0, locals := 0 })).room s m ([.ref a1] : List Value).toArray below meth c H locs 0 0 (MQ below (va_Qi (fun (r : Int32) (u0 : Int32 × (Nat → Int32)) => match u0 with | (mn', fU') => (u = 0 ∧ mn' = mn ∧ fU' = fU ∧ r = (if ¬ he = 0 ∧ nx = ed then -2 else -1)) ∨ ∃ u1 : Nat, u = u1 + 1 ∧ mn' = nI u1 ∧ r = fU 0 ∧ ∀ k, k < u1 → fU' k = fU (k + 1)) (fun (u0 : Int32 × (Nat → Int32)) (t : State) => match u0 with | (mn', fU') => va_P (dC, dI) vwCl [(a1, .inr (1, [.ref q1, .ref q2, .ref q3, .int nx, .int mn', .int ed, .int 0, .int he])), (q1, .inl (cU, 64, .inl fU')), (q2, .inl (cV, 64, .inl fB)), (q3, .inl (cZ, 64, .inl fH))] t.heap ∧ va_K (dC, dI) vwCl [(cU, .int), (cV, .int), (cZ, .boolean)] t ∧ va_D A [(a1, .inr (1, [.ref q1, .ref q2, .ref q3, .int nx, .int mn', .int ed, .int 0, .int he])), (q1, .inl (cU, 64, .inl fU')), (q2, .inl (cV, 64, .inl fB)), (q3, .inl (cZ, 64, .inl fH))]) A) ([.ref a1] : List Value).toArray s 0 0 A) (F0 m 56 ls []) := by
      intro cnt
      induction cnt with
      | zero =>
        intro k x9 f9 hk h1 h2 h3 H locs ls hP hD hS hl
        refine lv_iload_n hx hb dX1_read_56 rfl (lv_at hl 0 rfl) ?_
        refine lv_aload_n hx hb dX1_read_57 rfl (lv_at hl 2 rfl) ?_
        refine va_get (D := (dC, dI)) (ci := 1) (v := .int f_1) (C := RX1) (T := TX1) (N := 8) hx hb hts hi_1 hown hK hP 0 rfl rfl 4 (by decide) (hts (.fieldLink RX1 27 "SegmentBoxModel" "many" "I") (by decide +kernel)) (fun _ h9 => h9) rfl dX1_read_58 ?_
        refine lv_icmp_ge (tgt := 84) hx hb dX1_read_61 (by decide) (fun c_61 => ?_) (fun c_61 => ?_)
        · refine lv_iload_n hx hb dX1_read_84 rfl (lv_at hl 1 rfl) ?_
          exact W.iret (v := fU (0 : Int32).toNatClampNeg) hx hb hr (fun t ht hW => ⟨⟨fU (0 : Int32).toNatClampNeg, (f_1, f9), rfl, Or.inr ⟨u1, hu1, em, rfl, fun i hi => h2 i (by omega)⟩, by rw [ht]; exact hP, va_K.moved hW.alike hK, hD⟩, hS.F ht⟩) hS.2.2 dX1_read_85
        · exact absurd (by rw [em, h1]; exact nI_le (by omega) (by omega)) c_61
      | succ cnt ih =>
        intro k x9 f9 hk h1 h2 h3 H locs ls hP hD hS hl
        refine lv_iload_n hx hb dX1_read_56 rfl (lv_at hl 0 rfl) ?_
        refine lv_aload_n hx hb dX1_read_57 rfl (lv_at hl 2 rfl) ?_
        refine va_get (D := (dC, dI)) (ci := 1) (v := .int f_1) (C := RX1) (T := TX1) (N := 8) hx hb hts hi_1 hown hK hP 0 rfl rfl 4 (by decide) (hts (.fieldLink RX1 27 "SegmentBoxModel" "many" "I") (by decide +kernel)) (fun _ h9 => h9) rfl dX1_read_58 ?_
        refine lv_icmp_ge (tgt := 84) hx hb dX1_read_61 (by decide) (fun c_61 => ?_) (fun c_61 => ?_)
        · exact absurd c_61 (by rw [em, h1]; exact nI_ge (by omega) (by omega))
        · refine lv_aload_n hx hb dX1_read_64 rfl (lv_at hl 2 rfl) ?_
          refine va_get (D := (dC, dI)) (ci := 1) (v := .ref q1) (C := RX1) (T := TX1) (N := 8) hx hb hts hi_1 hown hK hP 0 rfl rfl 0 (by decide) (hts (.fieldLink RX1 9 "SegmentBoxModel" "unread" "[I") (by decide +kernel)) (fun _ h9 => h9) rfl dX1_read_65 ?_
          refine lv_iload_n hx hb dX1_read_68 rfl (lv_at hl 0 rfl) ?_
          refine lv_aload_n hx hb dX1_read_69 rfl (lv_at hl 2 rfl) ?_
          refine va_get (D := (dC, dI)) (ci := 1) (v := .ref q1) (C := RX1) (T := TX1) (N := 8) hx hb hts hi_1 hown hK hP 0 rfl rfl 0 (by decide) (hts (.fieldLink RX1 9 "SegmentBoxModel" "unread" "[I") (by decide +kernel)) (fun _ h9 => h9) rfl dX1_read_70 ?_
          refine lv_iload_n hx hb dX1_read_73 rfl (lv_at hl 0 rfl) ?_
          refine lv_iconst (v := 1) hx hb dX1_read_74 (by decide) ?_
          refine lv_iadd hx hb dX1_read_75 ?_
          refine va_iald hx hb hK hP 1 0 rfl rfl (inb_of (show x9 + 1 = nI (k + 1) by rw [h1, nI_succ]) (by omega)) dX1_read_76 ?_
          refine va_iast hx hb hK hP hD hS 1 0 rfl rfl (inb_of h1 (by omega)) dX1_read_77 (fun H locs hP hD hS => ?_)
          have hP : va_P (dC, dI) vwCl [(a1, .inr (1, [.ref q1, .ref q2, .ref q3, .int nx, .int f_1, .int ed, .int 0, .int he])), (q1, .inl (cU, 64, .inl (upd f9 x9.toNatClampNeg (f9 (x9 + 1).toNatClampNeg)))), (q2, .inl (cV, 64, .inl fB)), (q3, .inl (cZ, 64, .inl fH))] H := hP
          have hD : va_D A [(a1, .inr (1, [.ref q1, .ref q2, .ref q3, .int nx, .int f_1, .int ed, .int 0, .int he])), (q1, .inl (cU, 64, .inl (upd f9 x9.toNatClampNeg (f9 (x9 + 1).toNatClampNeg)))), (q2, .inl (cV, 64, .inl fB)), (q3, .inl (cZ, 64, .inl fH))] := hD
          obtain ⟨x_2, ex_2⟩ : ∃ y : Int32, y = x9 + 1 := ⟨_, rfl⟩
          refine lv_iinc (v := x_2) (lv' := [(2, .int x_2), (1, .int (fU (0 : Int32).toNatClampNeg)), (0, .ref a1)]) hx hb dX1_read_78 hl (k := 0) rfl (by rw [ex_2]; rfl) (by decide) rfl (fun ls hl => ?_)
          refine lv_goto (tgt := 56) hx hb dX1_read_81 (by decide) ?_
          have ek : x9.toNatClampNeg = k := cl_of h1 (by omega)
          have ek1 : (x9 + 1).toNatClampNeg = k + 1 := cl_of (show x9 + 1 = nI (k + 1) by rw [h1, nI_succ]) (by omega)
          exact ih (k + 1) x_2 _ (by omega) (by rw [ex_2, h1, nI_succ]) (fun i hi => by
            rw [ek, ek1]
            by_cases q : i = k
            · rw [q, pk_us]; exact h3 (k + 1) (by omega) (by omega)
            · rw [pk_un q]; exact h2 i (by omega)) (fun i h6 h7 => by rw [ek, pk_un (by omega)]; exact h3 i (by omega) h7) H locs ls hP hD hS (lv_sub hl [0, 1, 2] rfl)
    refine lv_iconst (v := 0) hx hb dX1_read_54 (by decide) ?_
    refine lv_istore_n (lv' := [(2, .int 0), (1, .int (fU (0 : Int32).toNatClampNeg)), (0, .ref a1)]) hx hb dX1_read_55 rfl hl (by decide) rfl (fun ls hl => ?_)
    exact loop u1 0 0 fU (by omega) nI_0.symm (fun i hi => absurd hi (by omega)) (fun i _ _ => rfl) H _ ls hP hD hS (lv_sub hl [0, 1, 2] rfl)
  · refine lv_aload_n hx hb dX1_read_12 rfl (lv_at hl 0 rfl) ?_
    refine va_get (D := (dC, dI)) (ci := 1) (v := .int he) (C := RX1) (T := TX1) (N := 8) hx hb hts hi_1 hown hK hP 0 rfl rfl 7 (by decide) (hts (.fieldLink RX1 30 "SegmentBoxModel" "hasEnd" "Z") (by decide +kernel)) (fun _ h9 => h9) rfl dX1_read_13 ?_
    refine lv_if_eq (tgt := 35) hx hb dX1_read_16 (by decide) (fun c_16 => ?_) (fun c_16 => ?_)
    · refine lv_iconst (v := -1) hx hb dX1_read_35 (by decide) ?_
      exact W.iret (v := (-1)) hx hb hr (fun t ht hW => ⟨⟨(-1), (mn, fU), rfl, Or.inl ⟨by rw [hu] at c_9; exact (nI_eq (b := 0) (by omega) (by decide)).mp c_9, rfl, rfl, (if_neg (fun z => z.1 c_16)).symm⟩, by rw [ht]; exact hP, va_K.moved hW.alike hK, hD⟩, hS.F ht⟩) hS.2.2 dX1_read_36
    · refine lv_aload_n hx hb dX1_read_19 rfl (lv_at hl 0 rfl) ?_
      refine va_get (D := (dC, dI)) (ci := 1) (v := .int nx) (C := RX1) (T := TX1) (N := 8) hx hb hts hi_1 hown hK hP 0 rfl rfl 3 (by decide) (hts (.fieldLink RX1 24 "SegmentBoxModel" "next" "I") (by decide +kernel)) (fun _ h9 => h9) rfl dX1_read_20 ?_
      refine lv_aload_n hx hb dX1_read_23 rfl (lv_at hl 0 rfl) ?_
      refine va_get (D := (dC, dI)) (ci := 1) (v := .int ed) (C := RX1) (T := TX1) (N := 8) hx hb hts hi_1 hown hK hP 0 rfl rfl 5 (by decide) (hts (.fieldLink RX1 34 "SegmentBoxModel" "end" "I") (by decide +kernel)) (fun _ h9 => h9) rfl dX1_read_24 ?_
      refine lv_icmp_ne (tgt := 35) hx hb dX1_read_27 (by decide) (fun c_27 => ?_) (fun c_27 => ?_)
      · refine lv_iconst (v := -1) hx hb dX1_read_35 (by decide) ?_
        exact W.iret (v := (-1)) hx hb hr (fun t ht hW => ⟨⟨(-1), (mn, fU), rfl, Or.inl ⟨by rw [hu] at c_9; exact (nI_eq (b := 0) (by omega) (by decide)).mp c_9, rfl, rfl, (if_neg (fun z => c_27 z.2)).symm⟩, by rw [ht]; exact hP, va_K.moved hW.alike hK, hD⟩, hS.F ht⟩) hS.2.2 dX1_read_36
      · refine lv_bipush (v := -2) hx hb dX1_read_30 (by decide) ?_
        refine lv_goto (tgt := 36) hx hb dX1_read_32 (by decide) ?_
        exact W.iret (v := (-2)) hx hb hr (fun t ht hW => ⟨⟨(-2), (mn, fU), rfl, Or.inl ⟨by rw [hu] at c_9; exact (nI_eq (b := 0) (by omega) (by decide)).mp c_9, rfl, rfl, (if_pos ⟨c_16, c_27⟩).symm⟩, by rw [ht]; exact hP, va_K.moved hW.alike hK, hD⟩, hS.F ht⟩) hS.2.2 dX1_read_36
end
section
set_option maxHeartbeats 4000000 in
set_option maxRecDepth 100000 in
theorem m_heldM (l : Launch) (dC : Nat → ClassId) (dI : Nat → Nat → Nat) (a1 q1 q2 q3 : Nat) (cU cV cZ : ClassId) (nx mn ed th he : Int32) (fU fB fH : Nat → Int32) (n : Int32) (sz : Nat)  : Met l yX1_held wsX1_held ({ frames := 0, cells := 0, slots := 0, locals := 0 }) (va_Pc [.ref a1, .int n] (fun U => U.heap.size = sz ∧ va_P (dC, dI) vwCl [(a1, .inr (1, [.ref q1, .ref q2, .ref q3, .int nx, .int mn, .int ed, .int th, .int he])), (q1, .inl (cU, 64, .inl fU)), (q2, .inl (cV, 64, .inl fB)), (q3, .inl (cZ, 64, .inl fH))] U.heap ∧ va_K (dC, dI) vwCl [(cU, .int), (cV, .int), (cZ, .boolean)] U ∧ va_D (fun _ => True) [(a1, .inr (1, [.ref q1, .ref q2, .ref q3, .int nx, .int mn, .int ed, .int th, .int he])), (q1, .inl (cU, 64, .inl fU)), (q2, .inl (cV, 64, .inl fB)), (q3, .inl (cZ, 64, .inl fH))])) (va_Qi (fun (r : Int32) (u0 : Unit) => match u0 with | () => r = bI (m_hd fH (n - nx))) (fun (u0 : Unit) (t : State) => match u0 with | () => va_P (dC, dI) vwCl [(a1, .inr (1, [.ref q1, .ref q2, .ref q3, .int nx, .int mn, .int ed, .int 0, .int he])), (q1, .inl (cU, 64, .inl fU)), (q2, .inl (cV, 64, .inl fB)), (q3, .inl (cZ, 64, .inl fH))] t.heap ∧ va_K (dC, dI) vwCl [(cU, .int), (cV, .int), (cZ, .boolean)] t ∧ va_D (va_A [(a1, .inr (1, [.ref q1, .ref q2, .ref q3, .int nx, .int mn, .int ed, .int th, .int he])), (q1, .inl (cU, 64, .inl fU)), (q2, .inl (cV, 64, .inl fB)), (q3, .inl (cZ, 64, .inl fH))] sz) [(a1, .inr (1, [.ref q1, .ref q2, .ref q3, .int nx, .int mn, .int ed, .int 0, .int he])), (q1, .inl (cU, 64, .inl fU)), (q2, .inl (cV, 64, .inl fB)), (q3, .inl (cZ, 64, .inl fH))]) (va_A [(a1, .inr (1, [.ref q1, .ref q2, .ref q3, .int nx, .int mn, .int ed, .int th, .int he])), (q1, .inl (cU, 64, .inl fU)), (q2, .inl (cV, 64, .inl fB)), (q3, .inl (cZ, 64, .inl fH))] sz)) 0 0 (va_A [(a1, .inr (1, [.ref q1, .ref q2, .ref q3, .int nx, .int mn, .int ed, .int th, .int he])), (q1, .inl (cU, 64, .inl fU)), (q2, .inl (cV, 64, .inl fB)), (q3, .inl (cZ, 64, .inl fH))] sz) := by
  refine Met.ofW (cc := cX1_held) (maxL := 3) (ret := (some .boolean)) (by decide) rfl ?_
  intro p e s m args below meth c s₁ B hml hv
  obtain ⟨rfl, hsz, hP, hK, hD0⟩ := hv
  have hx := B.exec
  have hb := B.bytes
  have hr := B.returns
  have hts := atoms_spec (ws := wsX1_held) B.pre
  have hown : s.vm.findClass RX1 = some m.cls := findClass_of_methodNamed B.named
  have hlocks := B.notSynchronized
  subst hsz
  have hD := hD0.self (sz := s.heap.size)
  generalize hAe : va_A [(a1, .inr (1, [.ref q1, .ref q2, .ref q3, .int nx, .int mn, .int ed, .int th, .int he])), (q1, .inl (cU, 64, .inl fU)), (q2, .inl (cV, 64, .inl fB)), (q3, .inl (cZ, 64, .inl fH))] s.heap.size = A at hD ⊢
  have hA : ∀ q : Nat, s.heap.size ≤ q → A q := fun q h => by rw [← hAe]; exact Or.inr h
  have hS : va_S A s.heap s.heap [] := va_S.rf
  have hP : va_P (dC, dI) vwCl [(a1, .inr (1, [.ref q1, .ref q2, .ref q3, .int nx, .int mn, .int ed, .int th, .int he])), (q1, .inl (cU, 64, .inl fU)), (q2, .inl (cV, 64, .inl fB)), (q3, .inl (cZ, 64, .inl fH))] s.heap := hP
  have hl := lv_entry ([.ref a1, .int n]) (n := 3) (Nat.le_of_ble_eq_true rfl)
  rw [lg_entry_eq]
  generalize (lg_sl ([.ref a1, .int n]) ++ List.replicate (3 - (lg_sl ([.ref a1, .int n])).length) Slot.unset).toArray = ls at hl ⊢
  have hl : lv_has ls 3 [(0, .ref a1), (1, .int n)] := hl
  have hi_1 : ∀ w ∈ u_ws RX1 TX1 8, w ∈ wsX1_held := by decide +kernel
  refine lv_aload_n hx hb dX1_held_0 rfl (lv_at hl 0 rfl) ?_
  refine lv_iconst (v := 0) hx hb dX1_held_1 (by decide) ?_
  refine va_put (D := (dC, dI)) (ci := 1) (v := .int 0) (ty := .int) (C := RX1) (T := TX1) (N := 8) hx hb hts hi_1 tyX1 tyX1_ok nmX1 hown hK hP hD hS 0 rfl rfl 6 (by decide) (hts (.fieldLink RX1 20 "SegmentBoxModel" "thrown" "I") (by decide +kernel)) (fun _ h9 => h9) rfl (by decide +kernel) rfl rfl (Nat.le_of_ble_eq_true rfl) dX1_held_2 (fun H locs hP hD hS => ?_)
  have hP : va_P (dC, dI) vwCl [(a1, .inr (1, [.ref q1, .ref q2, .ref q3, .int nx, .int mn, .int ed, .int 0, .int he])), (q1, .inl (cU, 64, .inl fU)), (q2, .inl (cV, 64, .inl fB)), (q3, .inl (cZ, 64, .inl fH))] H := hP
  have hD : va_D A [(a1, .inr (1, [.ref q1, .ref q2, .ref q3, .int nx, .int mn, .int ed, .int 0, .int he])), (q1, .inl (cU, 64, .inl fU)), (q2, .inl (cV, 64, .inl fB)), (q3, .inl (cZ, 64, .inl fH))] := hD
  refine lv_iload_n hx hb dX1_held_5 rfl (lv_at hl 1 rfl) ?_
  refine lv_aload_n hx hb dX1_held_6 rfl (lv_at hl 0 rfl) ?_
  refine va_get (D := (dC, dI)) (ci := 1) (v := .int nx) (C := RX1) (T := TX1) (N := 8) hx hb hts hi_1 hown hK hP 0 rfl rfl 3 (by decide) (hts (.fieldLink RX1 24 "SegmentBoxModel" "next" "I") (by decide +kernel)) (fun _ h9 => h9) rfl dX1_held_7 ?_
  refine lv_isub hx hb dX1_held_10 ?_
  refine lv_istore_n (lv' := [(2, .int (n - nx)), (0, .ref a1), (1, .int n)]) hx hb dX1_held_11 rfl hl (by decide) rfl (fun ls hl => ?_)
  refine lv_iload_n hx hb dX1_held_12 rfl (lv_at hl 0 rfl) ?_
  refine lv_if_lt (tgt := 35) hx hb dX1_held_13 (by decide) (fun c_13 => ?_) (fun c_13 => ?_)
  · refine lv_iconst (v := 0) hx hb dX1_held_35 (by decide) ?_
    exact W.zret (v := 0) hx hb hr rfl (fun t ht hW => ⟨⟨0, (), rfl, bI_f (fun z => z.1 c_13), by rw [ht]; exact hP, va_K.moved hW.alike hK, hD⟩, hS.F ht⟩) hS.2.2 dX1_held_36
  · refine lv_iload_n hx hb dX1_held_16 rfl (lv_at hl 0 rfl) ?_
    refine lv_bipush (v := 64) hx hb dX1_held_17 (by decide) ?_
    refine lv_icmp_ge (tgt := 35) hx hb dX1_held_19 (by decide) (fun c_19 => ?_) (fun c_19 => ?_)
    · refine lv_iconst (v := 0) hx hb dX1_held_35 (by decide) ?_
      exact W.zret (v := 0) hx hb hr rfl (fun t ht hW => ⟨⟨0, (), rfl, bI_f (fun z => Int32.not_le.mpr z.2.1 c_19), by rw [ht]; exact hP, va_K.moved hW.alike hK, hD⟩, hS.F ht⟩) hS.2.2 dX1_held_36
    · refine lv_aload_n hx hb dX1_held_22 rfl (lv_at hl 1 rfl) ?_
      refine va_get (D := (dC, dI)) (ci := 1) (v := .ref q3) (C := RX1) (T := TX1) (N := 8) hx hb hts hi_1 hown hK hP 0 rfl rfl 2 (by decide) (hts (.fieldLink RX1 16 "SegmentBoxModel" "isHeld" "[Z") (by decide +kernel)) (fun _ h9 => h9) rfl dX1_held_23 ?_
      refine lv_iload_n hx hb dX1_held_26 rfl (lv_at hl 0 rfl) ?_
      refine va_zald hx hb hK hP 3 2 rfl rfl (by obtain ⟨k, hk, ed9⟩ := lt64 c_13 c_19; exact inb_of ed9 hk) dX1_held_27 ?_
      refine lv_if_eq (tgt := 35) hx hb dX1_held_28 (by decide) (fun c_28 => ?_) (fun c_28 => ?_)
      · refine lv_iconst (v := 0) hx hb dX1_held_35 (by decide) ?_
        exact W.zret (v := 0) hx hb hr rfl (fun t ht hW => ⟨⟨0, (), rfl, bI_f (fun z => z.2.2 c_28), by rw [ht]; exact hP, va_K.moved hW.alike hK, hD⟩, hS.F ht⟩) hS.2.2 dX1_held_36
      · refine lv_iconst (v := 1) hx hb dX1_held_31 (by decide) ?_
        refine lv_goto (tgt := 36) hx hb dX1_held_32 (by decide) ?_
        exact W.zret (v := 1) hx hb hr rfl (fun t ht hW => ⟨⟨1, (), rfl, bI_t ⟨c_13, Int32.not_le.mp c_19, c_28⟩, by rw [ht]; exact hP, va_K.moved hW.alike hK, hD⟩, hS.F ht⟩) hS.2.2 dX1_held_36
end
section
set_option maxHeartbeats 4000000 in
set_option maxRecDepth 100000 in
theorem m_end (l : Launch) (dC : Nat → ClassId) (dI : Nat → Nat → Nat) (a1 q1 q2 q3 : Nat) (cU cV cZ : ClassId) (nx mn ed th he : Int32) (fU fB fH : Nat → Int32) (n : Int32) (sz : Nat)  : Met l yX1_end wsX1_end ({ frames := 0, cells := 0, slots := 0, locals := 0 }) (va_Pc [.ref a1, .int n] (fun U => U.heap.size = sz ∧ va_P (dC, dI) vwCl [(a1, .inr (1, [.ref q1, .ref q2, .ref q3, .int nx, .int mn, .int ed, .int th, .int he])), (q1, .inl (cU, 64, .inl fU)), (q2, .inl (cV, 64, .inl fB)), (q3, .inl (cZ, 64, .inl fH))] U.heap ∧ va_K (dC, dI) vwCl [(cU, .int), (cV, .int), (cZ, .boolean)] U ∧ va_D (fun _ => True) [(a1, .inr (1, [.ref q1, .ref q2, .ref q3, .int nx, .int mn, .int ed, .int th, .int he])), (q1, .inl (cU, 64, .inl fU)), (q2, .inl (cV, 64, .inl fB)), (q3, .inl (cZ, 64, .inl fH))])) (va_Qi (fun (r : Int32) (u0 : Int32 × Int32) => match u0 with | (ed', he') => (r = 1 ∧ he' = 1 ∧ ed' = n ∧ m_eok nx mn he fH n) ∨ (r = 0 ∧ he' = he ∧ ed' = ed ∧ ¬ m_eok nx mn he fH n)) (fun (u0 : Int32 × Int32) (t : State) => match u0 with | (ed', he') => va_P (dC, dI) vwCl [(a1, .inr (1, [.ref q1, .ref q2, .ref q3, .int nx, .int mn, .int ed', .int 0, .int he'])), (q1, .inl (cU, 64, .inl fU)), (q2, .inl (cV, 64, .inl fB)), (q3, .inl (cZ, 64, .inl fH))] t.heap ∧ va_K (dC, dI) vwCl [(cU, .int), (cV, .int), (cZ, .boolean)] t ∧ va_D (va_A [(a1, .inr (1, [.ref q1, .ref q2, .ref q3, .int nx, .int mn, .int ed, .int th, .int he])), (q1, .inl (cU, 64, .inl fU)), (q2, .inl (cV, 64, .inl fB)), (q3, .inl (cZ, 64, .inl fH))] sz) [(a1, .inr (1, [.ref q1, .ref q2, .ref q3, .int nx, .int mn, .int ed', .int 0, .int he'])), (q1, .inl (cU, 64, .inl fU)), (q2, .inl (cV, 64, .inl fB)), (q3, .inl (cZ, 64, .inl fH))]) (va_A [(a1, .inr (1, [.ref q1, .ref q2, .ref q3, .int nx, .int mn, .int ed, .int th, .int he])), (q1, .inl (cU, 64, .inl fU)), (q2, .inl (cV, 64, .inl fB)), (q3, .inl (cZ, 64, .inl fH))] sz)) 0 0 (va_A [(a1, .inr (1, [.ref q1, .ref q2, .ref q3, .int nx, .int mn, .int ed, .int th, .int he])), (q1, .inl (cU, 64, .inl fU)), (q2, .inl (cV, 64, .inl fB)), (q3, .inl (cZ, 64, .inl fH))] sz) := by
  refine Met.ofW (cc := cX1_end) (maxL := 4) (ret := (some .boolean)) (by decide) rfl ?_
  intro p e s m args below meth c s₁ B hml hv
  obtain ⟨rfl, hsz, hP, hK, hD0⟩ := hv
  have hx := B.exec
  have hb := B.bytes
  have hr := B.returns
  have hts := atoms_spec (ws := wsX1_end) B.pre
  have hown : s.vm.findClass RX1 = some m.cls := findClass_of_methodNamed B.named
  have hlocks := B.notSynchronized
  subst hsz
  have hD := hD0.self (sz := s.heap.size)
  generalize hAe : va_A [(a1, .inr (1, [.ref q1, .ref q2, .ref q3, .int nx, .int mn, .int ed, .int th, .int he])), (q1, .inl (cU, 64, .inl fU)), (q2, .inl (cV, 64, .inl fB)), (q3, .inl (cZ, 64, .inl fH))] s.heap.size = A at hD ⊢
  have hA : ∀ q : Nat, s.heap.size ≤ q → A q := fun q h => by rw [← hAe]; exact Or.inr h
  have hS : va_S A s.heap s.heap [] := va_S.rf
  have hP : va_P (dC, dI) vwCl [(a1, .inr (1, [.ref q1, .ref q2, .ref q3, .int nx, .int mn, .int ed, .int th, .int he])), (q1, .inl (cU, 64, .inl fU)), (q2, .inl (cV, 64, .inl fB)), (q3, .inl (cZ, 64, .inl fH))] s.heap := hP
  have hl := lv_entry ([.ref a1, .int n]) (n := 4) (Nat.le_of_ble_eq_true rfl)
  rw [lg_entry_eq]
  generalize (lg_sl ([.ref a1, .int n]) ++ List.replicate (4 - (lg_sl ([.ref a1, .int n])).length) Slot.unset).toArray = ls at hl ⊢
  have hl : lv_has ls 4 [(0, .ref a1), (1, .int n)] := hl
  have hi_1 : ∀ w ∈ u_ws RX1 TX1 8, w ∈ wsX1_end := by decide +kernel
  refine lv_aload_n hx hb dX1_end_0 rfl (lv_at hl 0 rfl) ?_
  refine lv_iconst (v := 0) hx hb dX1_end_1 (by decide) ?_
  refine va_put (D := (dC, dI)) (ci := 1) (v := .int 0) (ty := .int) (C := RX1) (T := TX1) (N := 8) hx hb hts hi_1 tyX1 tyX1_ok nmX1 hown hK hP hD hS 0 rfl rfl 6 (by decide) (hts (.fieldLink RX1 20 "SegmentBoxModel" "thrown" "I") (by decide +kernel)) (fun _ h9 => h9) rfl (by decide +kernel) rfl rfl (Nat.le_of_ble_eq_true rfl) dX1_end_2 (fun H locs hP hD hS => ?_)
  have hP : va_P (dC, dI) vwCl [(a1, .inr (1, [.ref q1, .ref q2, .ref q3, .int nx, .int mn, .int ed, .int 0, .int he])), (q1, .inl (cU, 64, .inl fU)), (q2, .inl (cV, 64, .inl fB)), (q3, .inl (cZ, 64, .inl fH))] H := hP
  have hD : va_D A [(a1, .inr (1, [.ref q1, .ref q2, .ref q3, .int nx, .int mn, .int ed, .int 0, .int he])), (q1, .inl (cU, 64, .inl fU)), (q2, .inl (cV, 64, .inl fB)), (q3, .inl (cZ, 64, .inl fH))] := hD
  refine lv_iload_n hx hb dX1_end_5 rfl (lv_at hl 1 rfl) ?_
  refine lv_aload_n hx hb dX1_end_6 rfl (lv_at hl 0 rfl) ?_
  refine va_get (D := (dC, dI)) (ci := 1) (v := .int nx) (C := RX1) (T := TX1) (N := 8) hx hb hts hi_1 hown hK hP 0 rfl rfl 3 (by decide) (hts (.fieldLink RX1 24 "SegmentBoxModel" "next" "I") (by decide +kernel)) (fun _ h9 => h9) rfl dX1_end_7 ?_
  refine lv_isub hx hb dX1_end_10 ?_
  refine lv_istore_n (lv' := [(2, .int (n - nx)), (0, .ref a1), (1, .int n)]) hx hb dX1_end_11 rfl hl (by decide) rfl (fun ls hl => ?_)
  refine lv_aload_n hx hb dX1_end_12 rfl (lv_at hl 1 rfl) ?_
  refine va_get (D := (dC, dI)) (ci := 1) (v := .int he) (C := RX1) (T := TX1) (N := 8) hx hb hts hi_1 hown hK hP 0 rfl rfl 7 (by decide) (hts (.fieldLink RX1 30 "SegmentBoxModel" "hasEnd" "Z") (by decide +kernel)) (fun _ h9 => h9) rfl dX1_end_13 ?_
  refine lv_if_ne (tgt := 34) hx hb dX1_end_16 (by decide) (fun c_16 => ?_) (fun c_16 => ?_)
  · refine lv_iconst (v := 0) hx hb dX1_end_34 (by decide) ?_
    exact W.zret (v := 0) hx hb hr rfl (fun t ht hW => ⟨⟨0, (ed, he), rfl, Or.inr ⟨rfl, rfl, rfl, fun z => c_16 z.1⟩, by rw [ht]; exact hP, va_K.moved hW.alike hK, hD⟩, hS.F ht⟩) hS.2.2 dX1_end_35
  · refine lv_iload_n hx hb dX1_end_19 rfl (lv_at hl 0 rfl) ?_
    refine lv_if_lt (tgt := 34) hx hb dX1_end_20 (by decide) (fun c_20 => ?_) (fun c_20 => ?_)
    · refine lv_iconst (v := 0) hx hb dX1_end_34 (by decide) ?_
      exact W.zret (v := 0) hx hb hr rfl (fun t ht hW => ⟨⟨0, (ed, he), rfl, Or.inr ⟨rfl, rfl, rfl, fun z => z.2.1 c_20⟩, by rw [ht]; exact hP, va_K.moved hW.alike hK, hD⟩, hS.F ht⟩) hS.2.2 dX1_end_35
    · refine lv_iload_n hx hb dX1_end_23 rfl (lv_at hl 0 rfl) ?_
      refine lv_bipush (v := 64) hx hb dX1_end_24 (by decide) ?_
      refine lv_aload_n hx hb dX1_end_26 rfl (lv_at hl 1 rfl) ?_
      refine va_get (D := (dC, dI)) (ci := 1) (v := .int mn) (C := RX1) (T := TX1) (N := 8) hx hb hts hi_1 hown hK hP 0 rfl rfl 4 (by decide) (hts (.fieldLink RX1 27 "SegmentBoxModel" "many" "I") (by decide +kernel)) (fun _ h9 => h9) rfl dX1_end_27 ?_
      refine lv_isub hx hb dX1_end_30 ?_
      refine lv_icmp_le (tgt := 36) hx hb dX1_end_31 (by decide) (fun c_31 => ?_) (fun c_31 => ?_)
      · obtain ⟨d0, hd0, hd⟩ := nI_of c_20
        have loop : ∀ (cnt k : Nat) (x9 : Int32), 64 ≤ k + cnt → k < 2 ^ 31 → x9 = nI k → (∀ i, d0 ≤ i → i < k → fH i = 0) → d0 ≤ k → ∀ (H : Heap) (locs : List Loc) (ls : Array Slot), va_P (dC, dI) vwCl [(a1, .inr (1, [.ref q1, .ref q2, .ref q3, .int nx, .int mn, .int ed, .int 0, .int he])), (q1, .inl (cU, 64, .inl fU)), (q2, .inl (cV, 64, .inl fB)), (q3, .inl (cZ, 64, .inl fH))] H → va_D A [(a1, .inr (1, [.ref q1, .ref q2, .ref q3, .int nx, .int mn, .int ed, .int 0, .int he])), (q1, .inl (cU, 64, .inl fU)), (q2, .inl (cV, 64, .inl fB)), (q3, .inl (cZ, 64, .inl fH))] → va_S A s.heap H locs → lv_has ls 4 [(3, .int x9), (2, .int (n - nx)), (0, .ref a1), (1, .int n)] → W p l e (headSpec wsX1_end ({ frames := 0, cells := 0, slots := 0, locals := 0 })).room s m ([.ref a1, .int n] : List Value).toArray below meth c H locs 0 0 (MQ below (va_Qi (fun (r : Int32) (u0 : Int32 × Int32) => match u0 with | (ed', he') => (r = 1 ∧ he' = 1 ∧ ed' = n ∧ m_eok nx mn he fH n) ∨ (r = 0 ∧ he' = he ∧ ed' = ed ∧ ¬ m_eok nx mn he fH n)) (fun (u0 : Int32 × Int32) (t : State) => match u0 with | (ed', he') => va_P (dC, dI) vwCl [(a1, .inr (1, [.ref q1, .ref q2, .ref q3, .int nx, .int mn, .int ed', .int 0, .int he'])), (q1, .inl (cU, 64, .inl fU)), (q2, .inl (cV, 64, .inl fB)), (q3, .inl (cZ, 64, .inl fH))] t.heap ∧ va_K (dC, dI) vwCl [(cU, .int), (cV, .int), (cZ, .boolean)] t ∧ va_D A [(a1, .inr (1, [.ref q1, .ref q2, .ref q3, .int nx, .int mn, .int ed', .int 0, .int he'])), (q1, .inl (cU, 64, .inl fU)), (q2, .inl (cV, 64, .inl fB)), (q3, .inl (cZ, 64, .inl fH))]) A) ([.ref a1, .int n] : List Value).toArray s 0 0 A) (F0 m 38 ls []) := by
          intro cnt
          induction cnt with
          | zero =>
            intro k x9 hk hk31 h1 h2 h3 H locs ls hP hD hS hl
            refine lv_iload_n hx hb dX1_end_38 rfl (lv_at hl 0 rfl) ?_
            refine lv_bipush (v := 64) hx hb dX1_end_39 (by decide) ?_
            refine lv_icmp_ge (tgt := 61) hx hb dX1_end_41 (by decide) (fun c_41 => ?_) (fun c_41 => ?_)
            · refine lv_aload_n hx hb dX1_end_61 rfl (lv_at hl 2 rfl) ?_
              refine lv_iconst (v := 1) hx hb dX1_end_62 (by decide) ?_
              refine va_put (D := (dC, dI)) (ci := 1) (v := .int 1) (ty := .boolean) (C := RX1) (T := TX1) (N := 8) hx hb hts hi_1 tyX1 tyX1_ok nmX1 hown hK hP hD hS 0 rfl rfl 7 (by decide) (hts (.fieldLink RX1 30 "SegmentBoxModel" "hasEnd" "Z") (by decide +kernel)) (fun _ h9 => h9) rfl (by decide +kernel) rfl rfl (Nat.le_of_ble_eq_true rfl) dX1_end_63 (fun H locs hP hD hS => ?_)
              have hP : va_P (dC, dI) vwCl [(a1, .inr (1, [.ref q1, .ref q2, .ref q3, .int nx, .int mn, .int ed, .int 0, .int 1])), (q1, .inl (cU, 64, .inl fU)), (q2, .inl (cV, 64, .inl fB)), (q3, .inl (cZ, 64, .inl fH))] H := hP
              have hD : va_D A [(a1, .inr (1, [.ref q1, .ref q2, .ref q3, .int nx, .int mn, .int ed, .int 0, .int 1])), (q1, .inl (cU, 64, .inl fU)), (q2, .inl (cV, 64, .inl fB)), (q3, .inl (cZ, 64, .inl fH))] := hD
              refine lv_aload_n hx hb dX1_end_66 rfl (lv_at hl 2 rfl) ?_
              refine lv_iload_n hx hb dX1_end_67 rfl (lv_at hl 3 rfl) ?_
              refine va_put (D := (dC, dI)) (ci := 1) (v := .int n) (ty := .int) (C := RX1) (T := TX1) (N := 8) hx hb hts hi_1 tyX1 tyX1_ok nmX1 hown hK hP hD hS 0 rfl rfl 5 (by decide) (hts (.fieldLink RX1 34 "SegmentBoxModel" "end" "I") (by decide +kernel)) (fun _ h9 => h9) rfl (by decide +kernel) rfl rfl (Nat.le_of_ble_eq_true rfl) dX1_end_68 (fun H locs hP hD hS => ?_)
              have hP : va_P (dC, dI) vwCl [(a1, .inr (1, [.ref q1, .ref q2, .ref q3, .int nx, .int mn, .int n, .int 0, .int 1])), (q1, .inl (cU, 64, .inl fU)), (q2, .inl (cV, 64, .inl fB)), (q3, .inl (cZ, 64, .inl fH))] H := hP
              have hD : va_D A [(a1, .inr (1, [.ref q1, .ref q2, .ref q3, .int nx, .int mn, .int n, .int 0, .int 1])), (q1, .inl (cU, 64, .inl fU)), (q2, .inl (cV, 64, .inl fB)), (q3, .inl (cZ, 64, .inl fH))] := hD
              refine lv_iconst (v := 1) hx hb dX1_end_71 (by decide) ?_
              exact W.zret (v := 1) hx hb hr rfl (fun t ht hW => ⟨⟨1, (n, 1), rfl, Or.inl ⟨rfl, rfl, rfl, c_16, c_20, c_31, fun i hi h6 => h2 i (by rw [hd, nI_clamp hd0] at h6; exact h6) (by have := (ge64 h1 (by omega)).mp c_41; omega)⟩, by rw [ht]; exact hP, va_K.moved hW.alike hK, hD⟩, hS.F ht⟩) hS.2.2 dX1_end_72
            · exact absurd ((ge64 h1 (by omega)).mpr (by omega)) c_41
          | succ cnt ih =>
            intro k x9 hk hk31 h1 h2 h3 H locs ls hP hD hS hl
            have hk9 : ¬ (64 : Int32) ≤ x9 → k < 64 := fun q => Nat.lt_of_not_le (fun z => q ((ge64 h1 (by omega)).mpr z))
            refine lv_iload_n hx hb dX1_end_38 rfl (lv_at hl 0 rfl) ?_
            refine lv_bipush (v := 64) hx hb dX1_end_39 (by decide) ?_
            refine lv_icmp_ge (tgt := 61) hx hb dX1_end_41 (by decide) (fun c_41 => ?_) (fun c_41 => ?_)
            · refine lv_aload_n hx hb dX1_end_61 rfl (lv_at hl 2 rfl) ?_
              refine lv_iconst (v := 1) hx hb dX1_end_62 (by decide) ?_
              refine va_put (D := (dC, dI)) (ci := 1) (v := .int 1) (ty := .boolean) (C := RX1) (T := TX1) (N := 8) hx hb hts hi_1 tyX1 tyX1_ok nmX1 hown hK hP hD hS 0 rfl rfl 7 (by decide) (hts (.fieldLink RX1 30 "SegmentBoxModel" "hasEnd" "Z") (by decide +kernel)) (fun _ h9 => h9) rfl (by decide +kernel) rfl rfl (Nat.le_of_ble_eq_true rfl) dX1_end_63 (fun H locs hP hD hS => ?_)
              have hP : va_P (dC, dI) vwCl [(a1, .inr (1, [.ref q1, .ref q2, .ref q3, .int nx, .int mn, .int ed, .int 0, .int 1])), (q1, .inl (cU, 64, .inl fU)), (q2, .inl (cV, 64, .inl fB)), (q3, .inl (cZ, 64, .inl fH))] H := hP
              have hD : va_D A [(a1, .inr (1, [.ref q1, .ref q2, .ref q3, .int nx, .int mn, .int ed, .int 0, .int 1])), (q1, .inl (cU, 64, .inl fU)), (q2, .inl (cV, 64, .inl fB)), (q3, .inl (cZ, 64, .inl fH))] := hD
              refine lv_aload_n hx hb dX1_end_66 rfl (lv_at hl 2 rfl) ?_
              refine lv_iload_n hx hb dX1_end_67 rfl (lv_at hl 3 rfl) ?_
              refine va_put (D := (dC, dI)) (ci := 1) (v := .int n) (ty := .int) (C := RX1) (T := TX1) (N := 8) hx hb hts hi_1 tyX1 tyX1_ok nmX1 hown hK hP hD hS 0 rfl rfl 5 (by decide) (hts (.fieldLink RX1 34 "SegmentBoxModel" "end" "I") (by decide +kernel)) (fun _ h9 => h9) rfl (by decide +kernel) rfl rfl (Nat.le_of_ble_eq_true rfl) dX1_end_68 (fun H locs hP hD hS => ?_)
              have hP : va_P (dC, dI) vwCl [(a1, .inr (1, [.ref q1, .ref q2, .ref q3, .int nx, .int mn, .int n, .int 0, .int 1])), (q1, .inl (cU, 64, .inl fU)), (q2, .inl (cV, 64, .inl fB)), (q3, .inl (cZ, 64, .inl fH))] H := hP
              have hD : va_D A [(a1, .inr (1, [.ref q1, .ref q2, .ref q3, .int nx, .int mn, .int n, .int 0, .int 1])), (q1, .inl (cU, 64, .inl fU)), (q2, .inl (cV, 64, .inl fB)), (q3, .inl (cZ, 64, .inl fH))] := hD
              refine lv_iconst (v := 1) hx hb dX1_end_71 (by decide) ?_
              exact W.zret (v := 1) hx hb hr rfl (fun t ht hW => ⟨⟨1, (n, 1), rfl, Or.inl ⟨rfl, rfl, rfl, c_16, c_20, c_31, fun i hi h6 => h2 i (by rw [hd, nI_clamp hd0] at h6; exact h6) (by have := (ge64 h1 (by omega)).mp c_41; omega)⟩, by rw [ht]; exact hP, va_K.moved hW.alike hK, hD⟩, hS.F ht⟩) hS.2.2 dX1_end_72
            · refine lv_aload_n hx hb dX1_end_44 rfl (lv_at hl 2 rfl) ?_
              refine va_get (D := (dC, dI)) (ci := 1) (v := .ref q3) (C := RX1) (T := TX1) (N := 8) hx hb hts hi_1 hown hK hP 0 rfl rfl 2 (by decide) (hts (.fieldLink RX1 16 "SegmentBoxModel" "isHeld" "[Z") (by decide +kernel)) (fun _ h9 => h9) rfl dX1_end_45 ?_
              refine lv_iload_n hx hb dX1_end_48 rfl (lv_at hl 0 rfl) ?_
              refine va_zald hx hb hK hP 3 2 rfl rfl (inb_of h1 (hk9 c_41)) dX1_end_49 ?_
              refine lv_if_eq (tgt := 55) hx hb dX1_end_50 (by decide) (fun c_50 => ?_) (fun c_50 => ?_)
              · obtain ⟨x_1, ex_1⟩ : ∃ y : Int32, y = x9 + 1 := ⟨_, rfl⟩
                refine lv_iinc (v := x_1) (lv' := [(3, .int x_1), (2, .int (n - nx)), (0, .ref a1), (1, .int n)]) hx hb dX1_end_55 hl (k := 0) rfl (by rw [ex_1]; rfl) (by decide) rfl (fun ls hl => ?_)
                refine lv_goto (tgt := 38) hx hb dX1_end_58 (by decide) ?_
                have hk8 := hk9 c_41
                exact ih (k + 1) x_1 (by omega) (by omega) (by rw [ex_1, h1, nI_succ]) (fun i h6 h7 => by
                  by_cases q : i = k
                  · rw [q, ← cl_of h1 (by omega)]; exact c_50
                  · exact h2 i h6 (by omega)) (by omega) H locs ls hP hD hS (lv_sub hl [0, 1, 2, 3] rfl)
              · refine lv_iconst (v := 0) hx hb dX1_end_53 (by decide) ?_
                exact W.zret (v := 0) hx hb hr rfl (fun t ht hW => ⟨⟨0, (ed, he), rfl, Or.inr ⟨rfl, rfl, rfl, fun z => c_50 (by rw [cl_of h1 (by omega)]; exact z.2.2.2 k (hk9 c_41) (by rw [hd, nI_clamp hd0]; exact h3))⟩, by rw [ht]; exact hP, va_K.moved hW.alike hK, hD⟩, hS.F ht⟩) hS.2.2 dX1_end_54
        refine lv_iload_n hx hb dX1_end_36 rfl (lv_at hl 0 rfl) ?_
        refine lv_istore_n (lv' := [(3, .int (n - nx)), (2, .int (n - nx)), (0, .ref a1), (1, .int n)]) hx hb dX1_end_37 rfl hl (by decide) rfl (fun ls hl => ?_)
        exact loop 64 d0 (n - nx) (by omega) hd0 hd (fun i h6 h7 => absurd h7 (by omega)) (Nat.le_refl _) H _ ls hP hD hS (lv_sub hl [0, 1, 2, 3] rfl)
      · refine lv_iconst (v := 0) hx hb dX1_end_34 (by decide) ?_
        exact W.zret (v := 0) hx hb hr rfl (fun t ht hW => ⟨⟨0, (ed, he), rfl, Or.inr ⟨rfl, rfl, rfl, fun z => c_31 z.2.2.1⟩, by rw [ht]; exact hP, va_K.moved hW.alike hK, hD⟩, hS.F ht⟩) hS.2.2 dX1_end_35
end
section
set_option maxHeartbeats 4000000 in
set_option maxRecDepth 100000 in
theorem m_from (l : Launch) (dC : Nat → ClassId) (dI : Nat → Nat → Nat) (a1 q1 q2 q3 : Nat) (cU cV cZ : ClassId) (nx mn ed th he : Int32) (fU fB fH : Nat → Int32) (i : Int32) (i0 : Nat) (sz : Nat) (hi : i = nI i0) (hi0 : i0 < 2 ^ 31) : Met l yX1_from wsX1_from ({ frames := 0, cells := 0, slots := 0, locals := 0 }) (va_Pc [.ref a1, .int i] (fun U => U.heap.size = sz ∧ va_P (dC, dI) vwCl [(a1, .inr (1, [.ref q1, .ref q2, .ref q3, .int nx, .int mn, .int ed, .int th, .int he])), (q1, .inl (cU, 64, .inl fU)), (q2, .inl (cV, 64, .inl fB)), (q3, .inl (cZ, 64, .inl fH))] U.heap ∧ va_K (dC, dI) vwCl [(cU, .int), (cV, .int), (cZ, .boolean)] U ∧ va_D (fun _ => True) [(a1, .inr (1, [.ref q1, .ref q2, .ref q3, .int nx, .int mn, .int ed, .int th, .int he])), (q1, .inl (cU, 64, .inl fU)), (q2, .inl (cV, 64, .inl fB)), (q3, .inl (cZ, 64, .inl fH))])) (va_Qi (fun (r : Int32) (u0 : Unit) => match u0 with | () => (∃ k : Nat, k < 64 ∧ r = nI k ∧ st (pH fH) k = true ∧ sg_c (st (pH fH)) k = i0) ∨ (r = -1 ∧ sg_c (st (pH fH)) 64 ≤ i0)) (fun (u0 : Unit) (t : State) => match u0 with | () => va_P (dC, dI) vwCl [(a1, .inr (1, [.ref q1, .ref q2, .ref q3, .int nx, .int mn, .int ed, .int th, .int he])), (q1, .inl (cU, 64, .inl fU)), (q2, .inl (cV, 64, .inl fB)), (q3, .inl (cZ, 64, .inl fH))] t.heap ∧ va_K (dC, dI) vwCl [(cU, .int), (cV, .int), (cZ, .boolean)] t ∧ va_D (va_A [(a1, .inr (1, [.ref q1, .ref q2, .ref q3, .int nx, .int mn, .int ed, .int th, .int he])), (q1, .inl (cU, 64, .inl fU)), (q2, .inl (cV, 64, .inl fB)), (q3, .inl (cZ, 64, .inl fH))] sz) [(a1, .inr (1, [.ref q1, .ref q2, .ref q3, .int nx, .int mn, .int ed, .int th, .int he])), (q1, .inl (cU, 64, .inl fU)), (q2, .inl (cV, 64, .inl fB)), (q3, .inl (cZ, 64, .inl fH))]) (va_A [(a1, .inr (1, [.ref q1, .ref q2, .ref q3, .int nx, .int mn, .int ed, .int th, .int he])), (q1, .inl (cU, 64, .inl fU)), (q2, .inl (cV, 64, .inl fB)), (q3, .inl (cZ, 64, .inl fH))] sz)) 0 0 (va_A [(a1, .inr (1, [.ref q1, .ref q2, .ref q3, .int nx, .int mn, .int ed, .int th, .int he])), (q1, .inl (cU, 64, .inl fU)), (q2, .inl (cV, 64, .inl fB)), (q3, .inl (cZ, 64, .inl fH))] sz) := by
  refine Met.ofW (cc := cX1_from) (maxL := 4) (ret := (some .int)) (by decide) rfl ?_
  intro p e s m args below meth c s₁ B hml hv
  obtain ⟨rfl, hsz, hP, hK, hD0⟩ := hv
  have hx := B.exec
  have hb := B.bytes
  have hr := B.returns
  have hts := atoms_spec (ws := wsX1_from) B.pre
  have hown : s.vm.findClass RX1 = some m.cls := findClass_of_methodNamed B.named
  have hlocks := B.notSynchronized
  subst hsz
  have hD := hD0.self (sz := s.heap.size)
  generalize hAe : va_A [(a1, .inr (1, [.ref q1, .ref q2, .ref q3, .int nx, .int mn, .int ed, .int th, .int he])), (q1, .inl (cU, 64, .inl fU)), (q2, .inl (cV, 64, .inl fB)), (q3, .inl (cZ, 64, .inl fH))] s.heap.size = A at hD ⊢
  have hA : ∀ q : Nat, s.heap.size ≤ q → A q := fun q h => by rw [← hAe]; exact Or.inr h
  have hS : va_S A s.heap s.heap [] := va_S.rf
  have hP : va_P (dC, dI) vwCl [(a1, .inr (1, [.ref q1, .ref q2, .ref q3, .int nx, .int mn, .int ed, .int th, .int he])), (q1, .inl (cU, 64, .inl fU)), (q2, .inl (cV, 64, .inl fB)), (q3, .inl (cZ, 64, .inl fH))] s.heap := hP
  have hl := lv_entry ([.ref a1, .int i]) (n := 4) (Nat.le_of_ble_eq_true rfl)
  rw [lg_entry_eq]
  generalize (lg_sl ([.ref a1, .int i]) ++ List.replicate (4 - (lg_sl ([.ref a1, .int i])).length) Slot.unset).toArray = ls at hl ⊢
  have hl : lv_has ls 4 [(0, .ref a1), (1, .int i)] := hl
  have hi_1 : ∀ w ∈ u_ws RX1 TX1 8, w ∈ wsX1_from := by decide +kernel
  have loop : ∀ (cnt k : Nat) (x9 y9 : Int32), k + cnt = 64 → x9 = nI k → y9 = nI (i0 - sg_c (st (pH fH)) k) → sg_c (st (pH fH)) k ≤ i0 → ∀ (H : Heap) (locs : List Loc) (ls : Array Slot), va_P (dC, dI) vwCl [(a1, .inr (1, [.ref q1, .ref q2, .ref q3, .int nx, .int mn, .int ed, .int th, .int he])), (q1, .inl (cU, 64, .inl fU)), (q2, .inl (cV, 64, .inl fB)), (q3, .inl (cZ, 64, .inl fH))] H → va_D A [(a1, .inr (1, [.ref q1, .ref q2, .ref q3, .int nx, .int mn, .int ed, .int th, .int he])), (q1, .inl (cU, 64, .inl fU)), (q2, .inl (cV, 64, .inl fB)), (q3, .inl (cZ, 64, .inl fH))] → va_S A s.heap H locs → lv_has ls 4 [(3, .int x9), (2, .int y9), (0, .ref a1), (1, .int i)] → W p l e (headSpec wsX1_from ({ frames := 0, cells := 0, slots := 0, locals := 0 })).room s m ([.ref a1, .int i] : List Value).toArray below meth c H locs 0 0 (MQ below (va_Qi (fun (r : Int32) (u0 : Unit) => match u0 with | () => (∃ k : Nat, k < 64 ∧ r = nI k ∧ st (pH fH) k = true ∧ sg_c (st (pH fH)) k = i0) ∨ (r = -1 ∧ sg_c (st (pH fH)) 64 ≤ i0)) (fun (u0 : Unit) (t : State) => match u0 with | () => va_P (dC, dI) vwCl [(a1, .inr (1, [.ref q1, .ref q2, .ref q3, .int nx, .int mn, .int ed, .int th, .int he])), (q1, .inl (cU, 64, .inl fU)), (q2, .inl (cV, 64, .inl fB)), (q3, .inl (cZ, 64, .inl fH))] t.heap ∧ va_K (dC, dI) vwCl [(cU, .int), (cV, .int), (cZ, .boolean)] t ∧ va_D A [(a1, .inr (1, [.ref q1, .ref q2, .ref q3, .int nx, .int mn, .int ed, .int th, .int he])), (q1, .inl (cU, 64, .inl fU)), (q2, .inl (cV, 64, .inl fB)), (q3, .inl (cZ, 64, .inl fH))]) A) ([.ref a1, .int i] : List Value).toArray s 0 0 A) (F0 m 4 ls []) := by
    intro cnt
    induction cnt with
    | zero =>
      intro k x9 y9 hk h1 h2 h3 H locs ls hP hD hS hl
      refine lv_iload_n hx hb dX1_from_4 rfl (lv_at hl 0 rfl) ?_
      refine lv_bipush (v := 64) hx hb dX1_from_5 (by decide) ?_
      refine lv_icmp_ge (tgt := 52) hx hb dX1_from_7 (by decide) (fun c_7 => ?_) (fun c_7 => ?_)
      · refine lv_iconst (v := -1) hx hb dX1_from_52 (by decide) ?_
        exact W.iret (v := (-1)) hx hb hr (fun t ht hW => ⟨⟨(-1), (), rfl, Or.inr ⟨rfl, by rw [← show k = 64 by omega]; exact h3⟩, by rw [ht]; exact hP, va_K.moved hW.alike hK, hD⟩, hS.F ht⟩) hS.2.2 dX1_from_53
      · exact absurd ((ge64 h1 (by omega)).mpr (by omega)) c_7
    | succ cnt ih =>
      intro k x9 y9 hk h1 h2 h3 H locs ls hP hD hS hl
      have hc9 := sg_c_le (st (pH fH)) k
      have ek : x9.toNatClampNeg = k := cl_of h1 (by omega)
      have k0 : ¬ x9 ≤ 0 → 0 < k := fun q => Nat.pos_of_ne_zero (fun z => q (by rw [h1, z]; decide))
      have em1 : ¬ x9 ≤ 0 → x9 - 1 = nI (k - 1) := fun q => by
        have := k0 q
        rw [h1, show k = (k - 1) + 1 by omega, nI_pred]
        rfl
      refine lv_iload_n hx hb dX1_from_4 rfl (lv_at hl 0 rfl) ?_
      refine lv_bipush (v := 64) hx hb dX1_from_5 (by decide) ?_
      refine lv_icmp_ge (tgt := 52) hx hb dX1_from_7 (by decide) (fun c_7 => ?_) (fun c_7 => ?_)
      · exact absurd ((ge64 h1 (by omega)).mp c_7) (by omega)
      · refine lv_aload_n hx hb dX1_from_10 rfl (lv_at hl 2 rfl) ?_
        refine va_get (D := (dC, dI)) (ci := 1) (v := .ref q3) (C := RX1) (T := TX1) (N := 8) hx hb hts hi_1 hown hK hP 0 rfl rfl 2 (by decide) (hts (.fieldLink RX1 16 "SegmentBoxModel" "isHeld" "[Z") (by decide +kernel)) (fun _ h9 => h9) rfl dX1_from_11 ?_
        refine lv_iload_n hx hb dX1_from_14 rfl (lv_at hl 0 rfl) ?_
        refine va_zald hx hb hK hP 3 2 rfl rfl (inb_of h1 (by omega)) dX1_from_15 ?_
        refine lv_if_eq (tgt := 46) hx hb dX1_from_16 (by decide) (fun c_16 => ?_) (fun c_16 => ?_)
        · obtain ⟨x_1, ex_1⟩ : ∃ y : Int32, y = x9 + 1 := ⟨_, rfl⟩
          refine lv_iinc (v := x_1) (lv' := [(3, .int x_1), (2, .int y9), (0, .ref a1), (1, .int i)]) hx hb dX1_from_46 hl (k := 0) rfl (by rw [ex_1]; rfl) (by decide) rfl (fun ls hl => ?_)
          refine lv_goto (tgt := 4) hx hb dX1_from_49 (by decide) ?_
          have hst : st (pH fH) k = false := st_0 (pH_f (by rw [← ek]; exact c_16))
          have hcs := sg_cn hst
          exact ih (k + 1) x_1 y9 (by omega) (by rw [ex_1, h1, nI_succ]) (by rw [hcs]; exact h2) (by omega) H locs ls hP hD hS (lv_sub hl [0, 1, 2, 3] rfl)
        · refine lv_iload_n hx hb dX1_from_19 rfl (lv_at hl 0 rfl) ?_
          refine lv_if_le (tgt := 37) hx hb dX1_from_20 (by decide) (fun c_20 => ?_) (fun c_20 => ?_)
          · refine lv_iload_n hx hb dX1_from_37 rfl (lv_at hl 1 rfl) ?_
            refine lv_if_ne (tgt := 43) hx hb dX1_from_38 (by decide) (fun c_38 => ?_) (fun c_38 => ?_)
            · obtain ⟨x_2, ex_2⟩ : ∃ y : Int32, y = y9 + (-1) := ⟨_, rfl⟩
              refine lv_iinc (v := x_2) (lv' := [(2, .int x_2), (3, .int x9), (0, .ref a1), (1, .int i)]) hx hb dX1_from_43 hl (k := 1) rfl (by rw [ex_2]; rfl) (by decide) rfl (fun ls hl => ?_)
              obtain ⟨x_3, ex_3⟩ : ∃ y : Int32, y = x9 + 1 := ⟨_, rfl⟩
              refine lv_iinc (v := x_3) (lv' := [(3, .int x_3), (2, .int x_2), (0, .ref a1), (1, .int i)]) hx hb dX1_from_46 hl (k := 1) rfl (by rw [ex_3]; rfl) (by decide) rfl (fun ls hl => ?_)
              refine lv_goto (tgt := 4) hx hb dX1_from_49 (by decide) ?_
              have hst : st (pH fH) k = true := st_1 (pH_t (by rw [← ek]; exact c_16)) (Or.inl (by
                have q := c_20
                rw [h1] at q
                have := (nI_leI (b := 0) (by omega) (by decide)).mp q
                omega))
              have hcs := sg_cs hst
              have hne : i0 - sg_c (st (pH fH)) k ≠ 0 := fun z => c_38 (by rw [h2, z]; rfl)
              exact ih (k + 1) x_3 x_2 (by omega) (by rw [ex_3, h1, nI_succ]) (by rw [ex_2, h2, hcs, show i0 - sg_c (st (pH fH)) k = (i0 - (sg_c (st (pH fH)) k + 1)) + 1 by omega, pk_m1]) (by omega) H locs ls hP hD hS (lv_sub hl [0, 1, 2, 3] rfl)
            · refine lv_iload_n hx hb dX1_from_41 rfl (lv_at hl 0 rfl) ?_
              have hst : st (pH fH) k = true := st_1 (pH_t (by rw [← ek]; exact c_16)) (Or.inl (by
                have q := c_20
                rw [h1] at q
                have := (nI_leI (b := 0) (by omega) (by decide)).mp q
                omega))
              exact W.iret (v := x9) hx hb hr (fun t ht hW => ⟨⟨x9, (), rfl, Or.inl ⟨k, by omega, h1, hst, by rw [h2] at c_38; have := (nI_eq (b := 0) (by omega) (by decide)).mp c_38; omega⟩, by rw [ht]; exact hP, va_K.moved hW.alike hK, hD⟩, hS.F ht⟩) hS.2.2 dX1_from_42
          · refine lv_aload_n hx hb dX1_from_23 rfl (lv_at hl 2 rfl) ?_
            refine va_get (D := (dC, dI)) (ci := 1) (v := .ref q3) (C := RX1) (T := TX1) (N := 8) hx hb hts hi_1 hown hK hP 0 rfl rfl 2 (by decide) (hts (.fieldLink RX1 16 "SegmentBoxModel" "isHeld" "[Z") (by decide +kernel)) (fun _ h9 => h9) rfl dX1_from_24 ?_
            refine lv_iload_n hx hb dX1_from_27 rfl (lv_at hl 0 rfl) ?_
            refine lv_iconst (v := 1) hx hb dX1_from_28 (by decide) ?_
            refine lv_isub hx hb dX1_from_29 ?_
            refine va_zald hx hb hK hP 3 2 rfl rfl (inb_of (em1 c_20) (by omega)) dX1_from_30 ?_
            refine lv_if_eq (tgt := 37) hx hb dX1_from_31 (by decide) (fun c_31 => ?_) (fun c_31 => ?_)
            · refine lv_iload_n hx hb dX1_from_37 rfl (lv_at hl 1 rfl) ?_
              refine lv_if_ne (tgt := 43) hx hb dX1_from_38 (by decide) (fun c_38 => ?_) (fun c_38 => ?_)
              · obtain ⟨x_4, ex_4⟩ : ∃ y : Int32, y = y9 + (-1) := ⟨_, rfl⟩
                refine lv_iinc (v := x_4) (lv' := [(2, .int x_4), (3, .int x9), (0, .ref a1), (1, .int i)]) hx hb dX1_from_43 hl (k := 1) rfl (by rw [ex_4]; rfl) (by decide) rfl (fun ls hl => ?_)
                obtain ⟨x_5, ex_5⟩ : ∃ y : Int32, y = x9 + 1 := ⟨_, rfl⟩
                refine lv_iinc (v := x_5) (lv' := [(3, .int x_5), (2, .int x_4), (0, .ref a1), (1, .int i)]) hx hb dX1_from_46 hl (k := 1) rfl (by rw [ex_5]; rfl) (by decide) rfl (fun ls hl => ?_)
                refine lv_goto (tgt := 4) hx hb dX1_from_49 (by decide) ?_
                have hst : st (pH fH) k = true := st_1 (pH_t (by rw [← ek]; exact c_16)) (Or.inr (pH_f (by rw [← cl_of (em1 c_20) (by omega)]; exact c_31)))
                have hcs := sg_cs hst
                have hne : i0 - sg_c (st (pH fH)) k ≠ 0 := fun z => c_38 (by rw [h2, z]; rfl)
                exact ih (k + 1) x_5 x_4 (by omega) (by rw [ex_5, h1, nI_succ]) (by rw [ex_4, h2, hcs, show i0 - sg_c (st (pH fH)) k = (i0 - (sg_c (st (pH fH)) k + 1)) + 1 by omega, pk_m1]) (by omega) H locs ls hP hD hS (lv_sub hl [0, 1, 2, 3] rfl)
              · refine lv_iload_n hx hb dX1_from_41 rfl (lv_at hl 0 rfl) ?_
                have hst : st (pH fH) k = true := st_1 (pH_t (by rw [← ek]; exact c_16)) (Or.inr (pH_f (by rw [← cl_of (em1 c_20) (by omega)]; exact c_31)))
                exact W.iret (v := x9) hx hb hr (fun t ht hW => ⟨⟨x9, (), rfl, Or.inl ⟨k, by omega, h1, hst, by rw [h2] at c_38; have := (nI_eq (b := 0) (by omega) (by decide)).mp c_38; omega⟩, by rw [ht]; exact hP, va_K.moved hW.alike hK, hD⟩, hS.F ht⟩) hS.2.2 dX1_from_42
            · refine lv_goto (tgt := 46) hx hb dX1_from_34 (by decide) ?_
              obtain ⟨x_6, ex_6⟩ : ∃ y : Int32, y = x9 + 1 := ⟨_, rfl⟩
              refine lv_iinc (v := x_6) (lv' := [(3, .int x_6), (2, .int y9), (0, .ref a1), (1, .int i)]) hx hb dX1_from_46 hl (k := 0) rfl (by rw [ex_6]; rfl) (by decide) rfl (fun ls hl => ?_)
              refine lv_goto (tgt := 4) hx hb dX1_from_49 (by decide) ?_
              have hst : st (pH fH) k = false := st_2 (k0 c_20) (pH_t (by rw [← cl_of (em1 c_20) (by omega)]; exact c_31))
              have hcs := sg_cn hst
              exact ih (k + 1) x_6 y9 (by omega) (by rw [ex_6, h1, nI_succ]) (by rw [hcs]; exact h2) (by omega) H locs ls hP hD hS (lv_sub hl [0, 1, 2, 3] rfl)
  refine lv_iload_n hx hb dX1_from_0 rfl (lv_at hl 1 rfl) ?_
  refine lv_istore_n (lv' := [(2, .int i), (0, .ref a1), (1, .int i)]) hx hb dX1_from_1 rfl hl (by decide) rfl (fun ls hl => ?_)
  refine lv_iconst (v := 0) hx hb dX1_from_2 (by decide) ?_
  refine lv_istore_n (lv' := [(3, .int 0), (2, .int i), (0, .ref a1), (1, .int i)]) hx hb dX1_from_3 rfl hl (by decide) rfl (fun ls hl => ?_)
  exact loop 64 0 0 i (by omega) nI_0.symm hi (Nat.zero_le _) s.heap [] ls hP hD hS (lv_sub hl [0, 1, 2, 3] rfl)
end
section
set_option maxHeartbeats 4000000 in
set_option maxRecDepth 100000 in
theorem m_told (l : Launch) (dC : Nat → ClassId) (dI : Nat → Nat → Nat) (a1 q1 q2 q3 : Nat) (cU cV cZ : ClassId) (nx mn ed th he : Int32) (fU fB fH : Nat → Int32) (n : Int32) (sz : Nat)  : Met l yX1_told wsX1_told ({ frames := 1, cells := 0, slots := 0, locals := 23 }) (va_Pc [.ref a1, .int n] (fun U => U.heap.size = sz ∧ va_P (dC, dI) vwCl [(a1, .inr (1, [.ref q1, .ref q2, .ref q3, .int nx, .int mn, .int ed, .int th, .int he])), (q1, .inl (cU, 64, .inl fU)), (q2, .inl (cV, 64, .inl fB)), (q3, .inl (cZ, 64, .inl fH))] U.heap ∧ va_K (dC, dI) vwCl [(cU, .int), (cV, .int), (cZ, .boolean)] U ∧ va_D (fun _ => True) [(a1, .inr (1, [.ref q1, .ref q2, .ref q3, .int nx, .int mn, .int ed, .int th, .int he])), (q1, .inl (cU, 64, .inl fU)), (q2, .inl (cV, 64, .inl fB)), (q3, .inl (cZ, 64, .inl fH))])) (va_Qi (fun (r : Int32) (u0 : Int32) => match u0 with | th' => ((n < 0 ∨ 5 < n) ∧ th' = 1) ∨ (th' = 0 ∧ ((n = 0 ∧ r = nx) ∨ (n = 1 ∧ r = 64 - mn) ∨ (n = 2 ∧ r = mn) ∨ (n = 3 ∧ r = nI (sg_c (pH fH) 64)) ∨ (n = 4 ∧ r = nI (sg_c (st (pH fH)) 64)) ∨ (n = 5 ∧ r = (if he = 0 then 0 else 1))))) (fun (u0 : Int32) (t : State) => match u0 with | th' => va_P (dC, dI) vwCl [(a1, .inr (1, [.ref q1, .ref q2, .ref q3, .int nx, .int mn, .int ed, .int th', .int he])), (q1, .inl (cU, 64, .inl fU)), (q2, .inl (cV, 64, .inl fB)), (q3, .inl (cZ, 64, .inl fH))] t.heap ∧ va_K (dC, dI) vwCl [(cU, .int), (cV, .int), (cZ, .boolean)] t ∧ va_D (va_A [(a1, .inr (1, [.ref q1, .ref q2, .ref q3, .int nx, .int mn, .int ed, .int th, .int he])), (q1, .inl (cU, 64, .inl fU)), (q2, .inl (cV, 64, .inl fB)), (q3, .inl (cZ, 64, .inl fH))] sz) [(a1, .inr (1, [.ref q1, .ref q2, .ref q3, .int nx, .int mn, .int ed, .int th', .int he])), (q1, .inl (cU, 64, .inl fU)), (q2, .inl (cV, 64, .inl fB)), (q3, .inl (cZ, 64, .inl fH))]) (va_A [(a1, .inr (1, [.ref q1, .ref q2, .ref q3, .int nx, .int mn, .int ed, .int th, .int he])), (q1, .inl (cU, 64, .inl fU)), (q2, .inl (cV, 64, .inl fB)), (q3, .inl (cZ, 64, .inl fH))] sz)) 0 0 (va_A [(a1, .inr (1, [.ref q1, .ref q2, .ref q3, .int nx, .int mn, .int ed, .int th, .int he])), (q1, .inl (cU, 64, .inl fU)), (q2, .inl (cV, 64, .inl fB)), (q3, .inl (cZ, 64, .inl fH))] sz) := by
  refine Met.ofW (cc := cX1_told) (maxL := 4) (ret := (some .int)) (by decide) rfl ?_
  intro p e s m args below meth c s₁ B hml hv
  obtain ⟨rfl, hsz, hP, hK, hD0⟩ := hv
  have hx := B.exec
  have hb := B.bytes
  have hr := B.returns
  have hts := atoms_spec (ws := wsX1_told) B.pre
  have hown : s.vm.findClass RX1 = some m.cls := findClass_of_methodNamed B.named
  have hlocks := B.notSynchronized
  subst hsz
  have hD := hD0.self (sz := s.heap.size)
  generalize hAe : va_A [(a1, .inr (1, [.ref q1, .ref q2, .ref q3, .int nx, .int mn, .int ed, .int th, .int he])), (q1, .inl (cU, 64, .inl fU)), (q2, .inl (cV, 64, .inl fB)), (q3, .inl (cZ, 64, .inl fH))] s.heap.size = A at hD ⊢
  have hA : ∀ q : Nat, s.heap.size ≤ q → A q := fun q h => by rw [← hAe]; exact Or.inr h
  have hS : va_S A s.heap s.heap [] := va_S.rf
  have hP : va_P (dC, dI) vwCl [(a1, .inr (1, [.ref q1, .ref q2, .ref q3, .int nx, .int mn, .int ed, .int th, .int he])), (q1, .inl (cU, 64, .inl fU)), (q2, .inl (cV, 64, .inl fB)), (q3, .inl (cZ, 64, .inl fH))] s.heap := hP
  have hl := lv_entry ([.ref a1, .int n]) (n := 4) (Nat.le_of_ble_eq_true rfl)
  rw [lg_entry_eq]
  generalize (lg_sl ([.ref a1, .int n]) ++ List.replicate (4 - (lg_sl ([.ref a1, .int n])).length) Slot.unset).toArray = ls at hl ⊢
  have hl : lv_has ls 4 [(0, .ref a1), (1, .int n)] := hl
  have hi_1 : ∀ w ∈ u_ws RX1 TX1 8, w ∈ wsX1_told := by decide +kernel
  refine lv_aload_n hx hb dX1_told_0 rfl (lv_at hl 0 rfl) ?_
  refine lv_iload_n hx hb dX1_told_1 rfl (lv_at hl 1 rfl) ?_
  refine lv_if_lt (tgt := 10) hx hb dX1_told_2 (by decide) (fun c_2 => ?_) (fun c_2 => ?_)
  · refine lv_iconst (v := 1) hx hb dX1_told_10 (by decide) ?_
    refine lv_goto (tgt := 15) hx hb dX1_told_11 (by decide) ?_
    refine va_put (D := (dC, dI)) (ci := 1) (v := .int 1) (ty := .int) (C := RX1) (T := TX1) (N := 8) hx hb hts hi_1 tyX1 tyX1_ok nmX1 hown hK hP hD hS 0 rfl rfl 6 (by decide) (hts (.fieldLink RX1 20 "SegmentBoxModel" "thrown" "I") (by decide +kernel)) (fun _ h9 => h9) rfl (by decide +kernel) rfl rfl (Nat.le_of_ble_eq_true rfl) dX1_told_15 (fun H locs hP hD hS => ?_)
    have hP : va_P (dC, dI) vwCl [(a1, .inr (1, [.ref q1, .ref q2, .ref q3, .int nx, .int mn, .int ed, .int 1, .int he])), (q1, .inl (cU, 64, .inl fU)), (q2, .inl (cV, 64, .inl fB)), (q3, .inl (cZ, 64, .inl fH))] H := hP
    have hD : va_D A [(a1, .inr (1, [.ref q1, .ref q2, .ref q3, .int nx, .int mn, .int ed, .int 1, .int he])), (q1, .inl (cU, 64, .inl fU)), (q2, .inl (cV, 64, .inl fB)), (q3, .inl (cZ, 64, .inl fH))] := hD
    refine lv_aload_n hx hb dX1_told_18 rfl (lv_at hl 0 rfl) ?_
    refine va_get (D := (dC, dI)) (ci := 1) (v := .int 1) (C := RX1) (T := TX1) (N := 8) hx hb hts hi_1 hown hK hP 0 rfl rfl 6 (by decide) (hts (.fieldLink RX1 20 "SegmentBoxModel" "thrown" "I") (by decide +kernel)) (fun _ h9 => h9) rfl dX1_told_19 ?_
    refine lv_if_le (tgt := 27) hx hb dX1_told_22 (by decide) (fun c_22 => ?_) (fun c_22 => ?_)
    · exact absurd c_22 (by decide)
    · refine lv_iconst (v := 0) hx hb dX1_told_25 (by decide) ?_
      exact W.iret (v := 0) hx hb hr (fun t ht hW => ⟨⟨0, 1, rfl, Or.inl ⟨Or.inl c_2, rfl⟩, by rw [ht]; exact hP, va_K.moved hW.alike hK, hD⟩, hS.F ht⟩) hS.2.2 dX1_told_26
  · refine lv_iload_n hx hb dX1_told_5 rfl (lv_at hl 1 rfl) ?_
    refine lv_iconst (v := 5) hx hb dX1_told_6 (by decide) ?_
    refine lv_icmp_le (tgt := 14) hx hb dX1_told_7 (by decide) (fun c_7 => ?_) (fun c_7 => ?_)
    · refine lv_iconst (v := 0) hx hb dX1_told_14 (by decide) ?_
      refine va_put (D := (dC, dI)) (ci := 1) (v := .int 0) (ty := .int) (C := RX1) (T := TX1) (N := 8) hx hb hts hi_1 tyX1 tyX1_ok nmX1 hown hK hP hD hS 0 rfl rfl 6 (by decide) (hts (.fieldLink RX1 20 "SegmentBoxModel" "thrown" "I") (by decide +kernel)) (fun _ h9 => h9) rfl (by decide +kernel) rfl rfl (Nat.le_of_ble_eq_true rfl) dX1_told_15 (fun H locs hP hD hS => ?_)
      have hP : va_P (dC, dI) vwCl [(a1, .inr (1, [.ref q1, .ref q2, .ref q3, .int nx, .int mn, .int ed, .int 0, .int he])), (q1, .inl (cU, 64, .inl fU)), (q2, .inl (cV, 64, .inl fB)), (q3, .inl (cZ, 64, .inl fH))] H := hP
      have hD : va_D A [(a1, .inr (1, [.ref q1, .ref q2, .ref q3, .int nx, .int mn, .int ed, .int 0, .int he])), (q1, .inl (cU, 64, .inl fU)), (q2, .inl (cV, 64, .inl fB)), (q3, .inl (cZ, 64, .inl fH))] := hD
      refine lv_aload_n hx hb dX1_told_18 rfl (lv_at hl 0 rfl) ?_
      refine va_get (D := (dC, dI)) (ci := 1) (v := .int 0) (C := RX1) (T := TX1) (N := 8) hx hb hts hi_1 hown hK hP 0 rfl rfl 6 (by decide) (hts (.fieldLink RX1 20 "SegmentBoxModel" "thrown" "I") (by decide +kernel)) (fun _ h9 => h9) rfl dX1_told_19 ?_
      refine lv_if_le (tgt := 27) hx hb dX1_told_22 (by decide) (fun c_22 => ?_) (fun c_22 => ?_)
      · refine lv_iconst (v := 0) hx hb dX1_told_27 (by decide) ?_
        refine lv_istore_n (lv' := [(2, .int 0), (0, .ref a1), (1, .int n)]) hx hb dX1_told_28 rfl hl (by decide) rfl (fun ls hl => ?_)
        refine lv_iload_n hx hb dX1_told_29 rfl (lv_at hl 2 rfl) ?_
        have c_lo : ¬ n.toInt < 0 := fun z => c_2 (Int32.lt_iff_toInt_lt.mpr z)
        have c_h5 : ¬ 5 < n.toInt := fun z => absurd (Int32.le_iff_toInt_le.mp c_7) (Int.not_le.mpr z)
        have hn6 := sw6 c_lo c_h5
        rcases hn6 with e6 | e6 | e6 | e6 | e6 | e6
        · refine lv_tableIn (off := 34) (tgt := 64) hx hb dX1_told_30 c_lo (by rw [e6]; decide) (by rw [e6]; decide) (by decide) ?_
          refine lv_aload_n hx hb dX1_told_64 rfl (lv_at hl 1 rfl) ?_
          refine va_get (D := (dC, dI)) (ci := 1) (v := .int nx) (C := RX1) (T := TX1) (N := 8) hx hb hts hi_1 hown hK hP 0 rfl rfl 3 (by decide) (hts (.fieldLink RX1 24 "SegmentBoxModel" "next" "I") (by decide +kernel)) (fun _ h9 => h9) rfl dX1_told_65 ?_
          exact W.iret (v := nx) hx hb hr (fun t ht hW => ⟨⟨nx, 0, rfl, Or.inr ⟨rfl, Or.inl ⟨e6, rfl⟩⟩, by rw [ht]; exact hP, va_K.moved hW.alike hK, hD⟩, hS.F ht⟩) hS.2.2 dX1_told_68
        · refine lv_tableIn (off := 39) (tgt := 69) hx hb dX1_told_30 c_lo (by rw [e6]; decide) (by rw [e6]; decide) (by decide) ?_
          refine lv_bipush (v := 64) hx hb dX1_told_69 (by decide) ?_
          refine lv_aload_n hx hb dX1_told_71 rfl (lv_at hl 1 rfl) ?_
          refine va_get (D := (dC, dI)) (ci := 1) (v := .int mn) (C := RX1) (T := TX1) (N := 8) hx hb hts hi_1 hown hK hP 0 rfl rfl 4 (by decide) (hts (.fieldLink RX1 27 "SegmentBoxModel" "many" "I") (by decide +kernel)) (fun _ h9 => h9) rfl dX1_told_72 ?_
          refine lv_isub hx hb dX1_told_75 ?_
          exact W.iret (v := 64 - mn) hx hb hr (fun t ht hW => ⟨⟨64 - mn, 0, rfl, Or.inr ⟨rfl, Or.inr (Or.inl ⟨e6, rfl⟩)⟩, by rw [ht]; exact hP, va_K.moved hW.alike hK, hD⟩, hS.F ht⟩) hS.2.2 dX1_told_76
        · refine lv_tableIn (off := 47) (tgt := 77) hx hb dX1_told_30 c_lo (by rw [e6]; decide) (by rw [e6]; decide) (by decide) ?_
          refine lv_aload_n hx hb dX1_told_77 rfl (lv_at hl 1 rfl) ?_
          refine va_get (D := (dC, dI)) (ci := 1) (v := .int mn) (C := RX1) (T := TX1) (N := 8) hx hb hts hi_1 hown hK hP 0 rfl rfl 4 (by decide) (hts (.fieldLink RX1 27 "SegmentBoxModel" "many" "I") (by decide +kernel)) (fun _ h9 => h9) rfl dX1_told_78 ?_
          exact W.iret (v := mn) hx hb hr (fun t ht hW => ⟨⟨mn, 0, rfl, Or.inr ⟨rfl, Or.inr (Or.inr (Or.inl ⟨e6, rfl⟩))⟩, by rw [ht]; exact hP, va_K.moved hW.alike hK, hD⟩, hS.F ht⟩) hS.2.2 dX1_told_81
        · refine lv_tableIn (off := 52) (tgt := 82) hx hb dX1_told_30 c_lo (by rw [e6]; decide) (by rw [e6]; decide) (by decide) ?_
          have loop : ∀ (cnt k : Nat) (x9 y9 : Int32), k + cnt = 64 → x9 = nI k → y9 = nI (sg_c (pH fH) k) → ∀ (H : Heap) (locs : List Loc) (ls : Array Slot), va_P (dC, dI) vwCl [(a1, .inr (1, [.ref q1, .ref q2, .ref q3, .int nx, .int mn, .int ed, .int 0, .int he])), (q1, .inl (cU, 64, .inl fU)), (q2, .inl (cV, 64, .inl fB)), (q3, .inl (cZ, 64, .inl fH))] H → va_D A [(a1, .inr (1, [.ref q1, .ref q2, .ref q3, .int nx, .int mn, .int ed, .int 0, .int he])), (q1, .inl (cU, 64, .inl fU)), (q2, .inl (cV, 64, .inl fB)), (q3, .inl (cZ, 64, .inl fH))] → va_S A s.heap H locs → lv_has ls 4 [(3, .int x9), (2, .int y9), (0, .ref a1), (1, .int n)] → W p l e (headSpec wsX1_told ({ frames := 1, cells := 0, slots := 0, locals := 23 })).room s m ([.ref a1, .int n] : List Value).toArray below meth c H locs 0 0 (MQ below (va_Qi (fun (r : Int32) (u0 : Int32) => match u0 with | th' => ((n < 0 ∨ 5 < n) ∧ th' = 1) ∨ (th' = 0 ∧ ((n = 0 ∧ r = nx) ∨ (n = 1 ∧ r = 64 - mn) ∨ (n = 2 ∧ r = mn) ∨ (n = 3 ∧ r = nI (sg_c (pH fH) 64)) ∨ (n = 4 ∧ r = nI (sg_c (st (pH fH)) 64)) ∨ (n = 5 ∧ r = (if he = 0 then 0 else 1))))) (fun (u0 : Int32) (t : State) => match u0 with | th' => va_P (dC, dI) vwCl [(a1, .inr (1, [.ref q1, .ref q2, .ref q3, .int nx, .int mn, .int ed, .int th', .int he])), (q1, .inl (cU, 64, .inl fU)), (q2, .inl (cV, 64, .inl fB)), (q3, .inl (cZ, 64, .inl fH))] t.heap ∧ va_K (dC, dI) vwCl [(cU, .int), (cV, .int), (cZ, .boolean)] t ∧ va_D A [(a1, .inr (1, [.ref q1, .ref q2, .ref q3, .int nx, .int mn, .int ed, .int th', .int he])), (q1, .inl (cU, 64, .inl fU)), (q2, .inl (cV, 64, .inl fB)), (q3, .inl (cZ, 64, .inl fH))]) A) ([.ref a1, .int n] : List Value).toArray s 0 0 A) (F0 m 84 ls []) := by
            intro cnt
            induction cnt with
            | zero =>
              intro k x9 y9 hk h1 h2 H locs ls hP hD hS hl
              refine lv_iload_n hx hb dX1_told_84 rfl (lv_at hl 0 rfl) ?_
              refine lv_bipush (v := 64) hx hb dX1_told_85 (by decide) ?_
              refine lv_icmp_ge (tgt := 108) hx hb dX1_told_87 (by decide) (fun c_87 => ?_) (fun c_87 => ?_)
              · refine lv_iload_n hx hb dX1_told_108 rfl (lv_at hl 1 rfl) ?_
                exact W.iret (v := y9) hx hb hr (fun t ht hW => ⟨⟨y9, 0, rfl, Or.inr ⟨rfl, Or.inr (Or.inr (Or.inr (Or.inl ⟨e6, by rw [h2, show k = 64 by omega]⟩)))⟩, by rw [ht]; exact hP, va_K.moved hW.alike hK, hD⟩, hS.F ht⟩) hS.2.2 dX1_told_109
              · exact absurd ((ge64 h1 (by omega)).mpr (by omega)) c_87
            | succ cnt ih =>
              intro k x9 y9 hk h1 h2 H locs ls hP hD hS hl
              refine lv_iload_n hx hb dX1_told_84 rfl (lv_at hl 0 rfl) ?_
              refine lv_bipush (v := 64) hx hb dX1_told_85 (by decide) ?_
              refine lv_icmp_ge (tgt := 108) hx hb dX1_told_87 (by decide) (fun c_87 => ?_) (fun c_87 => ?_)
              · exact absurd ((ge64 h1 (by omega)).mp c_87) (by omega)
              · refine lv_aload_n hx hb dX1_told_90 rfl (lv_at hl 2 rfl) ?_
                refine va_get (D := (dC, dI)) (ci := 1) (v := .ref q3) (C := RX1) (T := TX1) (N := 8) hx hb hts hi_1 hown hK hP 0 rfl rfl 2 (by decide) (hts (.fieldLink RX1 16 "SegmentBoxModel" "isHeld" "[Z") (by decide +kernel)) (fun _ h9 => h9) rfl dX1_told_91 ?_
                refine lv_iload_n hx hb dX1_told_94 rfl (lv_at hl 0 rfl) ?_
                refine va_zald hx hb hK hP 3 2 rfl rfl (inb_of h1 (by omega)) dX1_told_95 ?_
                refine lv_if_eq (tgt := 102) hx hb dX1_told_96 (by decide) (fun c_96 => ?_) (fun c_96 => ?_)
                · obtain ⟨x_1, ex_1⟩ : ∃ y : Int32, y = x9 + 1 := ⟨_, rfl⟩
                  refine lv_iinc (v := x_1) (lv' := [(3, .int x_1), (2, .int y9), (0, .ref a1), (1, .int n)]) hx hb dX1_told_102 hl (k := 0) rfl (by rw [ex_1]; rfl) (by decide) rfl (fun ls hl => ?_)
                  refine lv_goto (tgt := 84) hx hb dX1_told_105 (by decide) ?_
                  have hp : pH fH k = false := pH_f (by rw [← cl_of h1 (by omega)]; exact c_96)
                  exact ih (k + 1) x_1 y9 (by omega) (by rw [ex_1, h1, nI_succ]) (by rw [sg_cn hp]; exact h2) H locs ls hP hD hS (lv_sub hl [0, 1, 2, 3] rfl)
                · obtain ⟨x_2, ex_2⟩ : ∃ y : Int32, y = y9 + 1 := ⟨_, rfl⟩
                  refine lv_iinc (v := x_2) (lv' := [(2, .int x_2), (3, .int x9), (0, .ref a1), (1, .int n)]) hx hb dX1_told_99 hl (k := 1) rfl (by rw [ex_2]; rfl) (by decide) rfl (fun ls hl => ?_)
                  obtain ⟨x_3, ex_3⟩ : ∃ y : Int32, y = x9 + 1 := ⟨_, rfl⟩
                  refine lv_iinc (v := x_3) (lv' := [(3, .int x_3), (2, .int x_2), (0, .ref a1), (1, .int n)]) hx hb dX1_told_102 hl (k := 1) rfl (by rw [ex_3]; rfl) (by decide) rfl (fun ls hl => ?_)
                  refine lv_goto (tgt := 84) hx hb dX1_told_105 (by decide) ?_
                  have hp : pH fH k = true := pH_t (by rw [← cl_of h1 (by omega)]; exact c_96)
                  exact ih (k + 1) x_3 x_2 (by omega) (by rw [ex_3, h1, nI_succ]) (by rw [ex_2, h2, sg_cs hp, nI_succ]) H locs ls hP hD hS (lv_sub hl [0, 1, 2, 3] rfl)
          refine lv_iconst (v := 0) hx hb dX1_told_82 (by decide) ?_
          refine lv_istore_n (lv' := [(3, .int 0), (2, .int 0), (0, .ref a1), (1, .int n)]) hx hb dX1_told_83 rfl hl (by decide) rfl (fun ls hl => ?_)
          exact loop 64 0 0 0 (by omega) nI_0.symm nI_0.symm H _ ls hP hD hS (lv_sub hl [0, 1, 2, 3] rfl)
        · refine lv_tableIn (off := 80) (tgt := 110) hx hb dX1_told_30 c_lo (by rw [e6]; decide) (by rw [e6]; decide) (by decide) ?_
          have hN := sg_c_le (st (pH fH)) 64
          have loop : ∀ (cnt j : Nat) (y9 : Int32), j + cnt = sg_c (st (pH fH)) 64 → y9 = nI j → ∀ (H : Heap) (locs : List Loc) (ls : Array Slot), va_P (dC, dI) vwCl [(a1, .inr (1, [.ref q1, .ref q2, .ref q3, .int nx, .int mn, .int ed, .int 0, .int he])), (q1, .inl (cU, 64, .inl fU)), (q2, .inl (cV, 64, .inl fB)), (q3, .inl (cZ, 64, .inl fH))] H → va_D A [(a1, .inr (1, [.ref q1, .ref q2, .ref q3, .int nx, .int mn, .int ed, .int 0, .int he])), (q1, .inl (cU, 64, .inl fU)), (q2, .inl (cV, 64, .inl fB)), (q3, .inl (cZ, 64, .inl fH))] → va_S A s.heap H locs → lv_has ls 4 [(2, .int y9), (0, .ref a1), (1, .int n)] → W p l e (headSpec wsX1_told ({ frames := 1, cells := 0, slots := 0, locals := 23 })).room s m ([.ref a1, .int n] : List Value).toArray below meth c H locs 0 0 (MQ below (va_Qi (fun (r : Int32) (u0 : Int32) => match u0 with | th' => ((n < 0 ∨ 5 < n) ∧ th' = 1) ∨ (th' = 0 ∧ ((n = 0 ∧ r = nx) ∨ (n = 1 ∧ r = 64 - mn) ∨ (n = 2 ∧ r = mn) ∨ (n = 3 ∧ r = nI (sg_c (pH fH) 64)) ∨ (n = 4 ∧ r = nI (sg_c (st (pH fH)) 64)) ∨ (n = 5 ∧ r = (if he = 0 then 0 else 1))))) (fun (u0 : Int32) (t : State) => match u0 with | th' => va_P (dC, dI) vwCl [(a1, .inr (1, [.ref q1, .ref q2, .ref q3, .int nx, .int mn, .int ed, .int th', .int he])), (q1, .inl (cU, 64, .inl fU)), (q2, .inl (cV, 64, .inl fB)), (q3, .inl (cZ, 64, .inl fH))] t.heap ∧ va_K (dC, dI) vwCl [(cU, .int), (cV, .int), (cZ, .boolean)] t ∧ va_D A [(a1, .inr (1, [.ref q1, .ref q2, .ref q3, .int nx, .int mn, .int ed, .int th', .int he])), (q1, .inl (cU, 64, .inl fU)), (q2, .inl (cV, 64, .inl fB)), (q3, .inl (cZ, 64, .inl fH))]) A) ([.ref a1, .int n] : List Value).toArray s 0 0 A) (F0 m 110 ls []) := by
            intro cnt
            induction cnt with
            | zero =>
              intro j y9 hk h1 H locs ls hP hD hS hl
              refine lv_aload_n hx hb dX1_told_110 rfl (lv_at hl 1 rfl) ?_
              refine lv_iload_n hx hb dX1_told_111 rfl (lv_at hl 0 rfl) ?_
              have hPc := hP.sub (ws' := [(a1, .inr (1, [.ref q1, .ref q2, .ref q3, .int nx, .int mn, .int ed, .int 0, .int he])), (q1, .inl (cU, 64, .inl fU)), (q2, .inl (cV, 64, .inl fB)), (q3, .inl (cZ, 64, .inl fH))]) [0, 1, 2, 3] rfl
              have hDc := hD.sub (ws' := [(a1, .inr (1, [.ref q1, .ref q2, .ref q3, .int nx, .int mn, .int ed, .int 0, .int he])), (q1, .inl (cU, 64, .inl fU)), (q2, .inl (cV, 64, .inl fB)), (q3, .inl (cZ, 64, .inl fH))]) [0, 1, 2, 3] (by decide) rfl
              have hKc := hK.sub (tys' := [(cU, .int), (cV, .int), (cZ, .boolean)]) [0, 1, 2] rfl
              have hFc := va_free (wc := [(a1, .inr (1, [.ref q1, .ref q2, .ref q3, .int nx, .int mn, .int ed, .int 0, .int he])), (q1, .inl (cU, 64, .inl fU)), (q2, .inl (cV, 64, .inl fB)), (q3, .inl (cZ, 64, .inl fH))]) hD hS hA [0, 1, 2, 3] rfl
              refine va_calli (va_runV (As := [.int y9]) (rest := []) ⟨hx, hb, hml, hown, hts⟩ (m_from l dC dI a1 q1 q2 q3 cU cV cZ nx mn ed 0 he fU fB fH y9 j H.size h1 (by omega)) (cwV 1 hts gX1_told_X1_from rfl rfl rfl (by decide +kernel) ⟨Nat.le_of_ble_eq_true rfl, Nat.le_of_ble_eq_true rfl⟩) ⟨fun a U g mk q => by obtain ⟨q0, q1, qP, qK, qD⟩ := q; exact ⟨q0, q1, qP, va_K.moved (u := U) (U := U.calling g mk a) (Vm.Alike.refl U.vm) qK, qD⟩, va_recv hKc hPc (ci := 1) (q0 := 0) rfl rfl, fun U hU hW => ⟨rfl, by rw [hU], by rw [hU]; exact hPc, va_K.moved hW.alike hKc, hDc.weaken (fun _ _ _ _ => trivial)⟩⟩ rfl rfl hl.1 rfl (lv_room (Nat.le_of_ble_eq_true rfl)) dX1_told_112 ⟨(Nat.zero_le _), (Nat.zero_le _)⟩) hS (fun q _ h => hFc q h) hFc (fun r_4 u t H1 locs ht hvm hw_5 hB hz1 hk1 hS => ?_)
              obtain ⟨hP1, hK1, hD1⟩ := hB
              rw [ht] at hP1
              have hK1 := va_K.moved hvm.symm hK1
              try dsimp only at hw_5
              obtain ⟨hP, hD⟩ := va_join (wr := []) (w1 := [(a1, .inr (1, [.ref q1, .ref q2, .ref q3, .int nx, .int mn, .int ed, .int 0, .int he])), (q1, .inl (cU, 64, .inl fU)), (q2, .inl (cV, 64, .inl fB)), (q3, .inl (cZ, 64, .inl fH))]) hP hD [0, 1, 2, 3] [] rfl rfl (by decide) (by decide) hk1 hFc hP1 hD1
              generalize H1 = H at hP hS ⊢
              have hP : va_P (dC, dI) vwCl [(a1, .inr (1, [.ref q1, .ref q2, .ref q3, .int nx, .int mn, .int ed, .int 0, .int he])), (q1, .inl (cU, 64, .inl fU)), (q2, .inl (cV, 64, .inl fB)), (q3, .inl (cZ, 64, .inl fH))] H := hP
              have hD : va_D A [(a1, .inr (1, [.ref q1, .ref q2, .ref q3, .int nx, .int mn, .int ed, .int 0, .int he])), (q1, .inl (cU, 64, .inl fU)), (q2, .inl (cV, 64, .inl fB)), (q3, .inl (cZ, 64, .inl fH))] := hD
              rcases hw_5 with ⟨k, k1, k2, k3, k4⟩ | ⟨k2, k3⟩
              · have hcs := sg_cs k3
                have hcm := sg_c_mono' (st (pH fH)) (show k + 1 ≤ 64 by omega)
                exact absurd hcm (by omega)
              · subst k2
                refine lv_if_lt (tgt := 124) hx hb dX1_told_115 (by decide) (fun c_115 => ?_) (fun c_115 => ?_)
                · refine lv_iload_n hx hb dX1_told_124 rfl (lv_at hl 0 rfl) ?_
                  exact W.iret (v := y9) hx hb hr (fun t ht hW => ⟨⟨y9, 0, rfl, Or.inr ⟨rfl, Or.inr (Or.inr (Or.inr (Or.inr (Or.inl ⟨e6, by rw [h1, show j = sg_c (st (pH fH)) 64 by omega]⟩))))⟩, by rw [ht]; exact hP, va_K.moved hW.alike hK, hD⟩, hS.F ht⟩) hS.2.2 dX1_told_125
                · exact absurd (by decide) c_115
            | succ cnt ih =>
              intro j y9 hk h1 H locs ls hP hD hS hl
              refine lv_aload_n hx hb dX1_told_110 rfl (lv_at hl 1 rfl) ?_
              refine lv_iload_n hx hb dX1_told_111 rfl (lv_at hl 0 rfl) ?_
              have hPc := hP.sub (ws' := [(a1, .inr (1, [.ref q1, .ref q2, .ref q3, .int nx, .int mn, .int ed, .int 0, .int he])), (q1, .inl (cU, 64, .inl fU)), (q2, .inl (cV, 64, .inl fB)), (q3, .inl (cZ, 64, .inl fH))]) [0, 1, 2, 3] rfl
              have hDc := hD.sub (ws' := [(a1, .inr (1, [.ref q1, .ref q2, .ref q3, .int nx, .int mn, .int ed, .int 0, .int he])), (q1, .inl (cU, 64, .inl fU)), (q2, .inl (cV, 64, .inl fB)), (q3, .inl (cZ, 64, .inl fH))]) [0, 1, 2, 3] (by decide) rfl
              have hKc := hK.sub (tys' := [(cU, .int), (cV, .int), (cZ, .boolean)]) [0, 1, 2] rfl
              have hFc := va_free (wc := [(a1, .inr (1, [.ref q1, .ref q2, .ref q3, .int nx, .int mn, .int ed, .int 0, .int he])), (q1, .inl (cU, 64, .inl fU)), (q2, .inl (cV, 64, .inl fB)), (q3, .inl (cZ, 64, .inl fH))]) hD hS hA [0, 1, 2, 3] rfl
              refine va_calli (va_runV (As := [.int y9]) (rest := []) ⟨hx, hb, hml, hown, hts⟩ (m_from l dC dI a1 q1 q2 q3 cU cV cZ nx mn ed 0 he fU fB fH y9 j H.size h1 (by omega)) (cwV 1 hts gX1_told_X1_from rfl rfl rfl (by decide +kernel) ⟨Nat.le_of_ble_eq_true rfl, Nat.le_of_ble_eq_true rfl⟩) ⟨fun a U g mk q => by obtain ⟨q0, q1, qP, qK, qD⟩ := q; exact ⟨q0, q1, qP, va_K.moved (u := U) (U := U.calling g mk a) (Vm.Alike.refl U.vm) qK, qD⟩, va_recv hKc hPc (ci := 1) (q0 := 0) rfl rfl, fun U hU hW => ⟨rfl, by rw [hU], by rw [hU]; exact hPc, va_K.moved hW.alike hKc, hDc.weaken (fun _ _ _ _ => trivial)⟩⟩ rfl rfl hl.1 rfl (lv_room (Nat.le_of_ble_eq_true rfl)) dX1_told_112 ⟨(Nat.zero_le _), (Nat.zero_le _)⟩) hS (fun q _ h => hFc q h) hFc (fun r_6 u t H1 locs ht hvm hw_7 hB hz1 hk1 hS => ?_)
              obtain ⟨hP1, hK1, hD1⟩ := hB
              rw [ht] at hP1
              have hK1 := va_K.moved hvm.symm hK1
              try dsimp only at hw_7
              obtain ⟨hP, hD⟩ := va_join (wr := []) (w1 := [(a1, .inr (1, [.ref q1, .ref q2, .ref q3, .int nx, .int mn, .int ed, .int 0, .int he])), (q1, .inl (cU, 64, .inl fU)), (q2, .inl (cV, 64, .inl fB)), (q3, .inl (cZ, 64, .inl fH))]) hP hD [0, 1, 2, 3] [] rfl rfl (by decide) (by decide) hk1 hFc hP1 hD1
              generalize H1 = H at hP hS ⊢
              have hP : va_P (dC, dI) vwCl [(a1, .inr (1, [.ref q1, .ref q2, .ref q3, .int nx, .int mn, .int ed, .int 0, .int he])), (q1, .inl (cU, 64, .inl fU)), (q2, .inl (cV, 64, .inl fB)), (q3, .inl (cZ, 64, .inl fH))] H := hP
              have hD : va_D A [(a1, .inr (1, [.ref q1, .ref q2, .ref q3, .int nx, .int mn, .int ed, .int 0, .int he])), (q1, .inl (cU, 64, .inl fU)), (q2, .inl (cV, 64, .inl fB)), (q3, .inl (cZ, 64, .inl fH))] := hD
              rcases hw_7 with ⟨k, k1, k2, k3, k4⟩ | ⟨k2, k3⟩
              · have hcs := sg_cs k3
                have hcm := sg_c_mono' (st (pH fH)) (show k + 1 ≤ 64 by omega)
                subst k2
                refine lv_if_lt (tgt := 124) hx hb dX1_told_115 (by decide) (fun c_115 => ?_) (fun c_115 => ?_)
                · exact absurd c_115 (nI_pos (by omega))
                · obtain ⟨x_8, ex_8⟩ : ∃ y : Int32, y = y9 + 1 := ⟨_, rfl⟩
                  refine lv_iinc (v := x_8) (lv' := [(2, .int x_8), (0, .ref a1), (1, .int n)]) hx hb dX1_told_118 hl (k := 0) rfl (by rw [ex_8]; rfl) (by decide) rfl (fun ls hl => ?_)
                  refine lv_goto (tgt := 110) hx hb dX1_told_121 (by decide) ?_
                  exact ih (j + 1) x_8 (by omega) (by rw [ex_8, h1, nI_succ]) H locs ls hP hD hS (lv_sub hl [0, 1, 2] rfl)
              · subst k2
                refine lv_if_lt (tgt := 124) hx hb dX1_told_115 (by decide) (fun c_115 => ?_) (fun c_115 => ?_)
                · refine lv_iload_n hx hb dX1_told_124 rfl (lv_at hl 0 rfl) ?_
                  exact W.iret (v := y9) hx hb hr (fun t ht hW => ⟨⟨y9, 0, rfl, Or.inr ⟨rfl, Or.inr (Or.inr (Or.inr (Or.inr (Or.inl ⟨e6, by rw [h1, show j = sg_c (st (pH fH)) 64 by omega]⟩))))⟩, by rw [ht]; exact hP, va_K.moved hW.alike hK, hD⟩, hS.F ht⟩) hS.2.2 dX1_told_125
                · exact absurd (by decide) c_115
          exact loop (sg_c (st (pH fH)) 64) 0 0 (by omega) nI_0.symm H _ ls hP hD hS (lv_sub hl [0, 1, 2] rfl)
        · refine lv_tableOut (tgt := 126) hx hb dX1_told_30 (Or.inr (by rw [e6]; decide)) (by decide) ?_
          refine lv_aload_n hx hb dX1_told_126 rfl (lv_at hl 1 rfl) ?_
          refine va_get (D := (dC, dI)) (ci := 1) (v := .int he) (C := RX1) (T := TX1) (N := 8) hx hb hts hi_1 hown hK hP 0 rfl rfl 7 (by decide) (hts (.fieldLink RX1 30 "SegmentBoxModel" "hasEnd" "Z") (by decide +kernel)) (fun _ h9 => h9) rfl dX1_told_127 ?_
          refine lv_if_eq (tgt := 137) hx hb dX1_told_130 (by decide) (fun c_130 => ?_) (fun c_130 => ?_)
          · refine lv_iconst (v := 0) hx hb dX1_told_137 (by decide) ?_
            exact W.iret (v := 0) hx hb hr (fun t ht hW => ⟨⟨0, 0, rfl, Or.inr ⟨rfl, Or.inr (Or.inr (Or.inr (Or.inr (Or.inr (⟨e6, (if_pos c_130).symm⟩)))))⟩, by rw [ht]; exact hP, va_K.moved hW.alike hK, hD⟩, hS.F ht⟩) hS.2.2 dX1_told_138
          · refine lv_iconst (v := 1) hx hb dX1_told_133 (by decide) ?_
            refine lv_goto (tgt := 138) hx hb dX1_told_134 (by decide) ?_
            exact W.iret (v := 1) hx hb hr (fun t ht hW => ⟨⟨1, 0, rfl, Or.inr ⟨rfl, Or.inr (Or.inr (Or.inr (Or.inr (Or.inr (⟨e6, (if_neg c_130).symm⟩)))))⟩, by rw [ht]; exact hP, va_K.moved hW.alike hK, hD⟩, hS.F ht⟩) hS.2.2 dX1_told_138
      · exact absurd (by decide) c_22
    · refine lv_iconst (v := 1) hx hb dX1_told_10 (by decide) ?_
      refine lv_goto (tgt := 15) hx hb dX1_told_11 (by decide) ?_
      refine va_put (D := (dC, dI)) (ci := 1) (v := .int 1) (ty := .int) (C := RX1) (T := TX1) (N := 8) hx hb hts hi_1 tyX1 tyX1_ok nmX1 hown hK hP hD hS 0 rfl rfl 6 (by decide) (hts (.fieldLink RX1 20 "SegmentBoxModel" "thrown" "I") (by decide +kernel)) (fun _ h9 => h9) rfl (by decide +kernel) rfl rfl (Nat.le_of_ble_eq_true rfl) dX1_told_15 (fun H locs hP hD hS => ?_)
      have hP : va_P (dC, dI) vwCl [(a1, .inr (1, [.ref q1, .ref q2, .ref q3, .int nx, .int mn, .int ed, .int 1, .int he])), (q1, .inl (cU, 64, .inl fU)), (q2, .inl (cV, 64, .inl fB)), (q3, .inl (cZ, 64, .inl fH))] H := hP
      have hD : va_D A [(a1, .inr (1, [.ref q1, .ref q2, .ref q3, .int nx, .int mn, .int ed, .int 1, .int he])), (q1, .inl (cU, 64, .inl fU)), (q2, .inl (cV, 64, .inl fB)), (q3, .inl (cZ, 64, .inl fH))] := hD
      refine lv_aload_n hx hb dX1_told_18 rfl (lv_at hl 0 rfl) ?_
      refine va_get (D := (dC, dI)) (ci := 1) (v := .int 1) (C := RX1) (T := TX1) (N := 8) hx hb hts hi_1 hown hK hP 0 rfl rfl 6 (by decide) (hts (.fieldLink RX1 20 "SegmentBoxModel" "thrown" "I") (by decide +kernel)) (fun _ h9 => h9) rfl dX1_told_19 ?_
      refine lv_if_le (tgt := 27) hx hb dX1_told_22 (by decide) (fun c_22 => ?_) (fun c_22 => ?_)
      · exact absurd c_22 (by decide)
      · refine lv_iconst (v := 0) hx hb dX1_told_25 (by decide) ?_
        exact W.iret (v := 0) hx hb hr (fun t ht hW => ⟨⟨0, 1, rfl, Or.inl ⟨Or.inr (Int32.not_le.mp c_7), rfl⟩, by rw [ht]; exact hP, va_K.moved hW.alike hK, hD⟩, hS.F ht⟩) hS.2.2 dX1_told_26
end
section
set_option maxHeartbeats 4000000 in
set_option maxRecDepth 100000 in
theorem m_block (l : Launch) (dC : Nat → ClassId) (dI : Nat → Nat → Nat) (a1 q1 q2 q3 : Nat) (cU cV cZ : ClassId) (nx mn ed th he : Int32) (fU fB fH : Nat → Int32) (i b : Int32) (sz : Nat)  : Met l yX1_block wsX1_block ({ frames := 1, cells := 0, slots := 0, locals := 23 }) (va_Pc [.ref a1, .int i, .int b] (fun U => U.heap.size = sz ∧ va_P (dC, dI) vwCl [(a1, .inr (1, [.ref q1, .ref q2, .ref q3, .int nx, .int mn, .int ed, .int th, .int he])), (q1, .inl (cU, 64, .inl fU)), (q2, .inl (cV, 64, .inl fB)), (q3, .inl (cZ, 64, .inl fH))] U.heap ∧ va_K (dC, dI) vwCl [(cU, .int), (cV, .int), (cZ, .boolean)] U ∧ va_D (fun _ => True) [(a1, .inr (1, [.ref q1, .ref q2, .ref q3, .int nx, .int mn, .int ed, .int th, .int he])), (q1, .inl (cU, 64, .inl fU)), (q2, .inl (cV, 64, .inl fB)), (q3, .inl (cZ, 64, .inl fH))])) (va_Qi (fun (r : Int32) (u0 : Int32) => match u0 with | th' => (th' = 1 ∧ (i < 0 ∨ ∃ i0 : Nat, i = nI i0 ∧ i0 < 2 ^ 31 ∧ sg_c (st (pH fH)) 64 ≤ i0)) ∨ (th' = 0 ∧ ∃ i0 k : Nat, i = nI i0 ∧ i0 < 2 ^ 31 ∧ k < 64 ∧ st (pH fH) k = true ∧ sg_c (st (pH fH)) k = i0 ∧ ((b = 0 ∧ r = nx + nI k) ∨ (¬ b = 0 ∧ ∃ j : Nat, r = nI j ∧ k + j ≤ 64 ∧ (∀ i, i < j → pH fH (k + i) = true) ∧ (k + j < 64 → pH fH (k + j) = false))))) (fun (u0 : Int32) (t : State) => match u0 with | th' => va_P (dC, dI) vwCl [(a1, .inr (1, [.ref q1, .ref q2, .ref q3, .int nx, .int mn, .int ed, .int th', .int he])), (q1, .inl (cU, 64, .inl fU)), (q2, .inl (cV, 64, .inl fB)), (q3, .inl (cZ, 64, .inl fH))] t.heap ∧ va_K (dC, dI) vwCl [(cU, .int), (cV, .int), (cZ, .boolean)] t ∧ va_D (va_A [(a1, .inr (1, [.ref q1, .ref q2, .ref q3, .int nx, .int mn, .int ed, .int th, .int he])), (q1, .inl (cU, 64, .inl fU)), (q2, .inl (cV, 64, .inl fB)), (q3, .inl (cZ, 64, .inl fH))] sz) [(a1, .inr (1, [.ref q1, .ref q2, .ref q3, .int nx, .int mn, .int ed, .int th', .int he])), (q1, .inl (cU, 64, .inl fU)), (q2, .inl (cV, 64, .inl fB)), (q3, .inl (cZ, 64, .inl fH))]) (va_A [(a1, .inr (1, [.ref q1, .ref q2, .ref q3, .int nx, .int mn, .int ed, .int th, .int he])), (q1, .inl (cU, 64, .inl fU)), (q2, .inl (cV, 64, .inl fB)), (q3, .inl (cZ, 64, .inl fH))] sz)) 0 0 (va_A [(a1, .inr (1, [.ref q1, .ref q2, .ref q3, .int nx, .int mn, .int ed, .int th, .int he])), (q1, .inl (cU, 64, .inl fU)), (q2, .inl (cV, 64, .inl fB)), (q3, .inl (cZ, 64, .inl fH))] sz) := by
  refine Met.ofW (cc := cX1_block) (maxL := 5) (ret := (some .int)) (by decide) rfl ?_
  intro p e s m args below meth c s₁ B hml hv
  obtain ⟨rfl, hsz, hP, hK, hD0⟩ := hv
  have hx := B.exec
  have hb := B.bytes
  have hr := B.returns
  have hts := atoms_spec (ws := wsX1_block) B.pre
  have hown : s.vm.findClass RX1 = some m.cls := findClass_of_methodNamed B.named
  have hlocks := B.notSynchronized
  subst hsz
  have hD := hD0.self (sz := s.heap.size)
  generalize hAe : va_A [(a1, .inr (1, [.ref q1, .ref q2, .ref q3, .int nx, .int mn, .int ed, .int th, .int he])), (q1, .inl (cU, 64, .inl fU)), (q2, .inl (cV, 64, .inl fB)), (q3, .inl (cZ, 64, .inl fH))] s.heap.size = A at hD ⊢
  have hA : ∀ q : Nat, s.heap.size ≤ q → A q := fun q h => by rw [← hAe]; exact Or.inr h
  have hS : va_S A s.heap s.heap [] := va_S.rf
  have hP : va_P (dC, dI) vwCl [(a1, .inr (1, [.ref q1, .ref q2, .ref q3, .int nx, .int mn, .int ed, .int th, .int he])), (q1, .inl (cU, 64, .inl fU)), (q2, .inl (cV, 64, .inl fB)), (q3, .inl (cZ, 64, .inl fH))] s.heap := hP
  have hl := lv_entry ([.ref a1, .int i, .int b]) (n := 5) (Nat.le_of_ble_eq_true rfl)
  rw [lg_entry_eq]
  generalize (lg_sl ([.ref a1, .int i, .int b]) ++ List.replicate (5 - (lg_sl ([.ref a1, .int i, .int b])).length) Slot.unset).toArray = ls at hl ⊢
  have hl : lv_has ls 5 [(0, .ref a1), (1, .int i), (2, .int b)] := hl
  have hi_1 : ∀ w ∈ u_ws RX1 TX1 8, w ∈ wsX1_block := by decide +kernel
  refine lv_iload_n hx hb dX1_block_0 rfl (lv_at hl 1 rfl) ?_
  refine lv_if_ge (tgt := 8) hx hb dX1_block_1 (by decide) (fun c_1 => ?_) (fun c_1 => ?_)
  · refine lv_aload_n hx hb dX1_block_8 rfl (lv_at hl 0 rfl) ?_
    refine lv_iload_n hx hb dX1_block_9 rfl (lv_at hl 1 rfl) ?_
    obtain ⟨i0, hi0, hi⟩ := nI_of (Int32.not_lt.mpr c_1)
    have hPc := hP.sub (ws' := [(a1, .inr (1, [.ref q1, .ref q2, .ref q3, .int nx, .int mn, .int ed, .int th, .int he])), (q1, .inl (cU, 64, .inl fU)), (q2, .inl (cV, 64, .inl fB)), (q3, .inl (cZ, 64, .inl fH))]) [0, 1, 2, 3] rfl
    have hDc := hD.sub (ws' := [(a1, .inr (1, [.ref q1, .ref q2, .ref q3, .int nx, .int mn, .int ed, .int th, .int he])), (q1, .inl (cU, 64, .inl fU)), (q2, .inl (cV, 64, .inl fB)), (q3, .inl (cZ, 64, .inl fH))]) [0, 1, 2, 3] (by decide) rfl
    have hKc := hK.sub (tys' := [(cU, .int), (cV, .int), (cZ, .boolean)]) [0, 1, 2] rfl
    have hFc := va_free (wc := [(a1, .inr (1, [.ref q1, .ref q2, .ref q3, .int nx, .int mn, .int ed, .int th, .int he])), (q1, .inl (cU, 64, .inl fU)), (q2, .inl (cV, 64, .inl fB)), (q3, .inl (cZ, 64, .inl fH))]) hD hS hA [0, 1, 2, 3] rfl
    refine va_calli (va_runV (As := [.int i]) (rest := []) ⟨hx, hb, hml, hown, hts⟩ (m_from l dC dI a1 q1 q2 q3 cU cV cZ nx mn ed th he fU fB fH i i0 s.heap.size hi hi0) (cwV 1 hts gX1_block_X1_from rfl rfl rfl (by decide +kernel) ⟨Nat.le_of_ble_eq_true rfl, Nat.le_of_ble_eq_true rfl⟩) ⟨fun a U g mk q => by obtain ⟨q0, q1, qP, qK, qD⟩ := q; exact ⟨q0, q1, qP, va_K.moved (u := U) (U := U.calling g mk a) (Vm.Alike.refl U.vm) qK, qD⟩, va_recv hKc hPc (ci := 1) (q0 := 0) rfl rfl, fun U hU hW => ⟨rfl, by rw [hU], by rw [hU]; exact hPc, va_K.moved hW.alike hKc, hDc.weaken (fun _ _ _ _ => trivial)⟩⟩ rfl rfl hl.1 rfl (lv_room (Nat.le_of_ble_eq_true rfl)) dX1_block_10 ⟨(Nat.zero_le _), (Nat.zero_le _)⟩) hS (fun q _ h => hFc q h) hFc (fun r_1 u t H1 locs ht hvm hw_2 hB hz1 hk1 hS => ?_)
    obtain ⟨hP1, hK1, hD1⟩ := hB
    rw [ht] at hP1
    have hK1 := va_K.moved hvm.symm hK1
    try dsimp only at hw_2
    obtain ⟨hP, hD⟩ := va_join (wr := []) (w1 := [(a1, .inr (1, [.ref q1, .ref q2, .ref q3, .int nx, .int mn, .int ed, .int th, .int he])), (q1, .inl (cU, 64, .inl fU)), (q2, .inl (cV, 64, .inl fB)), (q3, .inl (cZ, 64, .inl fH))]) hP hD [0, 1, 2, 3] [] rfl rfl (by decide) (by decide) hk1 hFc hP1 hD1
    generalize H1 = H at hP hS ⊢
    have hP : va_P (dC, dI) vwCl [(a1, .inr (1, [.ref q1, .ref q2, .ref q3, .int nx, .int mn, .int ed, .int th, .int he])), (q1, .inl (cU, 64, .inl fU)), (q2, .inl (cV, 64, .inl fB)), (q3, .inl (cZ, 64, .inl fH))] H := hP
    have hD : va_D A [(a1, .inr (1, [.ref q1, .ref q2, .ref q3, .int nx, .int mn, .int ed, .int th, .int he])), (q1, .inl (cU, 64, .inl fU)), (q2, .inl (cV, 64, .inl fB)), (q3, .inl (cZ, 64, .inl fH))] := hD
    rcases hw_2 with ⟨k, k1, k2, k3, k4⟩ | ⟨k2, k3⟩
    · subst k2
      refine lv_istore_n (lv' := [(3, .int (nI k)), (0, .ref a1), (1, .int i), (2, .int b)]) hx hb dX1_block_13 rfl hl (by decide) rfl (fun ls hl => ?_)
      refine lv_iconst (v := 0) hx hb dX1_block_14 (by decide) ?_
      refine lv_istore (lv' := [(4, .int 0), (3, .int (nI k)), (0, .ref a1), (1, .int i), (2, .int b)]) hx hb dX1_block_15 hl (by decide) rfl (fun ls hl => ?_)
      refine lv_aload_n hx hb dX1_block_17 rfl (lv_at hl 2 rfl) ?_
      refine lv_iload_n hx hb dX1_block_18 rfl (lv_at hl 1 rfl) ?_
      refine lv_if_ge (tgt := 26) hx hb dX1_block_19 (by decide) (fun c_19 => ?_) (fun c_19 => ?_)
      · refine lv_iconst (v := 0) hx hb dX1_block_26 (by decide) ?_
        refine va_put (D := (dC, dI)) (ci := 1) (v := .int 0) (ty := .int) (C := RX1) (T := TX1) (N := 8) hx hb hts hi_1 tyX1 tyX1_ok nmX1 hown hK hP hD hS 0 rfl rfl 6 (by decide) (hts (.fieldLink RX1 20 "SegmentBoxModel" "thrown" "I") (by decide +kernel)) (fun _ h9 => h9) rfl (by decide +kernel) rfl rfl (Nat.le_of_ble_eq_true rfl) dX1_block_27 (fun H locs hP hD hS => ?_)
        have hP : va_P (dC, dI) vwCl [(a1, .inr (1, [.ref q1, .ref q2, .ref q3, .int nx, .int mn, .int ed, .int 0, .int he])), (q1, .inl (cU, 64, .inl fU)), (q2, .inl (cV, 64, .inl fB)), (q3, .inl (cZ, 64, .inl fH))] H := hP
        have hD : va_D A [(a1, .inr (1, [.ref q1, .ref q2, .ref q3, .int nx, .int mn, .int ed, .int 0, .int he])), (q1, .inl (cU, 64, .inl fU)), (q2, .inl (cV, 64, .inl fB)), (q3, .inl (cZ, 64, .inl fH))] := hD
        refine lv_aload_n hx hb dX1_block_30 rfl (lv_at hl 2 rfl) ?_
        refine va_get (D := (dC, dI)) (ci := 1) (v := .int 0) (C := RX1) (T := TX1) (N := 8) hx hb hts hi_1 hown hK hP 0 rfl rfl 6 (by decide) (hts (.fieldLink RX1 20 "SegmentBoxModel" "thrown" "I") (by decide +kernel)) (fun _ h9 => h9) rfl dX1_block_31 ?_
        refine lv_if_le (tgt := 39) hx hb dX1_block_34 (by decide) (fun c_34 => ?_) (fun c_34 => ?_)
        · have loop : ∀ (cnt j : Nat) (z9 : Int32), k + j + cnt = 64 → z9 = nI j → (∀ i, i < j → pH fH (k + i) = true) → ∀ (H : Heap) (locs : List Loc) (ls : Array Slot), va_P (dC, dI) vwCl [(a1, .inr (1, [.ref q1, .ref q2, .ref q3, .int nx, .int mn, .int ed, .int 0, .int he])), (q1, .inl (cU, 64, .inl fU)), (q2, .inl (cV, 64, .inl fB)), (q3, .inl (cZ, 64, .inl fH))] H → va_D A [(a1, .inr (1, [.ref q1, .ref q2, .ref q3, .int nx, .int mn, .int ed, .int 0, .int he])), (q1, .inl (cU, 64, .inl fU)), (q2, .inl (cV, 64, .inl fB)), (q3, .inl (cZ, 64, .inl fH))] → va_S A s.heap H locs → lv_has ls 5 [(4, .int z9), (3, .int (nI k)), (0, .ref a1), (1, .int i), (2, .int b)] → W p l e (headSpec wsX1_block ({ frames := 1, cells := 0, slots := 0, locals := 23 })).room s m ([.ref a1, .int i, .int b] : List Value).toArray below meth c H locs 0 0 (MQ below (va_Qi (fun (r : Int32) (u0 : Int32) => match u0 with | th' => (th' = 1 ∧ (i < 0 ∨ ∃ i0 : Nat, i = nI i0 ∧ i0 < 2 ^ 31 ∧ sg_c (st (pH fH)) 64 ≤ i0)) ∨ (th' = 0 ∧ ∃ i0 k : Nat, i = nI i0 ∧ i0 < 2 ^ 31 ∧ k < 64 ∧ st (pH fH) k = true ∧ sg_c (st (pH fH)) k = i0 ∧ ((b = 0 ∧ r = nx + nI k) ∨ (¬ b = 0 ∧ ∃ j : Nat, r = nI j ∧ k + j ≤ 64 ∧ (∀ i, i < j → pH fH (k + i) = true) ∧ (k + j < 64 → pH fH (k + j) = false))))) (fun (u0 : Int32) (t : State) => match u0 with | th' => va_P (dC, dI) vwCl [(a1, .inr (1, [.ref q1, .ref q2, .ref q3, .int nx, .int mn, .int ed, .int th', .int he])), (q1, .inl (cU, 64, .inl fU)), (q2, .inl (cV, 64, .inl fB)), (q3, .inl (cZ, 64, .inl fH))] t.heap ∧ va_K (dC, dI) vwCl [(cU, .int), (cV, .int), (cZ, .boolean)] t ∧ va_D A [(a1, .inr (1, [.ref q1, .ref q2, .ref q3, .int nx, .int mn, .int ed, .int th', .int he])), (q1, .inl (cU, 64, .inl fU)), (q2, .inl (cV, 64, .inl fB)), (q3, .inl (cZ, 64, .inl fH))]) A) ([.ref a1, .int i, .int b] : List Value).toArray s 0 0 A) (F0 m 39 ls []) := by
            intro cnt
            induction cnt with
            | zero =>
              intro j z9 hj h1 h2 H locs ls hP hD hS hl
              refine lv_iload_n hx hb dX1_block_39 rfl (lv_at hl 1 rfl) ?_
              refine lv_iload hx hb dX1_block_40 (lv_at hl 0 rfl) ?_
              refine lv_iadd hx hb dX1_block_42 ?_
              refine lv_bipush (v := 64) hx hb dX1_block_43 (by decide) ?_
              refine lv_icmp_ge (tgt := 66) hx hb dX1_block_45 (by decide) (fun c_45 => ?_) (fun c_45 => ?_)
              · refine lv_iload_n hx hb dX1_block_66 rfl (lv_at hl 4 rfl) ?_
                refine lv_if_eq (tgt := 75) hx hb dX1_block_67 (by decide) (fun c_67 => ?_) (fun c_67 => ?_)
                · refine lv_aload_n hx hb dX1_block_75 rfl (lv_at hl 2 rfl) ?_
                  refine va_get (D := (dC, dI)) (ci := 1) (v := .int nx) (C := RX1) (T := TX1) (N := 8) hx hb hts hi_1 hown hK hP 0 rfl rfl 3 (by decide) (hts (.fieldLink RX1 24 "SegmentBoxModel" "next" "I") (by decide +kernel)) (fun _ h9 => h9) rfl dX1_block_76 ?_
                  refine lv_iload_n hx hb dX1_block_79 rfl (lv_at hl 1 rfl) ?_
                  refine lv_iadd hx hb dX1_block_80 ?_
                  exact W.iret (v := nx + (nI k)) hx hb hr (fun t ht hW => ⟨⟨nx + (nI k), 0, rfl, Or.inr ⟨rfl, i0, k, hi, hi0, k1, k3, k4, Or.inl ⟨c_67, rfl⟩⟩, by rw [ht]; exact hP, va_K.moved hW.alike hK, hD⟩, hS.F ht⟩) hS.2.2 dX1_block_81
                · refine lv_iload hx hb dX1_block_70 (lv_at hl 0 rfl) ?_
                  refine lv_goto (tgt := 81) hx hb dX1_block_72 (by decide) ?_
                  exact W.iret (v := z9) hx hb hr (fun t ht hW => ⟨⟨z9, 0, rfl, Or.inr ⟨rfl, i0, k, hi, hi0, k1, k3, k4, Or.inr ⟨c_67, j, h1, by omega, h2, fun q => absurd q (by omega)⟩⟩, by rw [ht]; exact hP, va_K.moved hW.alike hK, hD⟩, hS.F ht⟩) hS.2.2 dX1_block_81
              · exact absurd ((ge64 (show nI k + z9 = nI (k + j) by rw [h1, nI_add]) (by omega)).mpr (by omega)) c_45
            | succ cnt ih =>
              intro j z9 hj h1 h2 H locs ls hP hD hS hl
              refine lv_iload_n hx hb dX1_block_39 rfl (lv_at hl 1 rfl) ?_
              refine lv_iload hx hb dX1_block_40 (lv_at hl 0 rfl) ?_
              refine lv_iadd hx hb dX1_block_42 ?_
              refine lv_bipush (v := 64) hx hb dX1_block_43 (by decide) ?_
              refine lv_icmp_ge (tgt := 66) hx hb dX1_block_45 (by decide) (fun c_45 => ?_) (fun c_45 => ?_)
              · exact absurd ((ge64 (show nI k + z9 = nI (k + j) by rw [h1, nI_add]) (by omega)).mp c_45) (by omega)
              · refine lv_aload_n hx hb dX1_block_48 rfl (lv_at hl 2 rfl) ?_
                refine va_get (D := (dC, dI)) (ci := 1) (v := .ref q3) (C := RX1) (T := TX1) (N := 8) hx hb hts hi_1 hown hK hP 0 rfl rfl 2 (by decide) (hts (.fieldLink RX1 16 "SegmentBoxModel" "isHeld" "[Z") (by decide +kernel)) (fun _ h9 => h9) rfl dX1_block_49 ?_
                refine lv_iload_n hx hb dX1_block_52 rfl (lv_at hl 1 rfl) ?_
                refine lv_iload hx hb dX1_block_53 (lv_at hl 0 rfl) ?_
                refine lv_iadd hx hb dX1_block_55 ?_
                refine va_zald hx hb hK hP 3 2 rfl rfl (inb_of (show nI k + z9 = nI (k + j) by rw [h1, nI_add]) (by omega)) dX1_block_56 ?_
                refine lv_if_eq (tgt := 66) hx hb dX1_block_57 (by decide) (fun c_57 => ?_) (fun c_57 => ?_)
                · refine lv_iload_n hx hb dX1_block_66 rfl (lv_at hl 4 rfl) ?_
                  refine lv_if_eq (tgt := 75) hx hb dX1_block_67 (by decide) (fun c_67 => ?_) (fun c_67 => ?_)
                  · refine lv_aload_n hx hb dX1_block_75 rfl (lv_at hl 2 rfl) ?_
                    refine va_get (D := (dC, dI)) (ci := 1) (v := .int nx) (C := RX1) (T := TX1) (N := 8) hx hb hts hi_1 hown hK hP 0 rfl rfl 3 (by decide) (hts (.fieldLink RX1 24 "SegmentBoxModel" "next" "I") (by decide +kernel)) (fun _ h9 => h9) rfl dX1_block_76 ?_
                    refine lv_iload_n hx hb dX1_block_79 rfl (lv_at hl 1 rfl) ?_
                    refine lv_iadd hx hb dX1_block_80 ?_
                    exact W.iret (v := nx + (nI k)) hx hb hr (fun t ht hW => ⟨⟨nx + (nI k), 0, rfl, Or.inr ⟨rfl, i0, k, hi, hi0, k1, k3, k4, Or.inl ⟨c_67, rfl⟩⟩, by rw [ht]; exact hP, va_K.moved hW.alike hK, hD⟩, hS.F ht⟩) hS.2.2 dX1_block_81
                  · refine lv_iload hx hb dX1_block_70 (lv_at hl 0 rfl) ?_
                    refine lv_goto (tgt := 81) hx hb dX1_block_72 (by decide) ?_
                    exact W.iret (v := z9) hx hb hr (fun t ht hW => ⟨⟨z9, 0, rfl, Or.inr ⟨rfl, i0, k, hi, hi0, k1, k3, k4, Or.inr ⟨c_67, j, h1, by omega, h2, fun q => pH_f (by rw [← cl_of (show nI k + z9 = nI (k + j) by rw [h1, nI_add]) (by omega)]; exact c_57)⟩⟩, by rw [ht]; exact hP, va_K.moved hW.alike hK, hD⟩, hS.F ht⟩) hS.2.2 dX1_block_81
                · obtain ⟨x_3, ex_3⟩ : ∃ y : Int32, y = z9 + 1 := ⟨_, rfl⟩
                  refine lv_iinc (v := x_3) (lv' := [(4, .int x_3), (3, .int (nI k)), (0, .ref a1), (1, .int i), (2, .int b)]) hx hb dX1_block_60 hl (k := 0) rfl (by rw [ex_3]; rfl) (by decide) rfl (fun ls hl => ?_)
                  refine lv_goto (tgt := 39) hx hb dX1_block_63 (by decide) ?_
                  exact ih (j + 1) x_3 (by omega) (by rw [ex_3, h1, nI_succ]) (fun i hi => by
                    by_cases q : i = j
                    · rw [q]; exact pH_t (by rw [← cl_of (show nI k + z9 = nI (k + j) by rw [h1, nI_add]) (by omega)]; exact c_57)
                    · exact h2 i (by omega)) H locs ls hP hD hS (lv_sub hl [0, 1, 2, 3, 4] rfl)
          exact loop (64 - k) 0 0 (by omega) nI_0.symm (fun i hi => absurd hi (by omega)) H _ ls hP hD hS (lv_sub hl [0, 1, 2, 3, 4] rfl)
        · exact absurd (by decide) c_34
      · exact absurd (nI_pos' (by omega)) c_19
    · subst k2
      refine lv_istore_n (lv' := [(3, .int (-1)), (0, .ref a1), (1, .int i), (2, .int b)]) hx hb dX1_block_13 rfl hl (by decide) rfl (fun ls hl => ?_)
      refine lv_iconst (v := 0) hx hb dX1_block_14 (by decide) ?_
      refine lv_istore (lv' := [(4, .int 0), (3, .int (-1)), (0, .ref a1), (1, .int i), (2, .int b)]) hx hb dX1_block_15 hl (by decide) rfl (fun ls hl => ?_)
      refine lv_aload_n hx hb dX1_block_17 rfl (lv_at hl 2 rfl) ?_
      refine lv_iload_n hx hb dX1_block_18 rfl (lv_at hl 1 rfl) ?_
      refine lv_if_ge (tgt := 26) hx hb dX1_block_19 (by decide) (fun c_19 => ?_) (fun c_19 => ?_)
      · exact absurd c_19 (by decide)
      · refine lv_iconst (v := 1) hx hb dX1_block_22 (by decide) ?_
        refine lv_goto (tgt := 27) hx hb dX1_block_23 (by decide) ?_
        refine va_put (D := (dC, dI)) (ci := 1) (v := .int 1) (ty := .int) (C := RX1) (T := TX1) (N := 8) hx hb hts hi_1 tyX1 tyX1_ok nmX1 hown hK hP hD hS 0 rfl rfl 6 (by decide) (hts (.fieldLink RX1 20 "SegmentBoxModel" "thrown" "I") (by decide +kernel)) (fun _ h9 => h9) rfl (by decide +kernel) rfl rfl (Nat.le_of_ble_eq_true rfl) dX1_block_27 (fun H locs hP hD hS => ?_)
        have hP : va_P (dC, dI) vwCl [(a1, .inr (1, [.ref q1, .ref q2, .ref q3, .int nx, .int mn, .int ed, .int 1, .int he])), (q1, .inl (cU, 64, .inl fU)), (q2, .inl (cV, 64, .inl fB)), (q3, .inl (cZ, 64, .inl fH))] H := hP
        have hD : va_D A [(a1, .inr (1, [.ref q1, .ref q2, .ref q3, .int nx, .int mn, .int ed, .int 1, .int he])), (q1, .inl (cU, 64, .inl fU)), (q2, .inl (cV, 64, .inl fB)), (q3, .inl (cZ, 64, .inl fH))] := hD
        refine lv_aload_n hx hb dX1_block_30 rfl (lv_at hl 2 rfl) ?_
        refine va_get (D := (dC, dI)) (ci := 1) (v := .int 1) (C := RX1) (T := TX1) (N := 8) hx hb hts hi_1 hown hK hP 0 rfl rfl 6 (by decide) (hts (.fieldLink RX1 20 "SegmentBoxModel" "thrown" "I") (by decide +kernel)) (fun _ h9 => h9) rfl dX1_block_31 ?_
        refine lv_if_le (tgt := 39) hx hb dX1_block_34 (by decide) (fun c_34 => ?_) (fun c_34 => ?_)
        · exact absurd c_34 (by decide)
        · refine lv_iconst (v := 0) hx hb dX1_block_37 (by decide) ?_
          exact W.iret (v := 0) hx hb hr (fun t ht hW => ⟨⟨0, 1, rfl, Or.inl ⟨rfl, Or.inr ⟨i0, hi, hi0, k3⟩⟩, by rw [ht]; exact hP, va_K.moved hW.alike hK, hD⟩, hS.F ht⟩) hS.2.2 dX1_block_38
  · refine lv_iconst (v := -1) hx hb dX1_block_4 (by decide) ?_
    refine lv_goto (tgt := 13) hx hb dX1_block_5 (by decide) ?_
    refine lv_istore_n (lv' := [(3, .int (-1)), (0, .ref a1), (1, .int i), (2, .int b)]) hx hb dX1_block_13 rfl hl (by decide) rfl (fun ls hl => ?_)
    refine lv_iconst (v := 0) hx hb dX1_block_14 (by decide) ?_
    refine lv_istore (lv' := [(4, .int 0), (3, .int (-1)), (0, .ref a1), (1, .int i), (2, .int b)]) hx hb dX1_block_15 hl (by decide) rfl (fun ls hl => ?_)
    refine lv_aload_n hx hb dX1_block_17 rfl (lv_at hl 2 rfl) ?_
    refine lv_iload_n hx hb dX1_block_18 rfl (lv_at hl 1 rfl) ?_
    refine lv_if_ge (tgt := 26) hx hb dX1_block_19 (by decide) (fun c_19 => ?_) (fun c_19 => ?_)
    · exact absurd c_19 (by decide)
    · refine lv_iconst (v := 1) hx hb dX1_block_22 (by decide) ?_
      refine lv_goto (tgt := 27) hx hb dX1_block_23 (by decide) ?_
      refine va_put (D := (dC, dI)) (ci := 1) (v := .int 1) (ty := .int) (C := RX1) (T := TX1) (N := 8) hx hb hts hi_1 tyX1 tyX1_ok nmX1 hown hK hP hD hS 0 rfl rfl 6 (by decide) (hts (.fieldLink RX1 20 "SegmentBoxModel" "thrown" "I") (by decide +kernel)) (fun _ h9 => h9) rfl (by decide +kernel) rfl rfl (Nat.le_of_ble_eq_true rfl) dX1_block_27 (fun H locs hP hD hS => ?_)
      have hP : va_P (dC, dI) vwCl [(a1, .inr (1, [.ref q1, .ref q2, .ref q3, .int nx, .int mn, .int ed, .int 1, .int he])), (q1, .inl (cU, 64, .inl fU)), (q2, .inl (cV, 64, .inl fB)), (q3, .inl (cZ, 64, .inl fH))] H := hP
      have hD : va_D A [(a1, .inr (1, [.ref q1, .ref q2, .ref q3, .int nx, .int mn, .int ed, .int 1, .int he])), (q1, .inl (cU, 64, .inl fU)), (q2, .inl (cV, 64, .inl fB)), (q3, .inl (cZ, 64, .inl fH))] := hD
      refine lv_aload_n hx hb dX1_block_30 rfl (lv_at hl 2 rfl) ?_
      refine va_get (D := (dC, dI)) (ci := 1) (v := .int 1) (C := RX1) (T := TX1) (N := 8) hx hb hts hi_1 hown hK hP 0 rfl rfl 6 (by decide) (hts (.fieldLink RX1 20 "SegmentBoxModel" "thrown" "I") (by decide +kernel)) (fun _ h9 => h9) rfl dX1_block_31 ?_
      refine lv_if_le (tgt := 39) hx hb dX1_block_34 (by decide) (fun c_34 => ?_) (fun c_34 => ?_)
      · exact absurd c_34 (by decide)
      · refine lv_iconst (v := 0) hx hb dX1_block_37 (by decide) ?_
        exact W.iret (v := 0) hx hb hr (fun t ht hW => ⟨⟨0, 1, rfl, Or.inl ⟨rfl, Or.inl (Int32.not_le.mp c_1)⟩, by rw [ht]; exact hP, va_K.moved hW.alike hK, hD⟩, hS.F ht⟩) hS.2.2 dX1_block_38
end
section
set_option maxHeartbeats 4000000 in
set_option maxRecDepth 100000 in
theorem m_segment (l : Launch) (dC : Nat → ClassId) (dI : Nat → Nat → Nat) (a1 q1 q2 q3 : Nat) (cU cV cZ : ClassId) (nx mn ed th he : Int32) (fU fB fH : Nat → Int32) (bs : Int32) (u e9 : Nat) (S : aS) (n : Int32) (v : Int64) (k : Int32) (sz : Nat) (hIV : IV u e9 he S.1) (hnr : S.1 u = false) (hMR : MRa u S fU fB fH) (hnx : nx = bs + nI u) (hmn : mn = nI u) (hed : he = 0 ∨ ed = bs + nI e9) : Met l yX1_segment wsX1_segment ({ frames := 1, cells := 0, slots := 0, locals := 21 }) (va_Pc [.ref a1, .int n, .long v, .int k] (fun U => U.heap.size = sz ∧ va_P (dC, dI) vwCl [(a1, .inr (1, [.ref q1, .ref q2, .ref q3, .int nx, .int mn, .int ed, .int th, .int he])), (q1, .inl (cU, 64, .inl fU)), (q2, .inl (cV, 64, .inl fB)), (q3, .inl (cZ, 64, .inl fH))] U.heap ∧ va_K (dC, dI) vwCl [(cU, .int), (cV, .int), (cZ, .boolean)] U ∧ va_D (fun _ => True) [(a1, .inr (1, [.ref q1, .ref q2, .ref q3, .int nx, .int mn, .int ed, .int th, .int he])), (q1, .inl (cU, 64, .inl fU)), (q2, .inl (cV, 64, .inl fB)), (q3, .inl (cZ, 64, .inl fH))])) (va_Qi (fun (r : Int32) (u0 : Int32 × Int32 × Int32 × (Nat → Int32) × (Nat → Int32) × (Nat → Int32)) => match u0 with | (nx', mn', th', fU', fB', fH') => ((k < 0 ∨ 8 < k) ∧ th' = 1 ∧ nx' = nx ∧ mn' = mn ∧ fU' = fU ∧ fB' = fB ∧ fH' = fH) ∨ ∃ i u' : Nat, i ≤ 8 ∧ k = nI i ∧ th' = 0 ∧ u ≤ u' ∧ r = nI u' - nI u ∧ nx' = bs + nI u' ∧ mn' = nI u' ∧ IV u' e9 he (a_sg bs he e9 n v i S).1 ∧ (a_sg bs he e9 n v i S).1 u' = false ∧ MRa u' (a_sg bs he e9 n v i S) fU' fB' fH') (fun (u0 : Int32 × Int32 × Int32 × (Nat → Int32) × (Nat → Int32) × (Nat → Int32)) (t : State) => match u0 with | (nx', mn', th', fU', fB', fH') => va_P (dC, dI) vwCl [(a1, .inr (1, [.ref q1, .ref q2, .ref q3, .int nx', .int mn', .int ed, .int th', .int he])), (q1, .inl (cU, 64, .inl fU')), (q2, .inl (cV, 64, .inl fB')), (q3, .inl (cZ, 64, .inl fH'))] t.heap ∧ va_K (dC, dI) vwCl [(cU, .int), (cV, .int), (cZ, .boolean)] t ∧ va_D (va_A [(a1, .inr (1, [.ref q1, .ref q2, .ref q3, .int nx, .int mn, .int ed, .int th, .int he])), (q1, .inl (cU, 64, .inl fU)), (q2, .inl (cV, 64, .inl fB)), (q3, .inl (cZ, 64, .inl fH))] sz) [(a1, .inr (1, [.ref q1, .ref q2, .ref q3, .int nx', .int mn', .int ed, .int th', .int he])), (q1, .inl (cU, 64, .inl fU')), (q2, .inl (cV, 64, .inl fB')), (q3, .inl (cZ, 64, .inl fH'))]) (va_A [(a1, .inr (1, [.ref q1, .ref q2, .ref q3, .int nx, .int mn, .int ed, .int th, .int he])), (q1, .inl (cU, 64, .inl fU)), (q2, .inl (cV, 64, .inl fB)), (q3, .inl (cZ, 64, .inl fH))] sz)) 0 0 (va_A [(a1, .inr (1, [.ref q1, .ref q2, .ref q3, .int nx, .int mn, .int ed, .int th, .int he])), (q1, .inl (cU, 64, .inl fU)), (q2, .inl (cV, 64, .inl fB)), (q3, .inl (cZ, 64, .inl fH))] sz) := by
  refine Met.ofW (cc := cX1_segment) (maxL := 8) (ret := (some .int)) (by decide) rfl ?_
  intro p e s m args below meth c s₁ B hml hv
  obtain ⟨rfl, hsz, hP, hK, hD0⟩ := hv
  have hx := B.exec
  have hb := B.bytes
  have hr := B.returns
  have hts := atoms_spec (ws := wsX1_segment) B.pre
  have hown : s.vm.findClass RX1 = some m.cls := findClass_of_methodNamed B.named
  have hlocks := B.notSynchronized
  subst hsz
  have hD := hD0.self (sz := s.heap.size)
  generalize hAe : va_A [(a1, .inr (1, [.ref q1, .ref q2, .ref q3, .int nx, .int mn, .int ed, .int th, .int he])), (q1, .inl (cU, 64, .inl fU)), (q2, .inl (cV, 64, .inl fB)), (q3, .inl (cZ, 64, .inl fH))] s.heap.size = A at hD ⊢
  have hA : ∀ q : Nat, s.heap.size ≤ q → A q := fun q h => by rw [← hAe]; exact Or.inr h
  have hS : va_S A s.heap s.heap [] := va_S.rf
  have hP : va_P (dC, dI) vwCl [(a1, .inr (1, [.ref q1, .ref q2, .ref q3, .int nx, .int mn, .int ed, .int th, .int he])), (q1, .inl (cU, 64, .inl fU)), (q2, .inl (cV, 64, .inl fB)), (q3, .inl (cZ, 64, .inl fH))] s.heap := hP
  have hl := lv_entry ([.ref a1, .int n, .long v, .int k]) (n := 8) (Nat.le_of_ble_eq_true rfl)
  rw [lg_entry_eq]
  generalize (lg_sl ([.ref a1, .int n, .long v, .int k]) ++ List.replicate (8 - (lg_sl ([.ref a1, .int n, .long v, .int k])).length) Slot.unset).toArray = ls at hl ⊢
  have hl : lv_has ls 8 [(0, .ref a1), (1, .int n), (2, .long v), (4, .int k)] := hl
  have hi_1 : ∀ w ∈ u_ws RX1 TX1 8, w ∈ wsX1_segment := by decide +kernel
  refine lv_aload_n hx hb dX1_segment_0 rfl (lv_at hl 0 rfl) ?_
  refine lv_iload hx hb dX1_segment_1 (lv_at hl 3 rfl) ?_
  refine lv_if_lt (tgt := 13) hx hb dX1_segment_3 (by decide) (fun c_3 => ?_) (fun c_3 => ?_)
  · refine lv_iconst (v := 1) hx hb dX1_segment_13 (by decide) ?_
    refine lv_goto (tgt := 18) hx hb dX1_segment_14 (by decide) ?_
    refine va_put (D := (dC, dI)) (ci := 1) (v := .int 1) (ty := .int) (C := RX1) (T := TX1) (N := 8) hx hb hts hi_1 tyX1 tyX1_ok nmX1 hown hK hP hD hS 0 rfl rfl 6 (by decide) (hts (.fieldLink RX1 20 "SegmentBoxModel" "thrown" "I") (by decide +kernel)) (fun _ h9 => h9) rfl (by decide +kernel) rfl rfl (Nat.le_of_ble_eq_true rfl) dX1_segment_18 (fun H locs hP hD hS => ?_)
    have hP : va_P (dC, dI) vwCl [(a1, .inr (1, [.ref q1, .ref q2, .ref q3, .int nx, .int mn, .int ed, .int 1, .int he])), (q1, .inl (cU, 64, .inl fU)), (q2, .inl (cV, 64, .inl fB)), (q3, .inl (cZ, 64, .inl fH))] H := hP
    have hD : va_D A [(a1, .inr (1, [.ref q1, .ref q2, .ref q3, .int nx, .int mn, .int ed, .int 1, .int he])), (q1, .inl (cU, 64, .inl fU)), (q2, .inl (cV, 64, .inl fB)), (q3, .inl (cZ, 64, .inl fH))] := hD
    refine lv_aload_n hx hb dX1_segment_21 rfl (lv_at hl 0 rfl) ?_
    refine va_get (D := (dC, dI)) (ci := 1) (v := .int 1) (C := RX1) (T := TX1) (N := 8) hx hb hts hi_1 hown hK hP 0 rfl rfl 6 (by decide) (hts (.fieldLink RX1 20 "SegmentBoxModel" "thrown" "I") (by decide +kernel)) (fun _ h9 => h9) rfl dX1_segment_22 ?_
    refine lv_if_le (tgt := 30) hx hb dX1_segment_25 (by decide) (fun c_25 => ?_) (fun c_25 => ?_)
    · exact absurd c_25 (by decide)
    · refine lv_iconst (v := 0) hx hb dX1_segment_28 (by decide) ?_
      exact W.iret (v := 0) hx hb hr (fun t ht hW => ⟨⟨0, (nx, mn, 1, fU, fB, fH), rfl, Or.inl ⟨Or.inl c_3, rfl, rfl, rfl, rfl, rfl, rfl⟩, by rw [ht]; exact hP, va_K.moved hW.alike hK, hD⟩, hS.F ht⟩) hS.2.2 dX1_segment_29
  · refine lv_iload hx hb dX1_segment_6 (lv_at hl 3 rfl) ?_
    refine lv_bipush (v := 8) hx hb dX1_segment_8 (by decide) ?_
    refine lv_icmp_le (tgt := 17) hx hb dX1_segment_10 (by decide) (fun c_10 => ?_) (fun c_10 => ?_)
    · refine lv_iconst (v := 0) hx hb dX1_segment_17 (by decide) ?_
      refine va_put (D := (dC, dI)) (ci := 1) (v := .int 0) (ty := .int) (C := RX1) (T := TX1) (N := 8) hx hb hts hi_1 tyX1 tyX1_ok nmX1 hown hK hP hD hS 0 rfl rfl 6 (by decide) (hts (.fieldLink RX1 20 "SegmentBoxModel" "thrown" "I") (by decide +kernel)) (fun _ h9 => h9) rfl (by decide +kernel) rfl rfl (Nat.le_of_ble_eq_true rfl) dX1_segment_18 (fun H locs hP hD hS => ?_)
      have hP : va_P (dC, dI) vwCl [(a1, .inr (1, [.ref q1, .ref q2, .ref q3, .int nx, .int mn, .int ed, .int 0, .int he])), (q1, .inl (cU, 64, .inl fU)), (q2, .inl (cV, 64, .inl fB)), (q3, .inl (cZ, 64, .inl fH))] H := hP
      have hD : va_D A [(a1, .inr (1, [.ref q1, .ref q2, .ref q3, .int nx, .int mn, .int ed, .int 0, .int he])), (q1, .inl (cU, 64, .inl fU)), (q2, .inl (cV, 64, .inl fB)), (q3, .inl (cZ, 64, .inl fH))] := hD
      refine lv_aload_n hx hb dX1_segment_21 rfl (lv_at hl 0 rfl) ?_
      refine va_get (D := (dC, dI)) (ci := 1) (v := .int 0) (C := RX1) (T := TX1) (N := 8) hx hb hts hi_1 hown hK hP 0 rfl rfl 6 (by decide) (hts (.fieldLink RX1 20 "SegmentBoxModel" "thrown" "I") (by decide +kernel)) (fun _ h9 => h9) rfl dX1_segment_22 ?_
      refine lv_if_le (tgt := 30) hx hb dX1_segment_25 (by decide) (fun c_25 => ?_) (fun c_25 => ?_)
      · refine lv_aload_n hx hb dX1_segment_30 rfl (lv_at hl 0 rfl) ?_
        refine va_get (D := (dC, dI)) (ci := 1) (v := .int mn) (C := RX1) (T := TX1) (N := 8) hx hb hts hi_1 hown hK hP 0 rfl rfl 4 (by decide) (hts (.fieldLink RX1 27 "SegmentBoxModel" "many" "I") (by decide +kernel)) (fun _ h9 => h9) rfl dX1_segment_31 ?_
        refine lv_istore (lv' := [(5, .int mn), (0, .ref a1), (1, .int n), (2, .long v), (4, .int k)]) hx hb dX1_segment_34 hl (by decide) rfl (fun ls hl => ?_)
        obtain ⟨i0, hi0, hk⟩ : ∃ i0 : Nat, i0 ≤ 8 ∧ k = nI i0 := nI_of2 (M := 8) (n := 8) (by decide) c_3 c_10
        have hu4 : u ≤ 64 := hIV.1
        have loop : ∀ (cnt j : Nat) (x9 : Int32) (u9 : Nat) (nx9 mn9 : Int32) (g1 g2 g3 : Nat → Int32), j + cnt = i0 → x9 = nI j → u ≤ u9 → IV u9 e9 he (a_sg bs he e9 n v j S).1 → (a_sg bs he e9 n v j S).1 u9 = false → MRa u9 (a_sg bs he e9 n v j S) g1 g2 g3 → nx9 = bs + nI u9 → mn9 = nI u9 → ∀ (H : Heap) (locs : List Loc) (ls : Array Slot), va_P (dC, dI) vwCl [(a1, .inr (1, [.ref q1, .ref q2, .ref q3, .int nx9, .int mn9, .int ed, .int 0, .int he])), (q1, .inl (cU, 64, .inl g1)), (q2, .inl (cV, 64, .inl g2)), (q3, .inl (cZ, 64, .inl g3))] H → va_D A [(a1, .inr (1, [.ref q1, .ref q2, .ref q3, .int nx9, .int mn9, .int ed, .int 0, .int he])), (q1, .inl (cU, 64, .inl g1)), (q2, .inl (cV, 64, .inl g2)), (q3, .inl (cZ, 64, .inl g3))] → va_S A s.heap H locs → lv_has ls 8 [(6, .int x9), (5, .int mn), (0, .ref a1), (1, .int n), (2, .long v), (4, .int k)] → W p l e (headSpec wsX1_segment ({ frames := 1, cells := 0, slots := 0, locals := 21 })).room s m ([.ref a1, .int n, .long v, .int k] : List Value).toArray below meth c H locs 0 0 (MQ below (va_Qi (fun (r : Int32) (u0 : Int32 × Int32 × Int32 × (Nat → Int32) × (Nat → Int32) × (Nat → Int32)) => match u0 with | (nx', mn', th', fU', fB', fH') => ((k < 0 ∨ 8 < k) ∧ th' = 1 ∧ nx' = nx ∧ mn' = mn ∧ fU' = fU ∧ fB' = fB ∧ fH' = fH) ∨ ∃ i u' : Nat, i ≤ 8 ∧ k = nI i ∧ th' = 0 ∧ u ≤ u' ∧ r = nI u' - nI u ∧ nx' = bs + nI u' ∧ mn' = nI u' ∧ IV u' e9 he (a_sg bs he e9 n v i S).1 ∧ (a_sg bs he e9 n v i S).1 u' = false ∧ MRa u' (a_sg bs he e9 n v i S) fU' fB' fH') (fun (u0 : Int32 × Int32 × Int32 × (Nat → Int32) × (Nat → Int32) × (Nat → Int32)) (t : State) => match u0 with | (nx', mn', th', fU', fB', fH') => va_P (dC, dI) vwCl [(a1, .inr (1, [.ref q1, .ref q2, .ref q3, .int nx', .int mn', .int ed, .int th', .int he])), (q1, .inl (cU, 64, .inl fU')), (q2, .inl (cV, 64, .inl fB')), (q3, .inl (cZ, 64, .inl fH'))] t.heap ∧ va_K (dC, dI) vwCl [(cU, .int), (cV, .int), (cZ, .boolean)] t ∧ va_D A [(a1, .inr (1, [.ref q1, .ref q2, .ref q3, .int nx', .int mn', .int ed, .int th', .int he])), (q1, .inl (cU, 64, .inl fU')), (q2, .inl (cV, 64, .inl fB')), (q3, .inl (cZ, 64, .inl fH'))]) A) ([.ref a1, .int n, .long v, .int k] : List Value).toArray s 0 0 A) (F0 m 39 ls []) := by
          intro cnt
          induction cnt with
          | zero =>
            intro j x9 u9 nx9 mn9 g1 g2 g3 hj h1 h2 h3 h4 h5 h6 h7 H locs ls hP hD hS hl
            have h8 : u9 ≤ 64 := h3.1
            refine lv_iload hx hb dX1_segment_39 (lv_at hl 0 rfl) ?_
            refine lv_iload hx hb dX1_segment_41 (lv_at hl 5 rfl) ?_
            refine lv_icmp_ge (tgt := 157) hx hb dX1_segment_43 (by decide) (fun c_43 => ?_) (fun c_43 => ?_)
            · refine lv_aload_n hx hb dX1_segment_157 rfl (lv_at hl 2 rfl) ?_
              refine va_get (D := (dC, dI)) (ci := 1) (v := .int mn9) (C := RX1) (T := TX1) (N := 8) hx hb hts hi_1 hown hK hP 0 rfl rfl 4 (by decide) (hts (.fieldLink RX1 27 "SegmentBoxModel" "many" "I") (by decide +kernel)) (fun _ h9 => h9) rfl dX1_segment_158 ?_
              refine lv_iload hx hb dX1_segment_161 (lv_at hl 1 rfl) ?_
              refine lv_isub hx hb dX1_segment_163 ?_
              have hji : j = i0 := by omega
              subst hji
              exact W.iret (v := mn9 - mn) hx hb hr (fun t ht hW => ⟨⟨mn9 - mn, (nx9, mn9, 0, g1, g2, g3), rfl, Or.inr ⟨j, u9, hi0, hk, rfl, h2, by rw [h7, hmn], h6, h7, h3, h4, h5⟩, by rw [ht]; exact hP, va_K.moved hW.alike hK, hD⟩, hS.F ht⟩) hS.2.2 dX1_segment_164
            · exact absurd (by rw [hk, h1]; exact nI_le (by omega) (by omega)) c_43
          | succ cnt ih =>
            intro j x9 u9 nx9 mn9 g1 g2 g3 hj h1 h2 h3 h4 h5 h6 h7 H locs ls hP hD hS hl
            have h8 : u9 ≤ 64 := h3.1
            have key := tk_iff (bs := bs) (N := n + x9) (ek := he) (en := ed) (u := u9) (e := e9) (T := (a_sg bs he e9 n v j S).1) (held := fun a => ¬ g3 a.toNatClampNeg = 0) h8 h3.2.1 (fun q hq => by rw [nI_clamp (by omega)]; exact MR_nz h5 (by omega)) (by
              rcases h3.2.2.2 with z | ⟨z1, z2, -⟩
              · exact Or.inl z
              · rcases hed with w | w
                · exact Or.inl w
                · exact Or.inr ⟨z1, z2, w⟩)
            rw [← h6, ← h7] at key
            have hsj : (a_sg bs he e9 n v (j + 1) S) = a_tk bs he e9 (n + x9) (a_by v j) (a_sg bs he e9 n v j S) := by rw [h1]; rfl
            refine lv_iload hx hb dX1_segment_39 (lv_at hl 0 rfl) ?_
            refine lv_iload hx hb dX1_segment_41 (lv_at hl 5 rfl) ?_
            refine lv_icmp_ge (tgt := 157) hx hb dX1_segment_43 (by decide) (fun c_43 => ?_) (fun c_43 => ?_)
            · exact absurd c_43 (by rw [hk, h1]; exact nI_ge (by omega) (by omega))
            · refine lv_iload_n hx hb dX1_segment_46 rfl (lv_at hl 3 rfl) ?_
              refine lv_iload hx hb dX1_segment_47 (lv_at hl 0 rfl) ?_
              refine lv_iadd hx hb dX1_segment_49 ?_
              refine lv_aload_n hx hb dX1_segment_50 rfl (lv_at hl 2 rfl) ?_
              refine va_get (D := (dC, dI)) (ci := 1) (v := .int nx9) (C := RX1) (T := TX1) (N := 8) hx hb hts hi_1 hown hK hP 0 rfl rfl 3 (by decide) (hts (.fieldLink RX1 24 "SegmentBoxModel" "next" "I") (by decide +kernel)) (fun _ h9 => h9) rfl dX1_segment_51 ?_
              refine lv_isub hx hb dX1_segment_54 ?_
              refine lv_istore (lv' := [(7, .int ((n + x9) - nx9)), (6, .int x9), (5, .int mn), (0, .ref a1), (1, .int n), (2, .long v), (4, .int k)]) hx hb dX1_segment_55 hl (by decide) rfl (fun ls hl => ?_)
              refine lv_iload hx hb dX1_segment_57 (lv_at hl 0 rfl) ?_
              refine lv_if_lt (tgt := 151) hx hb dX1_segment_59 (by decide) (fun c_59 => ?_) (fun c_59 => ?_)
              · have hsame : (a_sg bs he e9 n v (j + 1) S) = (a_sg bs he e9 n v j S) := by rw [hsj]; exact a_tk_f (fun w => (fun z => z.1 c_59) (key.mpr w))
                obtain ⟨x_1, ex_1⟩ : ∃ y : Int32, y = x9 + 1 := ⟨_, rfl⟩
                refine lv_iinc (v := x_1) (lv' := [(6, .int x_1), (7, .int ((n + x9) - nx9)), (5, .int mn), (0, .ref a1), (1, .int n), (2, .long v), (4, .int k)]) hx hb dX1_segment_151 hl (k := 1) rfl (by rw [ex_1]; rfl) (by decide) rfl (fun ls hl => ?_)
                refine lv_goto (tgt := 39) hx hb dX1_segment_154 (by decide) ?_
                exact ih (j + 1) x_1 u9 nx9 mn9 g1 g2 g3 (by omega) (by rw [ex_1, h1, nI_succ]) h2 (by rw [hsame]; exact h3) (by rw [hsame]; exact h4) (by rw [hsame]; exact h5) h6 h7 H locs ls hP hD hS (lv_sub hl [0, 2, 3, 4, 5, 6] rfl)
              · refine lv_iload hx hb dX1_segment_62 (lv_at hl 0 rfl) ?_
                refine lv_bipush (v := 64) hx hb dX1_segment_64 (by decide) ?_
                refine lv_aload_n hx hb dX1_segment_66 rfl (lv_at hl 3 rfl) ?_
                refine va_get (D := (dC, dI)) (ci := 1) (v := .int mn9) (C := RX1) (T := TX1) (N := 8) hx hb hts hi_1 hown hK hP 0 rfl rfl 4 (by decide) (hts (.fieldLink RX1 27 "SegmentBoxModel" "many" "I") (by decide +kernel)) (fun _ h9 => h9) rfl dX1_segment_67 ?_
                refine lv_isub hx hb dX1_segment_70 ?_
                refine lv_icmp_ge (tgt := 151) hx hb dX1_segment_71 (by decide) (fun c_71 => ?_) (fun c_71 => ?_)
                · have hsame : (a_sg bs he e9 n v (j + 1) S) = (a_sg bs he e9 n v j S) := by rw [hsj]; exact a_tk_f (fun w => (fun z => Int32.not_le.mpr z.2.1 c_71) (key.mpr w))
                  obtain ⟨x_2, ex_2⟩ : ∃ y : Int32, y = x9 + 1 := ⟨_, rfl⟩
                  refine lv_iinc (v := x_2) (lv' := [(6, .int x_2), (7, .int ((n + x9) - nx9)), (5, .int mn), (0, .ref a1), (1, .int n), (2, .long v), (4, .int k)]) hx hb dX1_segment_151 hl (k := 1) rfl (by rw [ex_2]; rfl) (by decide) rfl (fun ls hl => ?_)
                  refine lv_goto (tgt := 39) hx hb dX1_segment_154 (by decide) ?_
                  exact ih (j + 1) x_2 u9 nx9 mn9 g1 g2 g3 (by omega) (by rw [ex_2, h1, nI_succ]) h2 (by rw [hsame]; exact h3) (by rw [hsame]; exact h4) (by rw [hsame]; exact h5) h6 h7 H locs ls hP hD hS (lv_sub hl [0, 2, 3, 4, 5, 6] rfl)
                · refine lv_aload_n hx hb dX1_segment_74 rfl (lv_at hl 3 rfl) ?_
                  refine va_get (D := (dC, dI)) (ci := 1) (v := .ref q3) (C := RX1) (T := TX1) (N := 8) hx hb hts hi_1 hown hK hP 0 rfl rfl 2 (by decide) (hts (.fieldLink RX1 16 "SegmentBoxModel" "isHeld" "[Z") (by decide +kernel)) (fun _ h9 => h9) rfl dX1_segment_75 ?_
                  refine lv_iload hx hb dX1_segment_78 (lv_at hl 0 rfl) ?_
                  refine va_zald hx hb hK hP 3 2 rfl rfl (by obtain ⟨q, hq, ed9⟩ := inb_d h7 h8 c_59 c_71; exact inb_of ed9 (by omega)) dX1_segment_80 ?_
                  refine lv_if_ne (tgt := 151) hx hb dX1_segment_81 (by decide) (fun c_81 => ?_) (fun c_81 => ?_)
                  · have hsame : (a_sg bs he e9 n v (j + 1) S) = (a_sg bs he e9 n v j S) := by rw [hsj]; exact a_tk_f (fun w => (fun z => z.2.2.1 c_81) (key.mpr w))
                    obtain ⟨x_3, ex_3⟩ : ∃ y : Int32, y = x9 + 1 := ⟨_, rfl⟩
                    refine lv_iinc (v := x_3) (lv' := [(6, .int x_3), (7, .int ((n + x9) - nx9)), (5, .int mn), (0, .ref a1), (1, .int n), (2, .long v), (4, .int k)]) hx hb dX1_segment_151 hl (k := 1) rfl (by rw [ex_3]; rfl) (by decide) rfl (fun ls hl => ?_)
                    refine lv_goto (tgt := 39) hx hb dX1_segment_154 (by decide) ?_
                    exact ih (j + 1) x_3 u9 nx9 mn9 g1 g2 g3 (by omega) (by rw [ex_3, h1, nI_succ]) h2 (by rw [hsame]; exact h3) (by rw [hsame]; exact h4) (by rw [hsame]; exact h5) h6 h7 H locs ls hP hD hS (lv_sub hl [0, 2, 3, 4, 5, 6] rfl)
                  · refine lv_aload_n hx hb dX1_segment_84 rfl (lv_at hl 3 rfl) ?_
                    refine va_get (D := (dC, dI)) (ci := 1) (v := .int he) (C := RX1) (T := TX1) (N := 8) hx hb hts hi_1 hown hK hP 0 rfl rfl 7 (by decide) (hts (.fieldLink RX1 30 "SegmentBoxModel" "hasEnd" "Z") (by decide +kernel)) (fun _ h9 => h9) rfl dX1_segment_85 ?_
                    refine lv_if_eq (tgt := 108) hx hb dX1_segment_88 (by decide) (fun c_88 => ?_) (fun c_88 => ?_)
                    · obtain ⟨q, hq, hN, hT, hE⟩ := key.mp ⟨c_59, Int32.not_le.mp c_71, fun z => z c_81, Or.inl c_88⟩
                      have huq : u9 ≤ q := by
                        apply Nat.le_of_not_lt
                        intro z
                        rw [h3.2.1 q z] at hT
                        cases hT
                      have ed9 : n + x9 - nx9 = nI (q - u9) := by rw [hN, h6]; exact nI_diff huq
                      have hs1 : (a_sg bs he e9 n v (j + 1) S) = (updB (a_sg bs he e9 n v j S).1 q, upd (a_sg bs he e9 n v j S).2 q (a_by v j)) := by rw [hsj]; exact a_tk_t hq hN hT hE
                      refine lv_aload_n hx hb dX1_segment_108 rfl (lv_at hl 3 rfl) ?_
                      refine va_get (D := (dC, dI)) (ci := 1) (v := .ref q3) (C := RX1) (T := TX1) (N := 8) hx hb hts hi_1 hown hK hP 0 rfl rfl 2 (by decide) (hts (.fieldLink RX1 16 "SegmentBoxModel" "isHeld" "[Z") (by decide +kernel)) (fun _ h9 => h9) rfl dX1_segment_109 ?_
                      refine lv_iload hx hb dX1_segment_112 (lv_at hl 0 rfl) ?_
                      refine lv_iconst (v := 1) hx hb dX1_segment_114 (by decide) ?_
                      refine va_zast hx hb hK hP hD hS 3 2 rfl rfl (inb_of ed9 (by omega)) dX1_segment_115 (fun H locs hP hD hS => ?_)
                      have hP : va_P (dC, dI) vwCl [(a1, .inr (1, [.ref q1, .ref q2, .ref q3, .int nx9, .int mn9, .int ed, .int 0, .int he])), (q1, .inl (cU, 64, .inl g1)), (q2, .inl (cV, 64, .inl g2)), (q3, .inl (cZ, 64, .inl (upd g3 ((n + x9) - nx9).toNatClampNeg (vp_nar .boolean 1))))] H := hP
                      have hD : va_D A [(a1, .inr (1, [.ref q1, .ref q2, .ref q3, .int nx9, .int mn9, .int ed, .int 0, .int he])), (q1, .inl (cU, 64, .inl g1)), (q2, .inl (cV, 64, .inl g2)), (q3, .inl (cZ, 64, .inl (upd g3 ((n + x9) - nx9).toNatClampNeg (vp_nar .boolean 1))))] := hD
                      refine lv_aload_n hx hb dX1_segment_116 rfl (lv_at hl 3 rfl) ?_
                      refine va_get (D := (dC, dI)) (ci := 1) (v := .ref q2) (C := RX1) (T := TX1) (N := 8) hx hb hts hi_1 hown hK hP 0 rfl rfl 1 (by decide) (hts (.fieldLink RX1 13 "SegmentBoxModel" "byteAt" "[I") (by decide +kernel)) (fun _ h9 => h9) rfl dX1_segment_117 ?_
                      refine lv_iload hx hb dX1_segment_120 (lv_at hl 0 rfl) ?_
                      refine lv_lload_n hx hb dX1_segment_122 rfl (lv_at hl 5 rfl) ?_
                      refine lv_bipush (v := 8) hx hb dX1_segment_123 (by decide) ?_
                      refine lv_iload hx hb dX1_segment_125 (lv_at hl 1 rfl) ?_
                      refine lv_imul hx hb dX1_segment_127 ?_
                      refine lv_lshr (v := v >>> ((8 * x9).toInt64 &&& 63)) hx hb dX1_segment_128 rfl ?_
                      refine lv_l2i (v := (v >>> ((8 * x9).toInt64 &&& 63)).toInt32) hx hb dX1_segment_129 rfl ?_
                      refine lv_sipush (v := 255) hx hb dX1_segment_130 (by decide) ?_
                      refine lv_iand hx hb dX1_segment_133 ?_
                      refine va_iast hx hb hK hP hD hS 2 1 rfl rfl (inb_of ed9 (by omega)) dX1_segment_134 (fun H locs hP hD hS => ?_)
                      have hP : va_P (dC, dI) vwCl [(a1, .inr (1, [.ref q1, .ref q2, .ref q3, .int nx9, .int mn9, .int ed, .int 0, .int he])), (q1, .inl (cU, 64, .inl g1)), (q2, .inl (cV, 64, .inl (upd g2 ((n + x9) - nx9).toNatClampNeg (((v >>> ((8 * x9).toInt64 &&& 63)).toInt32) &&& 255)))), (q3, .inl (cZ, 64, .inl (upd g3 ((n + x9) - nx9).toNatClampNeg (vp_nar .boolean 1))))] H := hP
                      have hD : va_D A [(a1, .inr (1, [.ref q1, .ref q2, .ref q3, .int nx9, .int mn9, .int ed, .int 0, .int he])), (q1, .inl (cU, 64, .inl g1)), (q2, .inl (cV, 64, .inl (upd g2 ((n + x9) - nx9).toNatClampNeg (((v >>> ((8 * x9).toInt64 &&& 63)).toInt32) &&& 255)))), (q3, .inl (cZ, 64, .inl (upd g3 ((n + x9) - nx9).toNatClampNeg (vp_nar .boolean 1))))] := hD
                      have hM0 : MRa u9 (a_sg bs he e9 n v (j + 1) S) g1 (upd g2 ((n + x9) - nx9).toNatClampNeg (((v >>> ((8 * x9).toInt64 &&& 63)).toInt32) &&& 255)) (upd g3 ((n + x9) - nx9).toNatClampNeg (vp_nar .boolean 1)) := by
                        rw [hs1, cl_of ed9 (by omega)]
                        have w := MR_put (u := u9) (k := q - u9) (w := a_by v j) h5
                        rw [show u9 + (q - u9) = q by omega] at w
                        have e1 : (v >>> ((8 * x9).toInt64 &&& 63)).toInt32 &&& 255 = a_by v j := by rw [h1]; rfl
                        rw [e1]
                        exact w
                      have hI0 : IV u9 e9 he (a_sg bs he e9 n v (j + 1) S).1 := by rw [hs1]; exact IV_put h3 hq hE
                      have inner : ∀ (f u8 : Nat) (n8 m8 : Int32) (k1 k2 k3 : Nat → Int32), 64 ≤ u8 + f → u ≤ u8 → IV u8 e9 he (a_sg bs he e9 n v (j + 1) S).1 → MRa u8 (a_sg bs he e9 n v (j + 1) S) k1 k2 k3 → n8 = bs + nI u8 → m8 = nI u8 → ∀ (H : Heap) (locs : List Loc) (ls : Array Slot), va_P (dC, dI) vwCl [(a1, .inr (1, [.ref q1, .ref q2, .ref q3, .int n8, .int m8, .int ed, .int 0, .int he])), (q1, .inl (cU, 64, .inl k1)), (q2, .inl (cV, 64, .inl k2)), (q3, .inl (cZ, 64, .inl k3))] H → va_D A [(a1, .inr (1, [.ref q1, .ref q2, .ref q3, .int n8, .int m8, .int ed, .int 0, .int he])), (q1, .inl (cU, 64, .inl k1)), (q2, .inl (cV, 64, .inl k2)), (q3, .inl (cZ, 64, .inl k3))] → va_S A s.heap H locs → lv_has ls 8 [(7, .int (n + x9 - nx9)), (6, .int x9), (5, .int mn), (0, .ref a1), (1, .int n), (2, .long v), (4, .int k)] → W p l e (headSpec wsX1_segment ({ frames := 1, cells := 0, slots := 0, locals := 21 })).room s m ([.ref a1, .int n, .long v, .int k] : List Value).toArray below meth c H locs 0 0 (MQ below (va_Qi (fun (r : Int32) (u0 : Int32 × Int32 × Int32 × (Nat → Int32) × (Nat → Int32) × (Nat → Int32)) => match u0 with | (nx', mn', th', fU', fB', fH') => ((k < 0 ∨ 8 < k) ∧ th' = 1 ∧ nx' = nx ∧ mn' = mn ∧ fU' = fU ∧ fB' = fB ∧ fH' = fH) ∨ ∃ i u' : Nat, i ≤ 8 ∧ k = nI i ∧ th' = 0 ∧ u ≤ u' ∧ r = nI u' - nI u ∧ nx' = bs + nI u' ∧ mn' = nI u' ∧ IV u' e9 he (a_sg bs he e9 n v i S).1 ∧ (a_sg bs he e9 n v i S).1 u' = false ∧ MRa u' (a_sg bs he e9 n v i S) fU' fB' fH') (fun (u0 : Int32 × Int32 × Int32 × (Nat → Int32) × (Nat → Int32) × (Nat → Int32)) (t : State) => match u0 with | (nx', mn', th', fU', fB', fH') => va_P (dC, dI) vwCl [(a1, .inr (1, [.ref q1, .ref q2, .ref q3, .int nx', .int mn', .int ed, .int th', .int he])), (q1, .inl (cU, 64, .inl fU')), (q2, .inl (cV, 64, .inl fB')), (q3, .inl (cZ, 64, .inl fH'))] t.heap ∧ va_K (dC, dI) vwCl [(cU, .int), (cV, .int), (cZ, .boolean)] t ∧ va_D A [(a1, .inr (1, [.ref q1, .ref q2, .ref q3, .int nx', .int mn', .int ed, .int th', .int he])), (q1, .inl (cU, 64, .inl fU')), (q2, .inl (cV, 64, .inl fB')), (q3, .inl (cZ, 64, .inl fH'))]) A) ([.ref a1, .int n, .long v, .int k] : List Value).toArray s 0 0 A) (F0 m 135 ls []) := by
                        intro f
                        induction f with
                        | zero =>
                          intro u8 n8 m8 k1 k2 k3 p1 p2 p3 p4 p5 p6 H locs ls hP hD hS hl
                          have p7 : (¬ k3 (0 : Int32).toNatClampNeg = 0) ↔ (a_sg bs he e9 n v (j + 1) S).1 u8 = true := MR_nz (k := 0) p4 (by decide)
                          refine lv_aload_n hx hb dX1_segment_135 rfl (lv_at hl 3 rfl) ?_
                          refine va_get (D := (dC, dI)) (ci := 1) (v := .ref q3) (C := RX1) (T := TX1) (N := 8) hx hb hts hi_1 hown hK hP 0 rfl rfl 2 (by decide) (hts (.fieldLink RX1 16 "SegmentBoxModel" "isHeld" "[Z") (by decide +kernel)) (fun _ h9 => h9) rfl dX1_segment_136 ?_
                          refine lv_iconst (v := 0) hx hb dX1_segment_139 (by decide) ?_
                          refine va_zald hx hb hK hP 3 2 rfl rfl inb_0 dX1_segment_140 ?_
                          refine lv_if_eq (tgt := 151) hx hb dX1_segment_141 (by decide) (fun c_141 => ?_) (fun c_141 => ?_)
                          · obtain ⟨x_4, ex_4⟩ : ∃ y : Int32, y = x9 + 1 := ⟨_, rfl⟩
                            refine lv_iinc (v := x_4) (lv' := [(6, .int x_4), (7, .int (n + x9 - nx9)), (5, .int mn), (0, .ref a1), (1, .int n), (2, .long v), (4, .int k)]) hx hb dX1_segment_151 hl (k := 1) rfl (by rw [ex_4]; rfl) (by decide) rfl (fun ls hl => ?_)
                            refine lv_goto (tgt := 39) hx hb dX1_segment_154 (by decide) ?_
                            exact ih (j + 1) x_4 u8 n8 m8 k1 k2 k3 (by omega) (by rw [ex_4, h1, nI_succ]) p2 p3 (by
                              cases w : (a_sg bs he e9 n v (j + 1) S).1 u8 with
                              | false => rfl
                              | true => exact absurd c_141 (p7.mpr w)) p4 p5 p6 H locs ls hP hD hS (lv_sub hl [0, 2, 3, 4, 5, 6] rfl)
                          · exact absurd (p7.mp c_141) (by rw [p3.2.2.1 u8 (by omega)]; decide)
                        | succ f ih2 =>
                          intro u8 n8 m8 k1 k2 k3 p1 p2 p3 p4 p5 p6 H locs ls hP hD hS hl
                          have p7 : (¬ k3 (0 : Int32).toNatClampNeg = 0) ↔ (a_sg bs he e9 n v (j + 1) S).1 u8 = true := MR_nz (k := 0) p4 (by decide)
                          refine lv_aload_n hx hb dX1_segment_135 rfl (lv_at hl 3 rfl) ?_
                          refine va_get (D := (dC, dI)) (ci := 1) (v := .ref q3) (C := RX1) (T := TX1) (N := 8) hx hb hts hi_1 hown hK hP 0 rfl rfl 2 (by decide) (hts (.fieldLink RX1 16 "SegmentBoxModel" "isHeld" "[Z") (by decide +kernel)) (fun _ h9 => h9) rfl dX1_segment_136 ?_
                          refine lv_iconst (v := 0) hx hb dX1_segment_139 (by decide) ?_
                          refine va_zald hx hb hK hP 3 2 rfl rfl inb_0 dX1_segment_140 ?_
                          refine lv_if_eq (tgt := 151) hx hb dX1_segment_141 (by decide) (fun c_141 => ?_) (fun c_141 => ?_)
                          · obtain ⟨x_5, ex_5⟩ : ∃ y : Int32, y = x9 + 1 := ⟨_, rfl⟩
                            refine lv_iinc (v := x_5) (lv' := [(6, .int x_5), (7, .int (n + x9 - nx9)), (5, .int mn), (0, .ref a1), (1, .int n), (2, .long v), (4, .int k)]) hx hb dX1_segment_151 hl (k := 1) rfl (by rw [ex_5]; rfl) (by decide) rfl (fun ls hl => ?_)
                            refine lv_goto (tgt := 39) hx hb dX1_segment_154 (by decide) ?_
                            exact ih (j + 1) x_5 u8 n8 m8 k1 k2 k3 (by omega) (by rw [ex_5, h1, nI_succ]) p2 p3 (by
                              cases w : (a_sg bs he e9 n v (j + 1) S).1 u8 with
                              | false => rfl
                              | true => exact absurd c_141 (p7.mpr w)) p4 p5 p6 H locs ls hP hD hS (lv_sub hl [0, 2, 3, 4, 5, 6] rfl)
                          · refine lv_aload_n hx hb dX1_segment_144 rfl (lv_at hl 3 rfl) ?_
                            have hT8 := p7.mp c_141
                            obtain ⟨hu8, p8⟩ := IV_up p3 hT8
                            have hPc := hP.sub (ws' := [(a1, .inr (1, [.ref q1, .ref q2, .ref q3, .int n8, .int m8, .int ed, .int 0, .int he])), (q1, .inl (cU, 64, .inl k1)), (q2, .inl (cV, 64, .inl k2)), (q3, .inl (cZ, 64, .inl k3))]) [0, 1, 2, 3] rfl
                            have hDc := hD.sub (ws' := [(a1, .inr (1, [.ref q1, .ref q2, .ref q3, .int n8, .int m8, .int ed, .int 0, .int he])), (q1, .inl (cU, 64, .inl k1)), (q2, .inl (cV, 64, .inl k2)), (q3, .inl (cZ, 64, .inl k3))]) [0, 1, 2, 3] (by decide) rfl
                            have hKc := hK.sub (tys' := [(cU, .int), (cV, .int), (cZ, .boolean)]) [0, 1, 2] rfl
                            have hFc := va_free (wc := [(a1, .inr (1, [.ref q1, .ref q2, .ref q3, .int n8, .int m8, .int ed, .int 0, .int he])), (q1, .inl (cU, 64, .inl k1)), (q2, .inl (cV, 64, .inl k2)), (q3, .inl (cZ, 64, .inl k3))]) hD hS hA [0, 1, 2, 3] rfl
                            refine va_callv (va_runV (As := []) (rest := []) ⟨hx, hb, hml, hown, hts⟩ (m_up l dC dI a1 q1 q2 q3 cU cV cZ n8 m8 ed 0 he k1 k2 k3 u8 H.size p6 hu8 (MR_01 p4)) (cwV 0 hts gX1_segment_X1_up rfl rfl rfl (by decide +kernel) ⟨Nat.le_of_ble_eq_true rfl, Nat.le_of_ble_eq_true rfl⟩) ⟨fun a U g mk q => by obtain ⟨q0, q1, qP, qK, qD⟩ := q; exact ⟨q0, q1, qP, va_K.moved (u := U) (U := U.calling g mk a) (Vm.Alike.refl U.vm) qK, qD⟩, va_recv hKc hPc (ci := 1) (q0 := 0) rfl rfl, fun U hU hW => ⟨rfl, by rw [hU], by rw [hU]; exact hPc, va_K.moved hW.alike hKc, hDc.weaken (fun _ _ _ _ => trivial)⟩⟩ rfl rfl hl.1 rfl (lv_room (Nat.le_of_ble_eq_true rfl)) dX1_segment_145 ⟨(Nat.zero_le _), (Nat.zero_le _)⟩) hS (fun q _ h => hFc q h) hFc (fun u t H1 locs ht hvm hw_7 hB hz1 hk1 hS => ?_)
                            obtain ⟨n7, m7, j1, j2, j3⟩ := u
                            obtain ⟨hP1, hK1, hD1⟩ := hB
                            rw [ht] at hP1
                            have hK1 := va_K.moved hvm.symm hK1
                            try dsimp only at hw_7
                            obtain ⟨hP, hD⟩ := va_join (wr := []) (w1 := [(a1, .inr (1, [.ref q1, .ref q2, .ref q3, .int n7, .int m7, .int ed, .int 0, .int he])), (q1, .inl (cU, 64, .inl j1)), (q2, .inl (cV, 64, .inl j2)), (q3, .inl (cZ, 64, .inl j3))]) hP hD [0, 1, 2, 3] [] rfl rfl (by decide) (by decide) hk1 hFc hP1 hD1
                            generalize H1 = H at hP hS ⊢
                            have hP : va_P (dC, dI) vwCl [(a1, .inr (1, [.ref q1, .ref q2, .ref q3, .int n7, .int m7, .int ed, .int 0, .int he])), (q1, .inl (cU, 64, .inl j1)), (q2, .inl (cV, 64, .inl j2)), (q3, .inl (cZ, 64, .inl j3))] H := hP
                            have hD : va_D A [(a1, .inr (1, [.ref q1, .ref q2, .ref q3, .int n7, .int m7, .int ed, .int 0, .int he])), (q1, .inl (cU, 64, .inl j1)), (q2, .inl (cV, 64, .inl j2)), (q3, .inl (cZ, 64, .inl j3))] := hD
                            obtain ⟨w1, w2, w3, w4, w5, w6⟩ := hw_7
                            refine lv_goto (tgt := 135) hx hb dX1_segment_148 (by decide) ?_
                            exact ih2 (u8 + 1) n7 m7 j1 j2 j3 (by omega) (by omega) p8 (by rw [w3]; exact MR_up p4 hT8 p3.2.2.1 w4 w5 w6) (by rw [w1, p5, nI_succ, Int32.add_assoc]) w2 H locs ls hP hD hS (lv_sub hl [0, 1, 2, 3, 4, 5, 6] rfl)
                      exact inner 64 u9 nx9 mn9 g1 _ _ (by omega) h2 hI0 hM0 h6 h7 H _ ls hP hD hS (lv_sub hl [0, 1, 2, 3, 4, 5, 6] rfl)
                    · refine lv_iload hx hb dX1_segment_91 (lv_at hl 0 rfl) ?_
                      refine lv_aload_n hx hb dX1_segment_93 rfl (lv_at hl 3 rfl) ?_
                      refine va_get (D := (dC, dI)) (ci := 1) (v := .int ed) (C := RX1) (T := TX1) (N := 8) hx hb hts hi_1 hown hK hP 0 rfl rfl 5 (by decide) (hts (.fieldLink RX1 34 "SegmentBoxModel" "end" "I") (by decide +kernel)) (fun _ h9 => h9) rfl dX1_segment_94 ?_
                      refine lv_aload_n hx hb dX1_segment_97 rfl (lv_at hl 3 rfl) ?_
                      refine va_get (D := (dC, dI)) (ci := 1) (v := .int nx9) (C := RX1) (T := TX1) (N := 8) hx hb hts hi_1 hown hK hP 0 rfl rfl 3 (by decide) (hts (.fieldLink RX1 24 "SegmentBoxModel" "next" "I") (by decide +kernel)) (fun _ h9 => h9) rfl dX1_segment_98 ?_
                      refine lv_isub hx hb dX1_segment_101 ?_
                      refine lv_icmp_lt (tgt := 108) hx hb dX1_segment_102 (by decide) (fun c_102 => ?_) (fun c_102 => ?_)
                      · obtain ⟨q, hq, hN, hT, hE⟩ := key.mp ⟨c_59, Int32.not_le.mp c_71, fun z => z c_81, Or.inr c_102⟩
                        have huq : u9 ≤ q := by
                          apply Nat.le_of_not_lt
                          intro z
                          rw [h3.2.1 q z] at hT
                          cases hT
                        have ed9 : n + x9 - nx9 = nI (q - u9) := by rw [hN, h6]; exact nI_diff huq
                        have hs1 : (a_sg bs he e9 n v (j + 1) S) = (updB (a_sg bs he e9 n v j S).1 q, upd (a_sg bs he e9 n v j S).2 q (a_by v j)) := by rw [hsj]; exact a_tk_t hq hN hT hE
                        refine lv_aload_n hx hb dX1_segment_108 rfl (lv_at hl 3 rfl) ?_
                        refine va_get (D := (dC, dI)) (ci := 1) (v := .ref q3) (C := RX1) (T := TX1) (N := 8) hx hb hts hi_1 hown hK hP 0 rfl rfl 2 (by decide) (hts (.fieldLink RX1 16 "SegmentBoxModel" "isHeld" "[Z") (by decide +kernel)) (fun _ h9 => h9) rfl dX1_segment_109 ?_
                        refine lv_iload hx hb dX1_segment_112 (lv_at hl 0 rfl) ?_
                        refine lv_iconst (v := 1) hx hb dX1_segment_114 (by decide) ?_
                        refine va_zast hx hb hK hP hD hS 3 2 rfl rfl (inb_of ed9 (by omega)) dX1_segment_115 (fun H locs hP hD hS => ?_)
                        have hP : va_P (dC, dI) vwCl [(a1, .inr (1, [.ref q1, .ref q2, .ref q3, .int nx9, .int mn9, .int ed, .int 0, .int he])), (q1, .inl (cU, 64, .inl g1)), (q2, .inl (cV, 64, .inl g2)), (q3, .inl (cZ, 64, .inl (upd g3 ((n + x9) - nx9).toNatClampNeg (vp_nar .boolean 1))))] H := hP
                        have hD : va_D A [(a1, .inr (1, [.ref q1, .ref q2, .ref q3, .int nx9, .int mn9, .int ed, .int 0, .int he])), (q1, .inl (cU, 64, .inl g1)), (q2, .inl (cV, 64, .inl g2)), (q3, .inl (cZ, 64, .inl (upd g3 ((n + x9) - nx9).toNatClampNeg (vp_nar .boolean 1))))] := hD
                        refine lv_aload_n hx hb dX1_segment_116 rfl (lv_at hl 3 rfl) ?_
                        refine va_get (D := (dC, dI)) (ci := 1) (v := .ref q2) (C := RX1) (T := TX1) (N := 8) hx hb hts hi_1 hown hK hP 0 rfl rfl 1 (by decide) (hts (.fieldLink RX1 13 "SegmentBoxModel" "byteAt" "[I") (by decide +kernel)) (fun _ h9 => h9) rfl dX1_segment_117 ?_
                        refine lv_iload hx hb dX1_segment_120 (lv_at hl 0 rfl) ?_
                        refine lv_lload_n hx hb dX1_segment_122 rfl (lv_at hl 5 rfl) ?_
                        refine lv_bipush (v := 8) hx hb dX1_segment_123 (by decide) ?_
                        refine lv_iload hx hb dX1_segment_125 (lv_at hl 1 rfl) ?_
                        refine lv_imul hx hb dX1_segment_127 ?_
                        refine lv_lshr (v := v >>> ((8 * x9).toInt64 &&& 63)) hx hb dX1_segment_128 rfl ?_
                        refine lv_l2i (v := (v >>> ((8 * x9).toInt64 &&& 63)).toInt32) hx hb dX1_segment_129 rfl ?_
                        refine lv_sipush (v := 255) hx hb dX1_segment_130 (by decide) ?_
                        refine lv_iand hx hb dX1_segment_133 ?_
                        refine va_iast hx hb hK hP hD hS 2 1 rfl rfl (inb_of ed9 (by omega)) dX1_segment_134 (fun H locs hP hD hS => ?_)
                        have hP : va_P (dC, dI) vwCl [(a1, .inr (1, [.ref q1, .ref q2, .ref q3, .int nx9, .int mn9, .int ed, .int 0, .int he])), (q1, .inl (cU, 64, .inl g1)), (q2, .inl (cV, 64, .inl (upd g2 ((n + x9) - nx9).toNatClampNeg (((v >>> ((8 * x9).toInt64 &&& 63)).toInt32) &&& 255)))), (q3, .inl (cZ, 64, .inl (upd g3 ((n + x9) - nx9).toNatClampNeg (vp_nar .boolean 1))))] H := hP
                        have hD : va_D A [(a1, .inr (1, [.ref q1, .ref q2, .ref q3, .int nx9, .int mn9, .int ed, .int 0, .int he])), (q1, .inl (cU, 64, .inl g1)), (q2, .inl (cV, 64, .inl (upd g2 ((n + x9) - nx9).toNatClampNeg (((v >>> ((8 * x9).toInt64 &&& 63)).toInt32) &&& 255)))), (q3, .inl (cZ, 64, .inl (upd g3 ((n + x9) - nx9).toNatClampNeg (vp_nar .boolean 1))))] := hD
                        have hM0 : MRa u9 (a_sg bs he e9 n v (j + 1) S) g1 (upd g2 ((n + x9) - nx9).toNatClampNeg (((v >>> ((8 * x9).toInt64 &&& 63)).toInt32) &&& 255)) (upd g3 ((n + x9) - nx9).toNatClampNeg (vp_nar .boolean 1)) := by
                          rw [hs1, cl_of ed9 (by omega)]
                          have w := MR_put (u := u9) (k := q - u9) (w := a_by v j) h5
                          rw [show u9 + (q - u9) = q by omega] at w
                          have e1 : (v >>> ((8 * x9).toInt64 &&& 63)).toInt32 &&& 255 = a_by v j := by rw [h1]; rfl
                          rw [e1]
                          exact w
                        have hI0 : IV u9 e9 he (a_sg bs he e9 n v (j + 1) S).1 := by rw [hs1]; exact IV_put h3 hq hE
                        have inner : ∀ (f u8 : Nat) (n8 m8 : Int32) (k1 k2 k3 : Nat → Int32), 64 ≤ u8 + f → u ≤ u8 → IV u8 e9 he (a_sg bs he e9 n v (j + 1) S).1 → MRa u8 (a_sg bs he e9 n v (j + 1) S) k1 k2 k3 → n8 = bs + nI u8 → m8 = nI u8 → ∀ (H : Heap) (locs : List Loc) (ls : Array Slot), va_P (dC, dI) vwCl [(a1, .inr (1, [.ref q1, .ref q2, .ref q3, .int n8, .int m8, .int ed, .int 0, .int he])), (q1, .inl (cU, 64, .inl k1)), (q2, .inl (cV, 64, .inl k2)), (q3, .inl (cZ, 64, .inl k3))] H → va_D A [(a1, .inr (1, [.ref q1, .ref q2, .ref q3, .int n8, .int m8, .int ed, .int 0, .int he])), (q1, .inl (cU, 64, .inl k1)), (q2, .inl (cV, 64, .inl k2)), (q3, .inl (cZ, 64, .inl k3))] → va_S A s.heap H locs → lv_has ls 8 [(7, .int (n + x9 - nx9)), (6, .int x9), (5, .int mn), (0, .ref a1), (1, .int n), (2, .long v), (4, .int k)] → W p l e (headSpec wsX1_segment ({ frames := 1, cells := 0, slots := 0, locals := 21 })).room s m ([.ref a1, .int n, .long v, .int k] : List Value).toArray below meth c H locs 0 0 (MQ below (va_Qi (fun (r : Int32) (u0 : Int32 × Int32 × Int32 × (Nat → Int32) × (Nat → Int32) × (Nat → Int32)) => match u0 with | (nx', mn', th', fU', fB', fH') => ((k < 0 ∨ 8 < k) ∧ th' = 1 ∧ nx' = nx ∧ mn' = mn ∧ fU' = fU ∧ fB' = fB ∧ fH' = fH) ∨ ∃ i u' : Nat, i ≤ 8 ∧ k = nI i ∧ th' = 0 ∧ u ≤ u' ∧ r = nI u' - nI u ∧ nx' = bs + nI u' ∧ mn' = nI u' ∧ IV u' e9 he (a_sg bs he e9 n v i S).1 ∧ (a_sg bs he e9 n v i S).1 u' = false ∧ MRa u' (a_sg bs he e9 n v i S) fU' fB' fH') (fun (u0 : Int32 × Int32 × Int32 × (Nat → Int32) × (Nat → Int32) × (Nat → Int32)) (t : State) => match u0 with | (nx', mn', th', fU', fB', fH') => va_P (dC, dI) vwCl [(a1, .inr (1, [.ref q1, .ref q2, .ref q3, .int nx', .int mn', .int ed, .int th', .int he])), (q1, .inl (cU, 64, .inl fU')), (q2, .inl (cV, 64, .inl fB')), (q3, .inl (cZ, 64, .inl fH'))] t.heap ∧ va_K (dC, dI) vwCl [(cU, .int), (cV, .int), (cZ, .boolean)] t ∧ va_D A [(a1, .inr (1, [.ref q1, .ref q2, .ref q3, .int nx', .int mn', .int ed, .int th', .int he])), (q1, .inl (cU, 64, .inl fU')), (q2, .inl (cV, 64, .inl fB')), (q3, .inl (cZ, 64, .inl fH'))]) A) ([.ref a1, .int n, .long v, .int k] : List Value).toArray s 0 0 A) (F0 m 135 ls []) := by
                          intro f
                          induction f with
                          | zero =>
                            intro u8 n8 m8 k1 k2 k3 p1 p2 p3 p4 p5 p6 H locs ls hP hD hS hl
                            have p7 : (¬ k3 (0 : Int32).toNatClampNeg = 0) ↔ (a_sg bs he e9 n v (j + 1) S).1 u8 = true := MR_nz (k := 0) p4 (by decide)
                            refine lv_aload_n hx hb dX1_segment_135 rfl (lv_at hl 3 rfl) ?_
                            refine va_get (D := (dC, dI)) (ci := 1) (v := .ref q3) (C := RX1) (T := TX1) (N := 8) hx hb hts hi_1 hown hK hP 0 rfl rfl 2 (by decide) (hts (.fieldLink RX1 16 "SegmentBoxModel" "isHeld" "[Z") (by decide +kernel)) (fun _ h9 => h9) rfl dX1_segment_136 ?_
                            refine lv_iconst (v := 0) hx hb dX1_segment_139 (by decide) ?_
                            refine va_zald hx hb hK hP 3 2 rfl rfl inb_0 dX1_segment_140 ?_
                            refine lv_if_eq (tgt := 151) hx hb dX1_segment_141 (by decide) (fun c_141 => ?_) (fun c_141 => ?_)
                            · obtain ⟨x_8, ex_8⟩ : ∃ y : Int32, y = x9 + 1 := ⟨_, rfl⟩
                              refine lv_iinc (v := x_8) (lv' := [(6, .int x_8), (7, .int (n + x9 - nx9)), (5, .int mn), (0, .ref a1), (1, .int n), (2, .long v), (4, .int k)]) hx hb dX1_segment_151 hl (k := 1) rfl (by rw [ex_8]; rfl) (by decide) rfl (fun ls hl => ?_)
                              refine lv_goto (tgt := 39) hx hb dX1_segment_154 (by decide) ?_
                              exact ih (j + 1) x_8 u8 n8 m8 k1 k2 k3 (by omega) (by rw [ex_8, h1, nI_succ]) p2 p3 (by
                                cases w : (a_sg bs he e9 n v (j + 1) S).1 u8 with
                                | false => rfl
                                | true => exact absurd c_141 (p7.mpr w)) p4 p5 p6 H locs ls hP hD hS (lv_sub hl [0, 2, 3, 4, 5, 6] rfl)
                            · exact absurd (p7.mp c_141) (by rw [p3.2.2.1 u8 (by omega)]; decide)
                          | succ f ih2 =>
                            intro u8 n8 m8 k1 k2 k3 p1 p2 p3 p4 p5 p6 H locs ls hP hD hS hl
                            have p7 : (¬ k3 (0 : Int32).toNatClampNeg = 0) ↔ (a_sg bs he e9 n v (j + 1) S).1 u8 = true := MR_nz (k := 0) p4 (by decide)
                            refine lv_aload_n hx hb dX1_segment_135 rfl (lv_at hl 3 rfl) ?_
                            refine va_get (D := (dC, dI)) (ci := 1) (v := .ref q3) (C := RX1) (T := TX1) (N := 8) hx hb hts hi_1 hown hK hP 0 rfl rfl 2 (by decide) (hts (.fieldLink RX1 16 "SegmentBoxModel" "isHeld" "[Z") (by decide +kernel)) (fun _ h9 => h9) rfl dX1_segment_136 ?_
                            refine lv_iconst (v := 0) hx hb dX1_segment_139 (by decide) ?_
                            refine va_zald hx hb hK hP 3 2 rfl rfl inb_0 dX1_segment_140 ?_
                            refine lv_if_eq (tgt := 151) hx hb dX1_segment_141 (by decide) (fun c_141 => ?_) (fun c_141 => ?_)
                            · obtain ⟨x_9, ex_9⟩ : ∃ y : Int32, y = x9 + 1 := ⟨_, rfl⟩
                              refine lv_iinc (v := x_9) (lv' := [(6, .int x_9), (7, .int (n + x9 - nx9)), (5, .int mn), (0, .ref a1), (1, .int n), (2, .long v), (4, .int k)]) hx hb dX1_segment_151 hl (k := 1) rfl (by rw [ex_9]; rfl) (by decide) rfl (fun ls hl => ?_)
                              refine lv_goto (tgt := 39) hx hb dX1_segment_154 (by decide) ?_
                              exact ih (j + 1) x_9 u8 n8 m8 k1 k2 k3 (by omega) (by rw [ex_9, h1, nI_succ]) p2 p3 (by
                                cases w : (a_sg bs he e9 n v (j + 1) S).1 u8 with
                                | false => rfl
                                | true => exact absurd c_141 (p7.mpr w)) p4 p5 p6 H locs ls hP hD hS (lv_sub hl [0, 2, 3, 4, 5, 6] rfl)
                            · refine lv_aload_n hx hb dX1_segment_144 rfl (lv_at hl 3 rfl) ?_
                              have hT8 := p7.mp c_141
                              obtain ⟨hu8, p8⟩ := IV_up p3 hT8
                              have hPc := hP.sub (ws' := [(a1, .inr (1, [.ref q1, .ref q2, .ref q3, .int n8, .int m8, .int ed, .int 0, .int he])), (q1, .inl (cU, 64, .inl k1)), (q2, .inl (cV, 64, .inl k2)), (q3, .inl (cZ, 64, .inl k3))]) [0, 1, 2, 3] rfl
                              have hDc := hD.sub (ws' := [(a1, .inr (1, [.ref q1, .ref q2, .ref q3, .int n8, .int m8, .int ed, .int 0, .int he])), (q1, .inl (cU, 64, .inl k1)), (q2, .inl (cV, 64, .inl k2)), (q3, .inl (cZ, 64, .inl k3))]) [0, 1, 2, 3] (by decide) rfl
                              have hKc := hK.sub (tys' := [(cU, .int), (cV, .int), (cZ, .boolean)]) [0, 1, 2] rfl
                              have hFc := va_free (wc := [(a1, .inr (1, [.ref q1, .ref q2, .ref q3, .int n8, .int m8, .int ed, .int 0, .int he])), (q1, .inl (cU, 64, .inl k1)), (q2, .inl (cV, 64, .inl k2)), (q3, .inl (cZ, 64, .inl k3))]) hD hS hA [0, 1, 2, 3] rfl
                              refine va_callv (va_runV (As := []) (rest := []) ⟨hx, hb, hml, hown, hts⟩ (m_up l dC dI a1 q1 q2 q3 cU cV cZ n8 m8 ed 0 he k1 k2 k3 u8 H.size p6 hu8 (MR_01 p4)) (cwV 0 hts gX1_segment_X1_up rfl rfl rfl (by decide +kernel) ⟨Nat.le_of_ble_eq_true rfl, Nat.le_of_ble_eq_true rfl⟩) ⟨fun a U g mk q => by obtain ⟨q0, q1, qP, qK, qD⟩ := q; exact ⟨q0, q1, qP, va_K.moved (u := U) (U := U.calling g mk a) (Vm.Alike.refl U.vm) qK, qD⟩, va_recv hKc hPc (ci := 1) (q0 := 0) rfl rfl, fun U hU hW => ⟨rfl, by rw [hU], by rw [hU]; exact hPc, va_K.moved hW.alike hKc, hDc.weaken (fun _ _ _ _ => trivial)⟩⟩ rfl rfl hl.1 rfl (lv_room (Nat.le_of_ble_eq_true rfl)) dX1_segment_145 ⟨(Nat.zero_le _), (Nat.zero_le _)⟩) hS (fun q _ h => hFc q h) hFc (fun u t H1 locs ht hvm hw_11 hB hz1 hk1 hS => ?_)
                              obtain ⟨n7, m7, j1, j2, j3⟩ := u
                              obtain ⟨hP1, hK1, hD1⟩ := hB
                              rw [ht] at hP1
                              have hK1 := va_K.moved hvm.symm hK1
                              try dsimp only at hw_11
                              obtain ⟨hP, hD⟩ := va_join (wr := []) (w1 := [(a1, .inr (1, [.ref q1, .ref q2, .ref q3, .int n7, .int m7, .int ed, .int 0, .int he])), (q1, .inl (cU, 64, .inl j1)), (q2, .inl (cV, 64, .inl j2)), (q3, .inl (cZ, 64, .inl j3))]) hP hD [0, 1, 2, 3] [] rfl rfl (by decide) (by decide) hk1 hFc hP1 hD1
                              generalize H1 = H at hP hS ⊢
                              have hP : va_P (dC, dI) vwCl [(a1, .inr (1, [.ref q1, .ref q2, .ref q3, .int n7, .int m7, .int ed, .int 0, .int he])), (q1, .inl (cU, 64, .inl j1)), (q2, .inl (cV, 64, .inl j2)), (q3, .inl (cZ, 64, .inl j3))] H := hP
                              have hD : va_D A [(a1, .inr (1, [.ref q1, .ref q2, .ref q3, .int n7, .int m7, .int ed, .int 0, .int he])), (q1, .inl (cU, 64, .inl j1)), (q2, .inl (cV, 64, .inl j2)), (q3, .inl (cZ, 64, .inl j3))] := hD
                              obtain ⟨w1, w2, w3, w4, w5, w6⟩ := hw_11
                              refine lv_goto (tgt := 135) hx hb dX1_segment_148 (by decide) ?_
                              exact ih2 (u8 + 1) n7 m7 j1 j2 j3 (by omega) (by omega) p8 (by rw [w3]; exact MR_up p4 hT8 p3.2.2.1 w4 w5 w6) (by rw [w1, p5, nI_succ, Int32.add_assoc]) w2 H locs ls hP hD hS (lv_sub hl [0, 1, 2, 3, 4, 5, 6] rfl)
                        exact inner 64 u9 nx9 mn9 g1 _ _ (by omega) h2 hI0 hM0 h6 h7 H _ ls hP hD hS (lv_sub hl [0, 1, 2, 3, 4, 5, 6] rfl)
                      · refine lv_goto (tgt := 151) hx hb dX1_segment_105 (by decide) ?_
                        have hsame : (a_sg bs he e9 n v (j + 1) S) = (a_sg bs he e9 n v j S) := by rw [hsj]; exact a_tk_f (fun w => (fun z => z.2.2.2.elim c_88 c_102) (key.mpr w))
                        obtain ⟨x_12, ex_12⟩ : ∃ y : Int32, y = x9 + 1 := ⟨_, rfl⟩
                        refine lv_iinc (v := x_12) (lv' := [(6, .int x_12), (7, .int ((n + x9) - nx9)), (5, .int mn), (0, .ref a1), (1, .int n), (2, .long v), (4, .int k)]) hx hb dX1_segment_151 hl (k := 1) rfl (by rw [ex_12]; rfl) (by decide) rfl (fun ls hl => ?_)
                        refine lv_goto (tgt := 39) hx hb dX1_segment_154 (by decide) ?_
                        exact ih (j + 1) x_12 u9 nx9 mn9 g1 g2 g3 (by omega) (by rw [ex_12, h1, nI_succ]) h2 (by rw [hsame]; exact h3) (by rw [hsame]; exact h4) (by rw [hsame]; exact h5) h6 h7 H locs ls hP hD hS (lv_sub hl [0, 2, 3, 4, 5, 6] rfl)
        refine lv_iconst (v := 0) hx hb dX1_segment_36 (by decide) ?_
        refine lv_istore (lv' := [(6, .int 0), (5, .int mn), (0, .ref a1), (1, .int n), (2, .long v), (4, .int k)]) hx hb dX1_segment_37 hl (by decide) rfl (fun ls hl => ?_)
        exact loop i0 0 0 u nx mn fU fB fH (by omega) nI_0.symm (Nat.le_refl _) hIV hnr hMR hnx hmn H _ ls hP hD hS (lv_sub hl [0, 1, 2, 3, 4, 5] rfl)
      · exact absurd (by decide) c_25
    · refine lv_iconst (v := 1) hx hb dX1_segment_13 (by decide) ?_
      refine lv_goto (tgt := 18) hx hb dX1_segment_14 (by decide) ?_
      refine va_put (D := (dC, dI)) (ci := 1) (v := .int 1) (ty := .int) (C := RX1) (T := TX1) (N := 8) hx hb hts hi_1 tyX1 tyX1_ok nmX1 hown hK hP hD hS 0 rfl rfl 6 (by decide) (hts (.fieldLink RX1 20 "SegmentBoxModel" "thrown" "I") (by decide +kernel)) (fun _ h9 => h9) rfl (by decide +kernel) rfl rfl (Nat.le_of_ble_eq_true rfl) dX1_segment_18 (fun H locs hP hD hS => ?_)
      have hP : va_P (dC, dI) vwCl [(a1, .inr (1, [.ref q1, .ref q2, .ref q3, .int nx, .int mn, .int ed, .int 1, .int he])), (q1, .inl (cU, 64, .inl fU)), (q2, .inl (cV, 64, .inl fB)), (q3, .inl (cZ, 64, .inl fH))] H := hP
      have hD : va_D A [(a1, .inr (1, [.ref q1, .ref q2, .ref q3, .int nx, .int mn, .int ed, .int 1, .int he])), (q1, .inl (cU, 64, .inl fU)), (q2, .inl (cV, 64, .inl fB)), (q3, .inl (cZ, 64, .inl fH))] := hD
      refine lv_aload_n hx hb dX1_segment_21 rfl (lv_at hl 0 rfl) ?_
      refine va_get (D := (dC, dI)) (ci := 1) (v := .int 1) (C := RX1) (T := TX1) (N := 8) hx hb hts hi_1 hown hK hP 0 rfl rfl 6 (by decide) (hts (.fieldLink RX1 20 "SegmentBoxModel" "thrown" "I") (by decide +kernel)) (fun _ h9 => h9) rfl dX1_segment_22 ?_
      refine lv_if_le (tgt := 30) hx hb dX1_segment_25 (by decide) (fun c_25 => ?_) (fun c_25 => ?_)
      · exact absurd c_25 (by decide)
      · refine lv_iconst (v := 0) hx hb dX1_segment_28 (by decide) ?_
        exact W.iret (v := 0) hx hb hr (fun t ht hW => ⟨⟨0, (nx, mn, 1, fU, fB, fH), rfl, Or.inl ⟨Or.inr (Int32.not_le.mp c_10), rfl, rfl, rfl, rfl, rfl, rfl⟩, by rw [ht]; exact hP, va_K.moved hW.alike hK, hD⟩, hS.F ht⟩) hS.2.2 dX1_segment_29
end
section
/-- the class and the reference hold one mathematical value -/
def INV (nx ek en ed : Int32) (kb : Int64) (fb fU fB fH : Nat → Int32) (bs : Int32) (u e9 : Nat) (S : aS) : Prop := nx = bs + nI u ∧ IV u e9 ek S.1 ∧ S.1 u = false ∧ (ek = 0 ∨ ek = 1) ∧ CRs bs u S (kb, fb) ∧ (ek = 0 ∨ (en = bs + nI e9 ∧ ed = bs + nI e9)) ∧ MRa u S fU fB fH
section Glue
variable {nx ek en ed bs : Int32} {kb : Int64} {fb fU fB fH : Nat → Int32} {u e9 : Nat} {S : aS}
theorem inv_en (h : INV nx ek en ed kb fb fU fB fH bs u e9 S) : ek = 0 ∨ en = bs + nI e9 := h.2.2.2.2.2.1.imp id (fun z => z.1)
theorem inv_ed (h : INV nx ek en ed kb fb fU fB fH bs u e9 S) : ek = 0 ∨ ed = bs + nI e9 := h.2.2.2.2.2.1.imp id (fun z => z.2)
theorem inv_bit (h : INV nx ek en ed kb fb fU fB fH bs u e9 S) {k : Nat} (hk : k < 64) : pH fH k = sg_b kb k := by
  obtain ⟨-, -, -, -, h5, -, h7⟩ := h
  have e1 : sg_b kb k = S.1 (u + k) := h5.1 k
  rw [e1]
  cases w : S.1 (u + k) with
  | true => exact pH_t ((MR_nz h7 hk).mpr w)
  | false =>
    refine pH_f ?_
    rw [h7.1 k hk, w]
    rfl
theorem st_congr {p q : Nat → Bool} {n : Nat} (h : ∀ k, k < n → p k = q k) {k : Nat} (hk : k < n) : st p k = st q k := by
  unfold st
  rw [h k hk]
  cases k with
  | zero => rfl
  | succ k => rw [show k + 1 - 1 = k from rfl, h k (by omega)]
theorem inv_st (h : INV nx ek en ed kb fb fU fB fH bs u e9 S) {k : Nat} (hk : k < 64) : sg_b (c_st kb) k = st (pH fH) k := by
  rw [sg_b_st kb hk]
  exact st_congr (n := 64) (fun j hj => (inv_bit h hj).symm) hk
theorem inv_cnt (h : INV nx ek en ed kb fb fU fB fH bs u e9 S) {k : Nat} (hk : k ≤ 64) : sg_c (sg_b (c_st kb)) k = sg_c (st (pH fH)) k := sg_c_congr k (fun j hj => inv_st h (by omega))
theorem g_new {n : Int32} : INV n 0 0 ed 0 fb fU fB fH n 0 0 (fun _ => false, fun _ => 0) ↔ ∀ k, k < 64 → fH k = 0 := by
  constructor
  · intro h k hk
    have := h.2.2.2.2.2.2.1 k hk
    exact this
  · intro h
    refine ⟨by rw [nI_0, Int32.add_zero], ⟨by omega, fun q hq => absurd hq (by omega), fun _ _ => rfl, Or.inl rfl⟩, rfl, Or.inl rfl, ⟨fun k => Nat.zero_testBit k, fun q _ z => (by cases z)⟩, Or.inl rfl, ⟨fun k hk => h k hk, fun k _ z => (by cases z), fun q hq => absurd hq (by omega)⟩⟩
theorem run_uni {T : Nat → Bool} {a b : Nat} (h1 : ∀ q, q < a → T q = true) (h2 : T a = false) (h3 : ∀ q, q < b → T q = true) (h4 : T b = false) : a = b := by
  rcases Nat.lt_trichotomy a b with z | z | z
  · rw [h3 a z] at h2; cases h2
  · exact z
  · rw [h1 b z] at h4; cases h4
theorem g_seg (h : INV nx ek en ed kb fb fU fB fH bs u e9 S) {n : Int32} {v : Int64} {i j u' : Nat} {k9 kb' : Int64} {fb' gU gB gH : Nat → Int32} (hi : i ≤ 8)
    (c1 : (k9, fb') = c_sg nx (nI u) ek en n v i (kb, fb)) (c2 : j ≤ 64) (c3 : ∀ i, i < j → sg_b k9 i = true) (c4 : j < 64 → sg_b k9 j = false) (c5 : uN kb' = uN k9 / 2 ^ j)
    (m1 : IV u' e9 ek (a_sg bs ek e9 n v i S).1) (m2 : (a_sg bs ek e9 n v i S).1 u' = false) (m3 : MRa u' (a_sg bs ek e9 n v i S) gU gB gH) :
    u' = u + j ∧ INV (bs + nI u') ek en ed kb' fb' gU gB gH bs u' e9 (a_sg bs ek e9 n v i S) := by
  obtain ⟨h1, h2, h3, h4, h5, h6, h7⟩ := id h
  have a1 := CR_sg (n := n) (v := v) h2 h5 (inv_en h) i hi
  rw [← h1, ← c1] at a1
  obtain ⟨b1, b2, b3⟩ := CR_mv (IV_sg h2 i) a1 c2 c3 c4 c5
  have eu : u' = u + j := run_uni m1.2.1 m2 b1.2.1 b2
  subst eu
  exact ⟨rfl, rfl, m1, m2, h4, b3, h6, m3⟩
theorem g_eok (h : INV nx ek en ed kb fb fU fB fH bs u e9 S) (n : Int32) : c_eok nx (nI u) ek kb n ↔ m_eok nx (nI u) ek fH n := by
  obtain ⟨h1, h2, h3, h4, h5, h6, h7⟩ := id h
  unfold c_eok m_eok
  have e64 : (64 : Int32) - nI u = nI (64 - u) := pk_sub (a := 64) h2.1
  have key : ¬ (n - nx) < 0 → (n - nx) ≤ 64 - nI u → (¬ c_from kb (n - nx) ↔ ∀ k, k < 64 → (n - nx).toNatClampNeg ≤ k → fH k = 0) := by
    intro a1 a2
    rw [e64] at a2
    obtain ⟨d, hd, ed⟩ := nI_of a1
    rw [ed] at a2 ⊢
    have hd2 := (nI_leI hd (by omega)).mp a2
    rw [nI_clamp hd]
    have hz : ∀ k, k < 64 → (fH k = 0 ↔ sg_b kb k = false) := fun k hk => by
      rw [← inv_bit h hk]
      constructor
      · exact fun z => pH_f z
      · intro z
        apply Classical.byContradiction
        intro y
        rw [pH_t y] at z
        cases z
    by_cases q : d < 64
    · rw [sg_from q]
      constructor
      · intro z k hk hdk
        rw [hz k hk]
        cases w : sg_b kb k with
        | false => rfl
        | true => exact absurd ⟨k, hk, hdk, w⟩ z
      · rintro z ⟨k, hk, hdk, w⟩
        rw [(hz k hk).mp (z k hk hdk)] at w
        cases w
    · constructor
      · intro _ k hk hdk
        omega
      · intro _ z
        have := z.2.1
        rw [show d = 64 by omega] at this
        exact absurd this (by decide)
  constructor
  · rintro ⟨a1, a2, a3, a4⟩
    exact ⟨a1, a2, Int32.not_lt.mp a3, (key a2 (Int32.not_lt.mp a3)).mp a4⟩
  · rintro ⟨a1, a2, a3, a4⟩
    exact ⟨a1, a2, Int32.not_lt.mpr a3, (key a2 a3).mpr a4⟩
theorem g_end (h : INV nx ek en ed kb fb fU fB fH bs u e9 S) {n : Int32} (hm : m_eok nx (nI u) ek fH n) : ∃ e8, INV nx 1 n n kb fb fU fB fH bs u e8 S := by
  obtain ⟨h1, h2, h3, h4, h5, h6, h7⟩ := id h
  obtain ⟨a1, a2, a3, a4⟩ := hm
  have e64 : (64 : Int32) - nI u = nI (64 - u) := pk_sub (a := 64) h2.1
  obtain ⟨d, hd, ed⟩ := nI_of a2
  rw [ed, e64] at a3
  have hd2 := (nI_leI hd (by omega)).mp a3
  have hu := h2.1
  have en' : n = bs + nI (u + d) := by
    rw [← nI_add, ← Int32.add_assoc, ← h1, ← ed, Int32.add_comm, Int32.sub_add_cancel]
  refine ⟨u + d, h1, ⟨h2.1, h2.2.1, h2.2.2.1, Or.inr ⟨by omega, by omega, fun q hq => ?_⟩⟩, h3, Or.inr rfl, h5, Or.inr ⟨en', en'⟩, h7⟩
  by_cases z : q < 64
  · have w := a4 (q - u) (by omega) (by rw [ed, nI_clamp hd]; omega)
    cases y : S.1 q with
    | false => rfl
    | true =>
      exact absurd w ((MR_nz h7 (k := q - u) (by omega)).mpr (by rw [show u + (q - u) = q by omega]; exact y))
  · exact h2.2.2.1 q (by omega)
theorem g_rd (h : INV nx ek en ed kb fb fU fB fH bs (u + 1) e9 S) {gU : Nat → Int32} (hU : ∀ k, k < u → gU k = fU (k + 1)) :
    fb ((nx - nI (u + 1)) &&& 63).toNatClampNeg &&& 255 = fU 0 ∧ INV nx ek en ed kb fb gU fB fH (bs + 1) u (e9 - 1) (fun q => S.1 (q + 1), fun q => S.2 (q + 1)) := by
  obtain ⟨h1, h2, h3, h4, h5, h6, h7⟩ := id h
  have hu := h2.1
  have T0 : S.1 0 = true := h2.2.1 0 (by omega)
  constructor
  · have e1 : nx - nI (u + 1) = bs + nI 0 := by rw [h1, Int32.add_sub_cancel, nI_0, Int32.add_zero]
    rw [e1]
    have w := h5.2 0 (by decide) T0
    exact w.trans (h7.2.2 0 (by omega)).symm
  · refine ⟨by rw [h1, nI_succ, Int32.add_assoc, Int32.add_comm (nI u)], IV_rd h2, h3, h4, CR_rd h5 h2.2.2.1, ?_, MR_rd h7 hU⟩
    rcases h6 with z | ⟨z1, z2⟩
    · exact Or.inl z
    · rcases h2.2.2.2 with w | ⟨w1, w2, -⟩
      · exact Or.inl w
      · have e2 : bs + nI e9 = bs + 1 + nI (e9 - 1) := by
          rw [show nI e9 = nI (e9 - 1 + 1) by rw [show e9 - 1 + 1 = e9 by omega], nI_succ, Int32.add_assoc, Int32.add_comm (nI (e9 - 1))]
        exact Or.inr ⟨by rw [z1, e2], by rw [z2, e2]⟩
theorem g_hd (h : INV nx ek en ed kb fb fU fB fH bs u e9 S) (d : Int32) : c_held kb d ↔ m_hd fH d := by
  by_cases c : ∃ k, k < 64 ∧ d = nI k
  · obtain ⟨k, hk, rfl⟩ := c
    rw [sg_held hk]
    unfold m_hd
    rw [nI_clamp (by omega), ← inv_bit h hk]
    constructor
    · intro z
      exact ⟨nI_pos (by omega), nI_lt hk (by decide), of_decide_eq_true z⟩
    · intro z
      exact pH_t z.2.2
  · constructor
    · intro z
      exact absurd z (sg_held_out c)
    · rintro ⟨z1, z2, -⟩
      exact absurd (lt64 z1 (Int32.not_le.mpr z2)) c
end Glue
theorem nI_ne8 {k : Int32} {i : Nat} (hi : i ≤ 8) (hk : k = nI i) (h : k < 0 ∨ 8 < k) : False := by
  rw [hk] at h
  rcases h with h | h
  · exact nI_pos (by omega) h
  · exact absurd ((nI_ltI (a := 8) (by decide) (by omega)).mp h) (by omega)
theorem lt_ti {n : Int32} : (n < 0 ∨ 5 < n) ↔ (n.toInt < 0 ∨ 5 < n.toInt) := by
  rw [Int32.lt_iff_toInt_lt, Int32.lt_iff_toInt_lt]
  rfl
theorem bI_ne {c d : Prop} [Decidable c] [Decidable d] (h : c ↔ d) : bI c = bI d := bI_iff h
end
section
theorem inb1_0 : vp_in (0 : Int32) 1 := vp_in_nI (n := 0) (by decide) (by decide)
theorem cl_0 : (0 : Int32).toNatClampNeg = 0 := by decide
set_option maxHeartbeats 4000000 in
set_option maxRecDepth 100000 in
theorem h_segment (l : Launch) (hst : l.stackTraces = false) (dC : Nat → ClassId) (dI : Nat → Nat → Nat) (h0 qb : Nat) (cB : ClassId) (kb : Int64) (nx un ek en : Int32) (fb : Nat → Int32) (qo : Nat) (cO : ClassId) (fo : Nat → Int64) (n : Int32) (v : Int64) (k : Int32) (sz : Nat)  : Met l yL_segment wsL_segment ({ frames := 7, cells := 1, slots := 6, locals := 106 }) (va_Pc [.ref h0, .int n, .long v, .int k, .ref qo] (fun U => U.heap.size = sz ∧ va_P (dC, dI) vwCl [(h0, .inr (0, [.ref qb, .long kb, .int nx, .int un, .int ek, .int en])), (qb, .inl (cB, 64, .inl fb)), (qo, .inl (cO, 1, .inr (.inl fo)))] U.heap ∧ va_K (dC, dI) vwCl [(cB, .byte), (cO, .long)] U ∧ va_D (fun _ => True) [(h0, .inr (0, [.ref qb, .long kb, .int nx, .int un, .int ek, .int en])), (qb, .inl (cB, 64, .inl fb)), (qo, .inl (cO, 1, .inr (.inl fo)))] ∧ thr (va_A [(h0, .inr (0, [.ref qb, .long kb, .int nx, .int un, .int ek, .int en])), (qb, .inl (cB, 64, .inl fb)), (qo, .inl (cO, 1, .inr (.inl fo)))] sz) U U.heap)) (va_Qi (fun (r : Int32) (u : Int64 × Int32 × Int32 × (Nat → Int32) × (Nat → Int64)) => match u with | (kb', nx', un', fb', fo') => (r = 1 ∧ (k < 0 ∨ 8 < k) ∧ kb' = kb ∧ nx' = nx ∧ un' = un ∧ fb' = fb) ∨ (r = 0 ∧ ∃ r9 : Int32, fo' 0 = r9.toInt64 ∧ ∃ (i j : Nat) (k9 : Int64), i ≤ 8 ∧ k = nI i ∧ (k9, fb') = c_sg nx un ek en n v i (kb, fb) ∧ j ≤ 64 ∧ (∀ i, i < j → sg_b k9 i = true) ∧ (j < 64 → sg_b k9 j = false) ∧ uN kb' = uN k9 / 2 ^ j ∧ r9 = nI j ∧ nx' = nx + nI j ∧ un' = un + nI j)) (fun (u : Int64 × Int32 × Int32 × (Nat → Int32) × (Nat → Int64)) (t : State) => match u with | (kb', nx', un', fb', fo') => va_P (dC, dI) vwCl [(h0, .inr (0, [.ref qb, .long kb', .int nx', .int un', .int ek, .int en])), (qb, .inl (cB, 64, .inl fb')), (qo, .inl (cO, 1, .inr (.inl fo')))] t.heap ∧ va_K (dC, dI) vwCl [(cB, .byte), (cO, .long)] t ∧ va_D (va_A [(h0, .inr (0, [.ref qb, .long kb, .int nx, .int un, .int ek, .int en])), (qb, .inl (cB, 64, .inl fb)), (qo, .inl (cO, 1, .inr (.inl fo)))] sz) [(h0, .inr (0, [.ref qb, .long kb', .int nx', .int un', .int ek, .int en])), (qb, .inl (cB, 64, .inl fb')), (qo, .inl (cO, 1, .inr (.inl fo')))]) (va_A [(h0, .inr (0, [.ref qb, .long kb, .int nx, .int un, .int ek, .int en])), (qb, .inl (cB, 64, .inl fb)), (qo, .inl (cO, 1, .inr (.inl fo)))] sz)) 1 6 (va_A [(h0, .inr (0, [.ref qb, .long kb, .int nx, .int un, .int ek, .int en])), (qb, .inl (cB, 64, .inl fb)), (qo, .inl (cO, 1, .inr (.inl fo)))] sz) := by
  refine va_MetW (cc := cL_segment) (maxL := 7) (ret := (some .int)) (hh := [(0, 13, 16, 13)]) (by decide) rfl ?_
  intro p e s m args below meth c s₁ B hml hv
  obtain ⟨rfl, hsz, hP, hK, hD0, hZ⟩ := hv
  have hx := B.exec
  have hb := B.bytes
  have hr := B.returns
  have hts := atoms_spec (ws := wsL_segment) B.pre
  have hown : s.vm.findClass RL = some m.cls := findClass_of_methodNamed B.named
  have hlocks := B.notSynchronized
  subst hsz
  have hD := hD0.self (sz := s.heap.size)
  generalize hAe : va_A [(h0, .inr (0, [.ref qb, .long kb, .int nx, .int un, .int ek, .int en])), (qb, .inl (cB, 64, .inl fb)), (qo, .inl (cO, 1, .inr (.inl fo)))] s.heap.size = A at hD hZ ⊢
  have hA : ∀ q : Nat, s.heap.size ≤ q → A q := fun q h => by rw [← hAe]; exact Or.inr h
  have hS : va_S A s.heap s.heap [] := va_S.rf
  have hP : va_P (dC, dI) vwCl [(h0, .inr (0, [.ref qb, .long kb, .int nx, .int un, .int ek, .int en])), (qb, .inl (cB, 64, .inl fb)), (qo, .inl (cO, 1, .inr (.inl fo)))] s.heap := hP
  have hl := lv_entry ([.ref h0, .int n, .long v, .int k, .ref qo]) (n := 7) (Nat.le_of_ble_eq_true rfl)
  rw [lg_entry_eq]
  generalize (lg_sl ([.ref h0, .int n, .long v, .int k, .ref qo]) ++ List.replicate (7 - (lg_sl ([.ref h0, .int n, .long v, .int k, .ref qo])).length) Slot.unset).toArray = ls at hl ⊢
  have hl : lv_has ls 7 [(0, .ref h0), (1, .int n), (2, .long v), (4, .int k), (5, .ref qo)] := hl
  have hi_0 : ∀ w ∈ u_ws RX0 TX0 6, w ∈ wsL_segment := by decide +kernel
  have htab : c.exceptionTable.toList = tableOf [(0, 13, 16, 13)] := vx_table (x := yL_segment) B (hts (.codeWith yL_segment cL_segment 7 (some .int) [(0, 13, 16, 13)]) (by decide +kernel))
  refine lv_aload hx hb dL_segment_0 (lv_at hl 4 rfl) ?_
  refine lv_iconst (v := 0) hx hb dL_segment_2 (by decide) ?_
  refine lv_aload_n hx hb dL_segment_3 rfl (lv_at hl 0 rfl) ?_
  refine lv_iload_n hx hb dL_segment_4 rfl (lv_at hl 1 rfl) ?_
  refine lv_lload_n hx hb dL_segment_5 rfl (lv_at hl 2 rfl) ?_
  refine lv_iload hx hb dL_segment_6 (lv_at hl 3 rfl) ?_
  have hPc := hP.sub (ws' := [(h0, .inr (0, [.ref qb, .long kb, .int nx, .int un, .int ek, .int en])), (qb, .inl (cB, 64, .inl fb))]) [0, 1] rfl
  have hDc := hD.sub (ws' := [(h0, .inr (0, [.ref qb, .long kb, .int nx, .int un, .int ek, .int en])), (qb, .inl (cB, 64, .inl fb))]) [0, 1] (by decide) rfl
  have hKc := hK.sub (tys' := [(cB, .byte)]) [0] rfl
  have hFc := va_free (wc := [(h0, .inr (0, [.ref qb, .long kb, .int nx, .int un, .int ek, .int en])), (qb, .inl (cB, 64, .inl fb))]) hD hS hA [0, 1] rfl
  refine vx_calli (vx_runV (As := [.int n, .long v, .int k]) (rest := [.int 0, .ref qo]) ⟨hx, hb, hml, hown, hts⟩ (c_segment l hst dC dI h0 qb cB kb nx un ek en fb n v k s.heap.size) (cwV 3 hts gL_segment_X0_segment rfl rfl rfl (by decide +kernel) ⟨Nat.le_of_ble_eq_true rfl, Nat.le_of_ble_eq_true rfl⟩) ⟨fun a U g mk q => by obtain ⟨q0, q1, qP, qK, qD, qZ⟩ := q; exact ⟨q0, q1, qP, va_K.moved (u := U) (U := U.calling g mk a) (Vm.Alike.refl U.vm) qK, qD, thr_blind qZ⟩, va_recv hKc hPc (ci := 0) (q0 := 0) rfl rfl, fun U hU hW => ⟨rfl, by rw [hU], by rw [hU]; exact hPc, va_K.moved hW.alike hKc, hDc.weaken (fun _ _ _ _ => trivial), thr_call hZ hS hFc hU hW⟩⟩ rfl rfl hl.1 rfl (lv_room (Nat.le_of_ble_eq_true rfl)) dL_segment_8 ⟨Nat.le_of_ble_eq_true rfl, Nat.le_of_ble_eq_true rfl⟩) hS (fun q _ h => hFc q h) hFc (fun q _ h => hFc q h) (fun E ce q9 u t H1 locs ht hvm hpx hB hz1 hk1 hS hce hcv hcl => ?_) (fun r u t H1 locs ht hvm hw hB hz1 hk1 hS => ?_)
  · obtain ⟨hE, hP1, hK1, hD1⟩ := hB
    subst hE
    rw [ht] at hP1
    obtain ⟨hP, hD⟩ := va_join (wr := [(qo, .inl (cO, 1, .inr (.inl fo)))]) (w1 := [(h0, .inr (0, [.ref qb, .long kb, .int nx, .int un, .int ek, .int en])), (qb, .inl (cB, 64, .inl fb))]) hP hD [0, 1] [2] rfl rfl (by decide) (by decide) hk1 hFc hP1 hD1
    have hP := hP.sub (ws' := [(h0, .inr (0, [.ref qb, .long kb, .int nx, .int un, .int ek, .int en])), (qb, .inl (cB, 64, .inl fb)), (qo, .inl (cO, 1, .inr (.inl fo)))]) [1, 2, 0] rfl
    have hD := hD.sub (ws' := [(h0, .inr (0, [.ref qb, .long kb, .int nx, .int un, .int ek, .int en])), (qb, .inl (cB, 64, .inl fb)), (qo, .inl (cO, 1, .inr (.inl fo)))]) [1, 2, 0] (by decide) rfl
    refine sx_catch hown ⟨0, 13, 16, 13⟩ [] htab (by decide) (by decide) (hts (.classLink RL 13 "java/lang/IllegalArgumentException") (by decide +kernel)) (va_Nw.use rfl hZ.2.2.1) hce hcv hcl ?_
    generalize H1 = H at hP hS ⊢
    refine W.eq (g2 := F0 m 16 ls [.ref q9]) rfl ?_
    refine lv_astore (lv' := [(6, .ref q9), (0, .ref h0), (1, .int n), (2, .long v), (4, .int k), (5, .ref qo)]) hx hb dL_segment_16 hl (by decide) rfl (fun ls hl => ?_)
    refine lv_iconst (v := 1) hx hb dL_segment_18 (by decide) ?_
    refine W.widen (k := 1) (n := 6) (by omega) (by omega) ?_
    exact W.iret (v := 1) hx hb hr (fun t ht hW => ⟨⟨1, (kb, nx, un, fb, fo), rfl, Or.inl ⟨rfl, hpx, rfl, rfl, rfl, rfl⟩, by rw [ht]; exact hP, va_K.moved hW.alike hK, hD⟩, hS.F ht⟩) hS.2.2 dL_segment_19
  · obtain ⟨kb', nx', un', fb'⟩ := u
    obtain ⟨hP1, hK1, hD1⟩ := hB
    rw [ht] at hP1
    try dsimp only at hw
    obtain ⟨hP, hD⟩ := va_join (wr := [(qo, .inl (cO, 1, .inr (.inl fo)))]) (w1 := [(h0, .inr (0, [.ref qb, .long kb', .int nx', .int un', .int ek, .int en])), (qb, .inl (cB, 64, .inl fb'))]) hP hD [0, 1] [2] rfl rfl (by decide) (by decide) hk1 hFc hP1 hD1
    generalize H1 = H at hP hS ⊢
    have hP := hP.sub (ws' := [(h0, .inr (0, [.ref qb, .long kb', .int nx', .int un', .int ek, .int en])), (qb, .inl (cB, 64, .inl fb')), (qo, .inl (cO, 1, .inr (.inl fo)))]) [1, 2, 0] rfl
    have hD := hD.sub (ws' := [(h0, .inr (0, [.ref qb, .long kb', .int nx', .int un', .int ek, .int en])), (qb, .inl (cB, 64, .inl fb')), (qo, .inl (cO, 1, .inr (.inl fo)))]) [1, 2, 0] (by decide) rfl
    refine lv_i2l (v := r.toInt64) hx hb dL_segment_11 rfl ?_
    refine va_last hx hb hK hP hD hS 2 1 rfl rfl inb1_0 dL_segment_12 (fun H locs hP hD hS => ?_)
    have hP : va_P (dC, dI) vwCl [(h0, .inr (0, [.ref qb, .long kb', .int nx', .int un', .int ek, .int en])), (qb, .inl (cB, 64, .inl fb')), (qo, .inl (cO, 1, .inr (.inl (vp_updL fo (0 : Int32).toNatClampNeg r.toInt64))))] H := hP
    have hD : va_D A [(h0, .inr (0, [.ref qb, .long kb', .int nx', .int un', .int ek, .int en])), (qb, .inl (cB, 64, .inl fb')), (qo, .inl (cO, 1, .inr (.inl (vp_updL fo (0 : Int32).toNatClampNeg r.toInt64))))] := hD
    refine lv_goto (tgt := 20) hx hb dL_segment_13 (by decide) ?_
    refine lv_iconst (v := 0) hx hb dL_segment_20 (by decide) ?_
    refine W.widen (k := 1) (n := 6) (by omega) (by omega) ?_
    exact W.iret (v := 0) hx hb hr (fun t ht hW => ⟨⟨0, (kb', nx', un', fb', vp_updL fo (0 : Int32).toNatClampNeg r.toInt64), rfl, Or.inr ⟨rfl, r, by rw [cl_0, pk_uLs], hw⟩, by rw [ht]; exact hP, va_K.moved hW.alike hK, hD⟩, hS.F ht⟩) hS.2.2 dL_segment_21
end
section
set_option maxHeartbeats 4000000 in
set_option maxRecDepth 100000 in
theorem h_told (l : Launch) (hst : l.stackTraces = false) (dC : Nat → ClassId) (dI : Nat → Nat → Nat) (h0 qb : Nat) (cB : ClassId) (kb : Int64) (nx un ek en : Int32) (fb : Nat → Int32) (qo : Nat) (cO : ClassId) (fo : Nat → Int64) (n : Int32) (sz : Nat)  : Met l yL_told wsL_told ({ frames := 7, cells := 1, slots := 6, locals := 102 }) (va_Pc [.ref h0, .int n, .ref qo] (fun U => U.heap.size = sz ∧ va_P (dC, dI) vwCl [(h0, .inr (0, [.ref qb, .long kb, .int nx, .int un, .int ek, .int en])), (qb, .inl (cB, 64, .inl fb)), (qo, .inl (cO, 1, .inr (.inl fo)))] U.heap ∧ va_K (dC, dI) vwCl [(cB, .byte), (cO, .long)] U ∧ va_D (fun _ => True) [(h0, .inr (0, [.ref qb, .long kb, .int nx, .int un, .int ek, .int en])), (qb, .inl (cB, 64, .inl fb)), (qo, .inl (cO, 1, .inr (.inl fo)))] ∧ thr (va_A [(h0, .inr (0, [.ref qb, .long kb, .int nx, .int un, .int ek, .int en])), (qb, .inl (cB, 64, .inl fb)), (qo, .inl (cO, 1, .inr (.inl fo)))] sz) U U.heap)) (va_Qi (fun (r : Int32) (u : Nat → Int64) => match u with | fo' => (r = 1 ∧ (n.toInt < 0 ∨ 5 < n.toInt)) ∨ (r = 0 ∧ ∃ r9 : Int32, fo' 0 = r9.toInt64 ∧ ((n = 0 ∧ r9 = nx) ∨ (n = 1 ∧ r9 = 64 - un) ∨ (n = 2 ∧ r9 = un) ∨ (n = 3 ∧ r9 = g_bc kb) ∨ (n = 4 ∧ r9 = g_bc (c_st kb)) ∨ (n = 5 ∧ r9 = (if ek = 0 then 0 else 1))))) (fun (u : Nat → Int64) (t : State) => match u with | fo' => va_P (dC, dI) vwCl [(h0, .inr (0, [.ref qb, .long kb, .int nx, .int un, .int ek, .int en])), (qb, .inl (cB, 64, .inl fb)), (qo, .inl (cO, 1, .inr (.inl fo')))] t.heap ∧ va_K (dC, dI) vwCl [(cB, .byte), (cO, .long)] t ∧ va_D (va_A [(h0, .inr (0, [.ref qb, .long kb, .int nx, .int un, .int ek, .int en])), (qb, .inl (cB, 64, .inl fb)), (qo, .inl (cO, 1, .inr (.inl fo)))] sz) [(h0, .inr (0, [.ref qb, .long kb, .int nx, .int un, .int ek, .int en])), (qb, .inl (cB, 64, .inl fb)), (qo, .inl (cO, 1, .inr (.inl fo')))]) (va_A [(h0, .inr (0, [.ref qb, .long kb, .int nx, .int un, .int ek, .int en])), (qb, .inl (cB, 64, .inl fb)), (qo, .inl (cO, 1, .inr (.inl fo)))] sz)) 1 6 (va_A [(h0, .inr (0, [.ref qb, .long kb, .int nx, .int un, .int ek, .int en])), (qb, .inl (cB, 64, .inl fb)), (qo, .inl (cO, 1, .inr (.inl fo)))] sz) := by
  refine va_MetW (cc := cL_told) (maxL := 4) (ret := (some .int)) (hh := [(0, 9, 12, 13)]) (by decide) rfl ?_
  intro p e s m args below meth c s₁ B hml hv
  obtain ⟨rfl, hsz, hP, hK, hD0, hZ⟩ := hv
  have hx := B.exec
  have hb := B.bytes
  have hr := B.returns
  have hts := atoms_spec (ws := wsL_told) B.pre
  have hown : s.vm.findClass RL = some m.cls := findClass_of_methodNamed B.named
  have hlocks := B.notSynchronized
  subst hsz
  have hD := hD0.self (sz := s.heap.size)
  generalize hAe : va_A [(h0, .inr (0, [.ref qb, .long kb, .int nx, .int un, .int ek, .int en])), (qb, .inl (cB, 64, .inl fb)), (qo, .inl (cO, 1, .inr (.inl fo)))] s.heap.size = A at hD hZ ⊢
  have hA : ∀ q : Nat, s.heap.size ≤ q → A q := fun q h => by rw [← hAe]; exact Or.inr h
  have hS : va_S A s.heap s.heap [] := va_S.rf
  have hP : va_P (dC, dI) vwCl [(h0, .inr (0, [.ref qb, .long kb, .int nx, .int un, .int ek, .int en])), (qb, .inl (cB, 64, .inl fb)), (qo, .inl (cO, 1, .inr (.inl fo)))] s.heap := hP
  have hl := lv_entry ([.ref h0, .int n, .ref qo]) (n := 4) (Nat.le_of_ble_eq_true rfl)
  rw [lg_entry_eq]
  generalize (lg_sl ([.ref h0, .int n, .ref qo]) ++ List.replicate (4 - (lg_sl ([.ref h0, .int n, .ref qo])).length) Slot.unset).toArray = ls at hl ⊢
  have hl : lv_has ls 4 [(0, .ref h0), (1, .int n), (2, .ref qo)] := hl
  have hi_0 : ∀ w ∈ u_ws RX0 TX0 6, w ∈ wsL_told := by decide +kernel
  have htab : c.exceptionTable.toList = tableOf [(0, 9, 12, 13)] := vx_table (x := yL_told) B (hts (.codeWith yL_told cL_told 4 (some .int) [(0, 9, 12, 13)]) (by decide +kernel))
  refine lv_aload_n hx hb dL_told_0 rfl (lv_at hl 2 rfl) ?_
  refine lv_iconst (v := 0) hx hb dL_told_1 (by decide) ?_
  refine lv_aload_n hx hb dL_told_2 rfl (lv_at hl 0 rfl) ?_
  refine lv_iload_n hx hb dL_told_3 rfl (lv_at hl 1 rfl) ?_
  have hPc := hP.sub (ws' := [(h0, .inr (0, [.ref qb, .long kb, .int nx, .int un, .int ek, .int en])), (qb, .inl (cB, 64, .inl fb))]) [0, 1] rfl
  have hDc := hD.sub (ws' := [(h0, .inr (0, [.ref qb, .long kb, .int nx, .int un, .int ek, .int en])), (qb, .inl (cB, 64, .inl fb))]) [0, 1] (by decide) rfl
  have hKc := hK.sub (tys' := [(cB, .byte)]) [0] rfl
  have hFc := va_free (wc := [(h0, .inr (0, [.ref qb, .long kb, .int nx, .int un, .int ek, .int en])), (qb, .inl (cB, 64, .inl fb))]) hD hS hA [0, 1] rfl
  refine vx_calli (vx_runV (As := [.int n]) (rest := [.int 0, .ref qo]) ⟨hx, hb, hml, hown, hts⟩ (c_told l hst dC dI h0 qb cB kb nx un ek en fb n s.heap.size) (cwV 1 hts gL_told_X0_told rfl rfl rfl (by decide +kernel) ⟨Nat.le_of_ble_eq_true rfl, Nat.le_of_ble_eq_true rfl⟩) ⟨fun a U g mk q => by obtain ⟨q0, q1, qP, qK, qD, qZ⟩ := q; exact ⟨q0, q1, qP, va_K.moved (u := U) (U := U.calling g mk a) (Vm.Alike.refl U.vm) qK, qD, thr_blind qZ⟩, va_recv hKc hPc (ci := 0) (q0 := 0) rfl rfl, fun U hU hW => ⟨rfl, by rw [hU], by rw [hU]; exact hPc, va_K.moved hW.alike hKc, hDc.weaken (fun _ _ _ _ => trivial), thr_call hZ hS hFc hU hW⟩⟩ rfl rfl hl.1 rfl (lv_room (Nat.le_of_ble_eq_true rfl)) dL_told_4 ⟨Nat.le_of_ble_eq_true rfl, Nat.le_of_ble_eq_true rfl⟩) hS (fun q _ h => hFc q h) hFc (fun q _ h => hFc q h) (fun E ce q9 u t H1 locs ht hvm hpx hB hz1 hk1 hS hce hcv hcl => ?_) (fun r u t H1 locs ht hvm hw hB hz1 hk1 hS => ?_)
  · obtain ⟨hE, hP1, hK1, hD1⟩ := hB
    subst hE
    rw [ht] at hP1
    obtain ⟨hP, hD⟩ := va_join (wr := [(qo, .inl (cO, 1, .inr (.inl fo)))]) (w1 := [(h0, .inr (0, [.ref qb, .long kb, .int nx, .int un, .int ek, .int en])), (qb, .inl (cB, 64, .inl fb))]) hP hD [0, 1] [2] rfl rfl (by decide) (by decide) hk1 hFc hP1 hD1
    have hP := hP.sub (ws' := [(h0, .inr (0, [.ref qb, .long kb, .int nx, .int un, .int ek, .int en])), (qb, .inl (cB, 64, .inl fb)), (qo, .inl (cO, 1, .inr (.inl fo)))]) [1, 2, 0] rfl
    have hD := hD.sub (ws' := [(h0, .inr (0, [.ref qb, .long kb, .int nx, .int un, .int ek, .int en])), (qb, .inl (cB, 64, .inl fb)), (qo, .inl (cO, 1, .inr (.inl fo)))]) [1, 2, 0] (by decide) rfl
    refine sx_catch hown ⟨0, 9, 12, 13⟩ [] htab (by decide) (by decide) (hts (.classLink RL 13 "java/lang/IllegalArgumentException") (by decide +kernel)) (va_Nw.use rfl hZ.2.2.1) hce hcv hcl ?_
    generalize H1 = H at hP hS ⊢
    refine W.eq (g2 := F0 m 12 ls [.ref q9]) rfl ?_
    refine lv_astore_n (lv' := [(3, .ref q9), (0, .ref h0), (1, .int n), (2, .ref qo)]) hx hb dL_told_12 rfl hl (by decide) rfl (fun ls hl => ?_)
    refine lv_iconst (v := 1) hx hb dL_told_13 (by decide) ?_
    refine W.widen (k := 1) (n := 6) (by omega) (by omega) ?_
    exact W.iret (v := 1) hx hb hr (fun t ht hW => ⟨⟨1, fo, rfl, Or.inl ⟨rfl, hpx⟩, by rw [ht]; exact hP, va_K.moved hW.alike hK, hD⟩, hS.F ht⟩) hS.2.2 dL_told_14
  · obtain ⟨hP1, hK1, hD1⟩ := hB
    rw [ht] at hP1
    try dsimp only at hw
    obtain ⟨hP, hD⟩ := va_join (wr := [(qo, .inl (cO, 1, .inr (.inl fo)))]) (w1 := [(h0, .inr (0, [.ref qb, .long kb, .int nx, .int un, .int ek, .int en])), (qb, .inl (cB, 64, .inl fb))]) hP hD [0, 1] [2] rfl rfl (by decide) (by decide) hk1 hFc hP1 hD1
    generalize H1 = H at hP hS ⊢
    have hP := hP.sub (ws' := [(h0, .inr (0, [.ref qb, .long kb, .int nx, .int un, .int ek, .int en])), (qb, .inl (cB, 64, .inl fb)), (qo, .inl (cO, 1, .inr (.inl fo)))]) [1, 2, 0] rfl
    have hD := hD.sub (ws' := [(h0, .inr (0, [.ref qb, .long kb, .int nx, .int un, .int ek, .int en])), (qb, .inl (cB, 64, .inl fb)), (qo, .inl (cO, 1, .inr (.inl fo)))]) [1, 2, 0] (by decide) rfl
    refine lv_i2l (v := r.toInt64) hx hb dL_told_7 rfl ?_
    refine va_last hx hb hK hP hD hS 2 1 rfl rfl inb1_0 dL_told_8 (fun H locs hP hD hS => ?_)
    have hP : va_P (dC, dI) vwCl [(h0, .inr (0, [.ref qb, .long kb, .int nx, .int un, .int ek, .int en])), (qb, .inl (cB, 64, .inl fb)), (qo, .inl (cO, 1, .inr (.inl (vp_updL fo (0 : Int32).toNatClampNeg r.toInt64))))] H := hP
    have hD : va_D A [(h0, .inr (0, [.ref qb, .long kb, .int nx, .int un, .int ek, .int en])), (qb, .inl (cB, 64, .inl fb)), (qo, .inl (cO, 1, .inr (.inl (vp_updL fo (0 : Int32).toNatClampNeg r.toInt64))))] := hD
    refine lv_goto (tgt := 15) hx hb dL_told_9 (by decide) ?_
    refine lv_iconst (v := 0) hx hb dL_told_15 (by decide) ?_
    refine W.widen (k := 1) (n := 6) (by omega) (by omega) ?_
    exact W.iret (v := 0) hx hb hr (fun t ht hW => ⟨⟨0, vp_updL fo (0 : Int32).toNatClampNeg r.toInt64, rfl, Or.inr ⟨rfl, r, by rw [cl_0, pk_uLs], hw⟩, by rw [ht]; exact hP, va_K.moved hW.alike hK, hD⟩, hS.F ht⟩) hS.2.2 dL_told_16
end
section
set_option maxHeartbeats 4000000 in
set_option maxRecDepth 100000 in
theorem h_block (l : Launch) (hst : l.stackTraces = false) (dC : Nat → ClassId) (dI : Nat → Nat → Nat) (h0 qb : Nat) (cB : ClassId) (kb : Int64) (nx un ek en : Int32) (fb : Nat → Int32) (qo : Nat) (cO : ClassId) (fo : Nat → Int64) (i b : Int32) (sz : Nat)  : Met l yL_block wsL_block ({ frames := 7, cells := 1, slots := 6, locals := 104 }) (va_Pc [.ref h0, .int i, .int b, .ref qo] (fun U => U.heap.size = sz ∧ va_P (dC, dI) vwCl [(h0, .inr (0, [.ref qb, .long kb, .int nx, .int un, .int ek, .int en])), (qb, .inl (cB, 64, .inl fb)), (qo, .inl (cO, 1, .inr (.inl fo)))] U.heap ∧ va_K (dC, dI) vwCl [(cB, .byte), (cO, .long)] U ∧ va_D (fun _ => True) [(h0, .inr (0, [.ref qb, .long kb, .int nx, .int un, .int ek, .int en])), (qb, .inl (cB, 64, .inl fb)), (qo, .inl (cO, 1, .inr (.inl fo)))] ∧ thr (va_A [(h0, .inr (0, [.ref qb, .long kb, .int nx, .int un, .int ek, .int en])), (qb, .inl (cB, 64, .inl fb)), (qo, .inl (cO, 1, .inr (.inl fo)))] sz) U U.heap)) (va_Qi (fun (r : Int32) (u : Nat → Int64) => match u with | fo' => (r = 1 ∧ (i < 0 ∨ g_bc (c_st kb) ≤ i)) ∨ (r = 0 ∧ ∃ r9 : Int32, fo' 0 = r9.toInt64 ∧ (∃ i0 k : Nat, i = nI i0 ∧ i0 < sg_c (sg_b (c_st kb)) 64 ∧ k < 64 ∧ sg_b (c_st kb) k = true ∧ sg_c (sg_b (c_st kb)) k = i0 ∧ ((b = 0 ∧ r9 = nx + nI k) ∨ (¬ b = 0 ∧ ∃ j : Nat, r9 = nI j ∧ k + j ≤ 64 ∧ (∀ i, i < j → sg_b kb (k + i) = true) ∧ (k + j < 64 → sg_b kb (k + j) = false)))))) (fun (u : Nat → Int64) (t : State) => match u with | fo' => va_P (dC, dI) vwCl [(h0, .inr (0, [.ref qb, .long kb, .int nx, .int un, .int ek, .int en])), (qb, .inl (cB, 64, .inl fb)), (qo, .inl (cO, 1, .inr (.inl fo')))] t.heap ∧ va_K (dC, dI) vwCl [(cB, .byte), (cO, .long)] t ∧ va_D (va_A [(h0, .inr (0, [.ref qb, .long kb, .int nx, .int un, .int ek, .int en])), (qb, .inl (cB, 64, .inl fb)), (qo, .inl (cO, 1, .inr (.inl fo)))] sz) [(h0, .inr (0, [.ref qb, .long kb, .int nx, .int un, .int ek, .int en])), (qb, .inl (cB, 64, .inl fb)), (qo, .inl (cO, 1, .inr (.inl fo')))]) (va_A [(h0, .inr (0, [.ref qb, .long kb, .int nx, .int un, .int ek, .int en])), (qb, .inl (cB, 64, .inl fb)), (qo, .inl (cO, 1, .inr (.inl fo)))] sz)) 1 6 (va_A [(h0, .inr (0, [.ref qb, .long kb, .int nx, .int un, .int ek, .int en])), (qb, .inl (cB, 64, .inl fb)), (qo, .inl (cO, 1, .inr (.inl fo)))] sz) := by
  refine va_MetW (cc := cL_block) (maxL := 5) (ret := (some .int)) (hh := [(0, 10, 13, 23)]) (by decide) rfl ?_
  intro p e s m args below meth c s₁ B hml hv
  obtain ⟨rfl, hsz, hP, hK, hD0, hZ⟩ := hv
  have hx := B.exec
  have hb := B.bytes
  have hr := B.returns
  have hts := atoms_spec (ws := wsL_block) B.pre
  have hown : s.vm.findClass RL = some m.cls := findClass_of_methodNamed B.named
  have hlocks := B.notSynchronized
  subst hsz
  have hD := hD0.self (sz := s.heap.size)
  generalize hAe : va_A [(h0, .inr (0, [.ref qb, .long kb, .int nx, .int un, .int ek, .int en])), (qb, .inl (cB, 64, .inl fb)), (qo, .inl (cO, 1, .inr (.inl fo)))] s.heap.size = A at hD hZ ⊢
  have hA : ∀ q : Nat, s.heap.size ≤ q → A q := fun q h => by rw [← hAe]; exact Or.inr h
  have hS : va_S A s.heap s.heap [] := va_S.rf
  have hP : va_P (dC, dI) vwCl [(h0, .inr (0, [.ref qb, .long kb, .int nx, .int un, .int ek, .int en])), (qb, .inl (cB, 64, .inl fb)), (qo, .inl (cO, 1, .inr (.inl fo)))] s.heap := hP
  have hl := lv_entry ([.ref h0, .int i, .int b, .ref qo]) (n := 5) (Nat.le_of_ble_eq_true rfl)
  rw [lg_entry_eq]
  generalize (lg_sl ([.ref h0, .int i, .int b, .ref qo]) ++ List.replicate (5 - (lg_sl ([.ref h0, .int i, .int b, .ref qo])).length) Slot.unset).toArray = ls at hl ⊢
  have hl : lv_has ls 5 [(0, .ref h0), (1, .int i), (2, .int b), (3, .ref qo)] := hl
  have hi_0 : ∀ w ∈ u_ws RX0 TX0 6, w ∈ wsL_block := by decide +kernel
  have htab : c.exceptionTable.toList = tableOf [(0, 10, 13, 23)] := vx_table (x := yL_block) B (hts (.codeWith yL_block cL_block 5 (some .int) [(0, 10, 13, 23)]) (by decide +kernel))
  refine lv_aload_n hx hb dL_block_0 rfl (lv_at hl 3 rfl) ?_
  refine lv_iconst (v := 0) hx hb dL_block_1 (by decide) ?_
  refine lv_aload_n hx hb dL_block_2 rfl (lv_at hl 0 rfl) ?_
  refine lv_iload_n hx hb dL_block_3 rfl (lv_at hl 1 rfl) ?_
  refine lv_iload_n hx hb dL_block_4 rfl (lv_at hl 2 rfl) ?_
  have hPc := hP.sub (ws' := [(h0, .inr (0, [.ref qb, .long kb, .int nx, .int un, .int ek, .int en])), (qb, .inl (cB, 64, .inl fb))]) [0, 1] rfl
  have hDc := hD.sub (ws' := [(h0, .inr (0, [.ref qb, .long kb, .int nx, .int un, .int ek, .int en])), (qb, .inl (cB, 64, .inl fb))]) [0, 1] (by decide) rfl
  have hKc := hK.sub (tys' := [(cB, .byte)]) [0] rfl
  have hFc := va_free (wc := [(h0, .inr (0, [.ref qb, .long kb, .int nx, .int un, .int ek, .int en])), (qb, .inl (cB, 64, .inl fb))]) hD hS hA [0, 1] rfl
  refine vx_calli (vx_runV (As := [.int i, .int b]) (rest := [.int 0, .ref qo]) ⟨hx, hb, hml, hown, hts⟩ (c_block l hst dC dI h0 qb cB kb nx un ek en fb i b s.heap.size) (cwV 2 hts gL_block_X0_block rfl rfl rfl (by decide +kernel) ⟨Nat.le_of_ble_eq_true rfl, Nat.le_of_ble_eq_true rfl⟩) ⟨fun a U g mk q => by obtain ⟨q0, q1, qP, qK, qD, qZ⟩ := q; exact ⟨q0, q1, qP, va_K.moved (u := U) (U := U.calling g mk a) (Vm.Alike.refl U.vm) qK, qD, thr_blind qZ⟩, va_recv hKc hPc (ci := 0) (q0 := 0) rfl rfl, fun U hU hW => ⟨rfl, by rw [hU], by rw [hU]; exact hPc, va_K.moved hW.alike hKc, hDc.weaken (fun _ _ _ _ => trivial), thr_call hZ hS hFc hU hW⟩⟩ rfl rfl hl.1 rfl (lv_room (Nat.le_of_ble_eq_true rfl)) dL_block_5 ⟨Nat.le_of_ble_eq_true rfl, Nat.le_of_ble_eq_true rfl⟩) hS (fun q _ h => hFc q h) hFc (fun q _ h => hFc q h) (fun E ce q9 u t H1 locs ht hvm hpx hB hz1 hk1 hS hce hcv hcl => ?_) (fun r u t H1 locs ht hvm hw hB hz1 hk1 hS => ?_)
  · obtain ⟨hE, hP1, hK1, hD1⟩ := hB
    subst hE
    rw [ht] at hP1
    obtain ⟨hP, hD⟩ := va_join (wr := [(qo, .inl (cO, 1, .inr (.inl fo)))]) (w1 := [(h0, .inr (0, [.ref qb, .long kb, .int nx, .int un, .int ek, .int en])), (qb, .inl (cB, 64, .inl fb))]) hP hD [0, 1] [2] rfl rfl (by decide) (by decide) hk1 hFc hP1 hD1
    have hP := hP.sub (ws' := [(h0, .inr (0, [.ref qb, .long kb, .int nx, .int un, .int ek, .int en])), (qb, .inl (cB, 64, .inl fb)), (qo, .inl (cO, 1, .inr (.inl fo)))]) [1, 2, 0] rfl
    have hD := hD.sub (ws' := [(h0, .inr (0, [.ref qb, .long kb, .int nx, .int un, .int ek, .int en])), (qb, .inl (cB, 64, .inl fb)), (qo, .inl (cO, 1, .inr (.inl fo)))]) [1, 2, 0] (by decide) rfl
    refine sx_catch hown ⟨0, 10, 13, 23⟩ [] htab (by decide) (by decide) (hts (.classLink RL 23 "java/lang/IndexOutOfBoundsException") (by decide +kernel)) (va_Nw.use rfl hZ.2.2.2.1) hce hcv hcl ?_
    generalize H1 = H at hP hS ⊢
    refine W.eq (g2 := F0 m 13 ls [.ref q9]) rfl ?_
    refine lv_astore (lv' := [(4, .ref q9), (0, .ref h0), (1, .int i), (2, .int b), (3, .ref qo)]) hx hb dL_block_13 hl (by decide) rfl (fun ls hl => ?_)
    refine lv_iconst (v := 1) hx hb dL_block_15 (by decide) ?_
    refine W.widen (k := 1) (n := 6) (by omega) (by omega) ?_
    exact W.iret (v := 1) hx hb hr (fun t ht hW => ⟨⟨1, fo, rfl, Or.inl ⟨rfl, hpx⟩, by rw [ht]; exact hP, va_K.moved hW.alike hK, hD⟩, hS.F ht⟩) hS.2.2 dL_block_16
  · obtain ⟨hP1, hK1, hD1⟩ := hB
    rw [ht] at hP1
    try dsimp only at hw
    obtain ⟨hP, hD⟩ := va_join (wr := [(qo, .inl (cO, 1, .inr (.inl fo)))]) (w1 := [(h0, .inr (0, [.ref qb, .long kb, .int nx, .int un, .int ek, .int en])), (qb, .inl (cB, 64, .inl fb))]) hP hD [0, 1] [2] rfl rfl (by decide) (by decide) hk1 hFc hP1 hD1
    generalize H1 = H at hP hS ⊢
    have hP := hP.sub (ws' := [(h0, .inr (0, [.ref qb, .long kb, .int nx, .int un, .int ek, .int en])), (qb, .inl (cB, 64, .inl fb)), (qo, .inl (cO, 1, .inr (.inl fo)))]) [1, 2, 0] rfl
    have hD := hD.sub (ws' := [(h0, .inr (0, [.ref qb, .long kb, .int nx, .int un, .int ek, .int en])), (qb, .inl (cB, 64, .inl fb)), (qo, .inl (cO, 1, .inr (.inl fo)))]) [1, 2, 0] (by decide) rfl
    refine lv_i2l (v := r.toInt64) hx hb dL_block_8 rfl ?_
    refine va_last hx hb hK hP hD hS 2 1 rfl rfl inb1_0 dL_block_9 (fun H locs hP hD hS => ?_)
    have hP : va_P (dC, dI) vwCl [(h0, .inr (0, [.ref qb, .long kb, .int nx, .int un, .int ek, .int en])), (qb, .inl (cB, 64, .inl fb)), (qo, .inl (cO, 1, .inr (.inl (vp_updL fo (0 : Int32).toNatClampNeg r.toInt64))))] H := hP
    have hD : va_D A [(h0, .inr (0, [.ref qb, .long kb, .int nx, .int un, .int ek, .int en])), (qb, .inl (cB, 64, .inl fb)), (qo, .inl (cO, 1, .inr (.inl (vp_updL fo (0 : Int32).toNatClampNeg r.toInt64))))] := hD
    refine lv_goto (tgt := 17) hx hb dL_block_10 (by decide) ?_
    refine lv_iconst (v := 0) hx hb dL_block_17 (by decide) ?_
    refine W.widen (k := 1) (n := 6) (by omega) (by omega) ?_
    exact W.iret (v := 0) hx hb hr (fun t ht hW => ⟨⟨0, vp_updL fo (0 : Int32).toNatClampNeg r.toInt64, rfl, Or.inr ⟨rfl, r, by rw [cl_0, pk_uLs], hw⟩, by rw [ht]; exact hP, va_K.moved hW.alike hK, hD⟩, hS.F ht⟩) hS.2.2 dL_block_18
end
section
def R_law : String := "SegmentBoxLaw"
def lw_P (b : Addr) (xs : List Int32) (args : Array Value) (s : State) : Prop := args = #[.ref b] ∧ s.IntsAt b xs ∧ xs.length ≤ 2560 ∧ (Jvm.Cond.and given_1 narrow_1).before args s = true
def lw_Q (_ : Array Value) (s : State) (o : Outcome) (t : State) : Prop := o = .returned (some (.int 1)) ∧ Framed s o t [] 1034 8481
def lw_Z (below : List Frame) (a : Array Value) (s : State) : State → Prop := fun t => ∃ o, t.status = .running ∧ Ended t below o ∧ lw_Q a s o t
/-- the law's own end, with 1 on the stack, nothing written that was there before, its room as the claim has it -/
theorem lw_ret {p : Program} {l : Launch} {e : Env} {s : State} {m : MethodId} {below : List Frame} {meth : Method} {c : Code} {b : Nat} (hx : p.tables.exec = Jvm.exec) (hb : c.code = code) (hr : meth.sig.returnType = ret) (hlocks : meth.locks = false) {pc : Nat} {H : Heap} {ls : Array Slot} (hdg : decode code pc = .ok (.ireturn, 1)) : W p l e room_1 s m #[Value.ref b] below meth c H [] 1034 8481 (lw_Z below #[Value.ref b] s) (F0 m pc ls [.int 1]) := by
  intro T hT X
  obtain ⟨fs, hret, hrun, hended, hW, hframe⟩ := X.leave (v := some (.int 1)) (hlocks := hlocks) (fun h => by rw [hr] at h; cases h)
  have hmeth' : T.vm.method? m = some meth := X.method'
  refine ⟨T.setFrames fs, ?_, .returned (some (.int 1)), hrun, hended, rfl, ⟨_, rfl⟩, hW, hframe⟩
  jvm_step X.here [X.here.top, hx, hb, hdg, hmeth', hr, ret, narrow_b1]
  (try refine ⟨rfl, ?_⟩); (try refine ⟨rfl, ?_⟩)
  first | (intro acts; rw [hret _ acts rfl rfl rfl]) | rw [hret _ _ rfl rfl rfl]
  exact Steps.refl _
/-- what holds at the law's entry: the machine, the code, the tables' words (any of lw_tbl by 'hts w (by decide +kernel)'), the script of L ints xs at the cell b, what the Statement gives of the start (any of its parts by flat_of_before) -/
def lw_At (p : Program) (s : State) (m : MethodId) (meth : Method) (c : Code) (b L : Nat) (xs : Nat → Int32) : Prop :=
  p.tables.exec = Jvm.exec ∧ c.code = code ∧ meth.sig.returnType = ret ∧ c.maxLocals = 7 ∧ s.vm.findClass R_law = some m.cls ∧ (∀ w ∈ lw_tbl, w.before #[Value.ref b] s = true) ∧ va_X b L xs s s.heap ∧ b < s.heap.size ∧ meth.locks = false ∧ (Jvm.Cond.and given_1 narrow_1).before #[Value.ref b] s = true
end
section
def LawAt (p : Program) (l : Launch) (e : Env) (s : State) (m : MethodId) (below : List Frame) (meth : Method) (c : Code) (dC : Nat → ClassId) (dI : Nat → Nat → Nat) (b h0 qb a1 q1 q2 q3 qo : Nat) (cB cU cV cZ cO : ClassId) (t : Nat) : Prop :=
  ∀ (x4 : Int32) (kb : Int64) (nx ek en ed th bs : Int32) (u e9 : Nat) (S : aS) (fb fU fB fH : Nat → Int32) (fo : Nat → Int64), x4 = nI (5 * t) → INV nx ek en ed kb fb fU fB fH bs u e9 S → ∀ (H : Heap) (locs : List Loc) (ls : Array Slot), va_P (dC, dI) vwCl [(h0, .inr (0, [.ref qb, .long kb, .int nx, .int (nI u), .int ek, .int en])), (qb, .inl (cB, 64, .inl fb)), (a1, .inr (1, [.ref q1, .ref q2, .ref q3, .int nx, .int (nI u), .int ed, .int th, .int ek])), (q1, .inl (cU, 64, .inl fU)), (q2, .inl (cV, 64, .inl fB)), (q3, .inl (cZ, 64, .inl fH)), (qo, .inl (cO, 1, .inr (.inl fo)))] H → va_D (fun q : Nat => s.heap.size ≤ q) [(h0, .inr (0, [.ref qb, .long kb, .int nx, .int (nI u), .int ek, .int en])), (qb, .inl (cB, 64, .inl fb)), (a1, .inr (1, [.ref q1, .ref q2, .ref q3, .int nx, .int (nI u), .int ed, .int th, .int ek])), (q1, .inl (cU, 64, .inl fU)), (q2, .inl (cV, 64, .inl fB)), (q3, .inl (cZ, 64, .inl fH)), (qo, .inl (cO, 1, .inr (.inl fo)))] → va_S (fun q : Nat => s.heap.size ≤ q) s.heap H locs → lv_has ls 7 [(4, .int x4), (0, .ref b), (1, .ref h0), (2, .ref a1), (3, .ref qo)] → W p l e room_1 s m #[Value.ref b] below meth c H locs (7 + t) (271 + 6 * t) (lw_Z below #[Value.ref b] s) (F0 m 23 ls [])
theorem ld_in {x4 : Int32} {t k L : Nat} (h : x4 = nI (5 * t)) (hk : 5 * t + k < L) (hL : L ≤ 2560) : vp_in (x4 + nI k) L := by
  rw [h, nI_add]
  exact vp_in_nI hk (by omega)
theorem ld_0 {x4 : Int32} {t L : Nat} (h : x4 = nI (5 * t)) (hk : 5 * t < L) (hL : L ≤ 2560) : vp_in x4 L := by
  rw [h]
  exact vp_in_nI hk (by omega)
theorem x4_up {x4 y : Int32} {t : Nat} (h : x4 = nI (5 * t)) (hy : y = x4 + 5) : y = nI (5 * (t + 1)) := by
  rw [hy, h, show 5 * (t + 1) = 5 * t + 5 by omega, ← nI_add]
  rfl
theorem law_in {L i : Nat} (hL : L ≤ 2560) (hi : i ≤ 2565) : (Int32.ofNat L - 5 < nI i) ↔ ¬ i + 5 ≤ L := by
  have e1 : (Int32.ofNat L - 5 : Int32).toInt = (L : Int) - 5 := pk_sub_toInt (a := L) (b := 5) (by omega) (by decide)
  rw [Int32.lt_iff_toInt_lt, e1, nI_toInt (by omega)]
  omega
theorem lcmp_eq {x y : Int64} (h : x = y) : lg_cmp x y = 0 := by
  rw [h]
  unfold lg_cmp
  simp
end
section
set_option maxHeartbeats 4000000 in
set_option maxRecDepth 100000 in
theorem law_0 {p : Program} {l : Launch} {e : Env} {s : State} {m : MethodId} {below : List Frame} {meth : Method} {c : Code} {dC : Nat → ClassId} {dI : Nat → Nat → Nat} {b h0 qb a1 q1 q2 q3 qo : Nat} {cB cU cV cZ cO : ClassId} {L : Nat} {xs : Nat → Int32} (hst : l.stackTraces = false) (C0 : lw_At p s m meth c b L xs) (hZ : thr (fun q : Nat => s.heap.size ≤ q) s s.heap) (hK : va_K (dC, dI) vwCl [(cB, .byte), (cU, .int), (cV, .int), (cZ, .boolean), (cO, .long)] s) {t : Nat} (ht5 : t < 512) (hLt : 5 * t + 5 ≤ L) (hL : L ≤ 2560) (ih : LawAt p l e s m below meth c dC dI b h0 qb a1 q1 q2 q3 qo cB cU cV cZ cO (t + 1)) (x4 : Int32) (kb : Int64) (nx ek en ed th bs : Int32) (u e9 : Nat) (S : aS) (fb fU fB fH : Nat → Int32) (fo : Nat → Int64) (h4 : x4 = nI (5 * t)) (hI : INV nx ek en ed kb fb fU fB fH bs u e9 S) (H : Heap) (locs : List Loc) (ls : Array Slot) (hP : va_P (dC, dI) vwCl [(h0, .inr (0, [.ref qb, .long kb, .int nx, .int (nI u), .int ek, .int en])), (qb, .inl (cB, 64, .inl fb)), (a1, .inr (1, [.ref q1, .ref q2, .ref q3, .int nx, .int (nI u), .int ed, .int th, .int ek])), (q1, .inl (cU, 64, .inl fU)), (q2, .inl (cV, 64, .inl fB)), (q3, .inl (cZ, 64, .inl fH)), (qo, .inl (cO, 1, .inr (.inl fo)))] H) (hD : va_D (fun q : Nat => s.heap.size ≤ q) [(h0, .inr (0, [.ref qb, .long kb, .int nx, .int (nI u), .int ek, .int en])), (qb, .inl (cB, 64, .inl fb)), (a1, .inr (1, [.ref q1, .ref q2, .ref q3, .int nx, .int (nI u), .int ed, .int th, .int ek])), (q1, .inl (cU, 64, .inl fU)), (q2, .inl (cV, 64, .inl fB)), (q3, .inl (cZ, 64, .inl fH)), (qo, .inl (cO, 1, .inr (.inl fo)))]) (hS : va_S (fun q : Nat => s.heap.size ≤ q) s.heap H locs) (hl : lv_has ls 7 [(4, .int x4), (0, .ref b), (1, .ref h0), (2, .ref a1), (3, .ref qo)]) : W p l e room_1 s m #[Value.ref b] below meth c H locs (7 + t) (271 + 6 * t) (lw_Z below #[Value.ref b] s) (F0 m 80 ls []) := by
  obtain ⟨hx, hb, hr, hml, hown0, hts, hX, hbl, hlocks, hgv⟩ := C0
  have hown : s.vm.findClass RL = some m.cls := hown0
  have hA : ∀ q : Nat, s.heap.size ≤ q → (fun q : Nat => s.heap.size ≤ q) q := fun _ h => h
  have hbA : ¬ (fun q : Nat => s.heap.size ≤ q) b := Nat.not_le.mpr hbl
  have hts1 : ∀ w ∈ wsL_law, w.before #[Value.ref b] s = true := fun w h => hts w (wsL_law_in w h)
  have hts2 : ∀ w ∈ wsL_m, w.before #[Value.ref b] s = true := fun w h => hts w (wsL_m_in w h)
  refine lv_aload_n hx hb dL_law_80 rfl (lv_at hl 2 rfl) ?_
  refine lv_aload_n hx hb dL_law_81 rfl (lv_at hl 1 rfl) ?_
  refine lv_iload hx hb dL_law_82 (lv_at hl 0 rfl) ?_
  refine lv_iconst (v := 1) hx hb dL_law_84 (by decide) ?_
  refine lv_iadd hx hb dL_law_85 ?_
  refine va_sld hx hb hX hbl hbA hS (ld_in (k := 1) h4 (by omega) hL) dL_law_86 ?_
  have hPc := hP.sub (ws' := [(h0, .inr (0, [.ref qb, .long kb, .int nx, .int (nI u), .int ek, .int en])), (qb, .inl (cB, 64, .inl fb))]) [0, 1] rfl
  have hDc := hD.sub (ws' := [(h0, .inr (0, [.ref qb, .long kb, .int nx, .int (nI u), .int ek, .int en])), (qb, .inl (cB, 64, .inl fb))]) [0, 1] (by decide) rfl
  have hKc := hK.sub (tys' := [(cB, .byte)]) [0] rfl
  have hFc := va_free (wc := [(h0, .inr (0, [.ref qb, .long kb, .int nx, .int (nI u), .int ek, .int en])), (qb, .inl (cB, 64, .inl fb))]) hD hS hA [0, 1] rfl
  refine va_callv (va_runV (As := [.int (xs (x4 + 1).toNatClampNeg)]) (rest := []) ⟨hx, hb, hml, hown, hts1⟩ (c_open l dC dI h0 qb cB kb nx (nI u) ek en fb (xs (x4 + 1).toNatClampNeg) H.size ) (cwV 1 hts1 gL_law_X0_open rfl rfl rfl (by decide +kernel) ⟨Nat.le_of_ble_eq_true rfl, Nat.le_of_ble_eq_true rfl⟩) ⟨fun a U g mk q => by obtain ⟨q0, q1, qP, qK, qD⟩ := q; exact ⟨q0, q1, qP, va_K.moved (u := U) (U := U.calling g mk a) (Vm.Alike.refl U.vm) qK, qD⟩, va_recv hKc hPc (ci := 0) (q0 := 0) rfl rfl, fun U hU hW => ⟨rfl, by rw [hU], by rw [hU]; exact hPc, va_K.moved hW.alike hKc, hDc.weaken (fun _ _ _ _ => trivial)⟩⟩ rfl rfl hl.1 rfl (lv_room (Nat.le_of_ble_eq_true rfl)) dL_law_87 ⟨(show _ ≤ 1034 by omega), (show _ ≤ 8481 by omega)⟩) hS (fun q _ h => hFc q h) hFc (fun uv tS H1 locs ht hvm hw_2 hB hz1 hk1 hS => ?_)
  obtain ⟨hP1, hK1, hD1⟩ := hB
  rw [ht] at hP1
  have hK1 := va_K.moved hvm.symm hK1
  try dsimp only at hw_2
  obtain ⟨hP, hD⟩ := va_join (wr := [(a1, .inr (1, [.ref q1, .ref q2, .ref q3, .int nx, .int (nI u), .int ed, .int th, .int ek])), (q1, .inl (cU, 64, .inl fU)), (q2, .inl (cV, 64, .inl fB)), (q3, .inl (cZ, 64, .inl fH)), (qo, .inl (cO, 1, .inr (.inl fo)))]) (w1 := [(h0, .inr (0, [.ref qb, .long 0, .int (xs (x4 + 1).toNatClampNeg), .int 0, .int 0, .int 0])), (qb, .inl (cB, 64, .inl fb))]) hP hD [0, 1] [2, 3, 4, 5, 6] rfl rfl (by decide) (by decide) hk1 hFc hP1 hD1
  generalize H1 = H at hP hS ⊢
  have hP := hP.sub (ws' := [(h0, .inr (0, [.ref qb, .long 0, .int (xs (x4 + 1).toNatClampNeg), .int 0, .int 0, .int 0])), (qb, .inl (cB, 64, .inl fb)), (a1, .inr (1, [.ref q1, .ref q2, .ref q3, .int nx, .int (nI u), .int ed, .int th, .int ek])), (q1, .inl (cU, 64, .inl fU)), (q2, .inl (cV, 64, .inl fB)), (q3, .inl (cZ, 64, .inl fH)), (qo, .inl (cO, 1, .inr (.inl fo)))]) [5, 6, 0, 1, 2, 3, 4] rfl
  have hD := hD.sub (ws' := [(h0, .inr (0, [.ref qb, .long 0, .int (xs (x4 + 1).toNatClampNeg), .int 0, .int 0, .int 0])), (qb, .inl (cB, 64, .inl fb)), (a1, .inr (1, [.ref q1, .ref q2, .ref q3, .int nx, .int (nI u), .int ed, .int th, .int ek])), (q1, .inl (cU, 64, .inl fU)), (q2, .inl (cV, 64, .inl fB)), (q3, .inl (cZ, 64, .inl fH)), (qo, .inl (cO, 1, .inr (.inl fo)))]) [5, 6, 0, 1, 2, 3, 4] (by decide) rfl
  refine lv_aload_n hx hb dL_law_90 rfl (lv_at hl 3 rfl) ?_
  refine lv_aload_n hx hb dL_law_91 rfl (lv_at hl 1 rfl) ?_
  refine lv_iload hx hb dL_law_92 (lv_at hl 0 rfl) ?_
  refine lv_iconst (v := 1) hx hb dL_law_94 (by decide) ?_
  refine lv_iadd hx hb dL_law_95 ?_
  refine va_sld hx hb hX hbl hbA hS (ld_in (k := 1) h4 (by omega) hL) dL_law_96 ?_
  have hPc := hP.sub (ws' := [(a1, .inr (1, [.ref q1, .ref q2, .ref q3, .int nx, .int (nI u), .int ed, .int th, .int ek])), (q1, .inl (cU, 64, .inl fU)), (q2, .inl (cV, 64, .inl fB)), (q3, .inl (cZ, 64, .inl fH))]) [2, 3, 4, 5] rfl
  have hDc := hD.sub (ws' := [(a1, .inr (1, [.ref q1, .ref q2, .ref q3, .int nx, .int (nI u), .int ed, .int th, .int ek])), (q1, .inl (cU, 64, .inl fU)), (q2, .inl (cV, 64, .inl fB)), (q3, .inl (cZ, 64, .inl fH))]) [2, 3, 4, 5] (by decide) rfl
  have hKc := hK.sub (tys' := [(cU, .int), (cV, .int), (cZ, .boolean)]) [1, 2, 3] rfl
  have hFc := va_free (wc := [(a1, .inr (1, [.ref q1, .ref q2, .ref q3, .int nx, .int (nI u), .int ed, .int th, .int ek])), (q1, .inl (cU, 64, .inl fU)), (q2, .inl (cV, 64, .inl fB)), (q3, .inl (cZ, 64, .inl fH))]) hD hS hA [2, 3, 4, 5] rfl
  refine va_callv (va_runV (As := [.int (xs (x4 + 1).toNatClampNeg)]) (rest := []) ⟨hx, hb, hml, hown, hts1⟩ (m_open l dC dI a1 q1 q2 q3 cU cV cZ nx (nI u) ed th ek fU fB fH (xs (x4 + 1).toNatClampNeg) H.size ) (cwV 1 hts1 gL_law_X1_open rfl rfl rfl (by decide +kernel) ⟨Nat.le_of_ble_eq_true rfl, Nat.le_of_ble_eq_true rfl⟩) ⟨fun a U g mk q => by obtain ⟨q0, q1, qP, qK, qD⟩ := q; exact ⟨q0, q1, qP, va_K.moved (u := U) (U := U.calling g mk a) (Vm.Alike.refl U.vm) qK, qD⟩, va_recv hKc hPc (ci := 1) (q0 := 0) rfl rfl, fun U hU hW => ⟨rfl, by rw [hU], by rw [hU]; exact hPc, va_K.moved hW.alike hKc, hDc.weaken (fun _ _ _ _ => trivial)⟩⟩ rfl rfl hl.1 rfl (lv_room (Nat.le_of_ble_eq_true rfl)) dL_law_97 ⟨(show _ ≤ 1034 by omega), (show _ ≤ 8481 by omega)⟩) hS (fun q _ h => hFc q h) hFc (fun uv tS H1 locs ht hvm hw9 hB hz1 hk1 hS => ?_)
  obtain ⟨g3, rfl⟩ : ∃ z, z = uv := ⟨_, rfl⟩
  obtain ⟨hP1, hK1, hD1⟩ := hB
  rw [ht] at hP1
  have hK1 := va_K.moved hvm.symm hK1
  try dsimp only at hw9
  obtain ⟨hP, hD⟩ := va_join (wr := [(h0, .inr (0, [.ref qb, .long 0, .int (xs (x4 + 1).toNatClampNeg), .int 0, .int 0, .int 0])), (qb, .inl (cB, 64, .inl fb)), (qo, .inl (cO, 1, .inr (.inl fo)))]) (w1 := [(a1, .inr (1, [.ref q1, .ref q2, .ref q3, .int (xs (x4 + 1).toNatClampNeg), .int 0, .int ed, .int 0, .int 0])), (q1, .inl (cU, 64, .inl fU)), (q2, .inl (cV, 64, .inl fB)), (q3, .inl (cZ, 64, .inl g3))]) hP hD [2, 3, 4, 5] [0, 1, 6] rfl rfl (by decide) (by decide) hk1 hFc hP1 hD1
  generalize H1 = H at hP hS ⊢
  have hP := hP.sub (ws' := [(h0, .inr (0, [.ref qb, .long 0, .int (xs (x4 + 1).toNatClampNeg), .int 0, .int 0, .int 0])), (qb, .inl (cB, 64, .inl fb)), (a1, .inr (1, [.ref q1, .ref q2, .ref q3, .int (xs (x4 + 1).toNatClampNeg), .int 0, .int ed, .int 0, .int 0])), (q1, .inl (cU, 64, .inl fU)), (q2, .inl (cV, 64, .inl fB)), (q3, .inl (cZ, 64, .inl g3)), (qo, .inl (cO, 1, .inr (.inl fo)))]) [0, 1, 3, 4, 5, 6, 2] rfl
  have hD := hD.sub (ws' := [(h0, .inr (0, [.ref qb, .long 0, .int (xs (x4 + 1).toNatClampNeg), .int 0, .int 0, .int 0])), (qb, .inl (cB, 64, .inl fb)), (a1, .inr (1, [.ref q1, .ref q2, .ref q3, .int (xs (x4 + 1).toNatClampNeg), .int 0, .int ed, .int 0, .int 0])), (q1, .inl (cU, 64, .inl fU)), (q2, .inl (cV, 64, .inl fB)), (q3, .inl (cZ, 64, .inl g3)), (qo, .inl (cO, 1, .inr (.inl fo)))]) [0, 1, 3, 4, 5, 6, 2] (by decide) rfl
  refine lv_goto (tgt := 418) hx hb dL_law_100 (by decide) ?_
  obtain ⟨x_4, ex_4⟩ : ∃ y : Int32, y = x4 + 5 := ⟨_, rfl⟩
  refine lv_iinc (v := x_4) (lv' := [(4, .int x_4), (0, .ref b), (1, .ref h0), (2, .ref a1), (3, .ref qo)]) hx hb dL_law_418 hl (k := 0) rfl (by rw [ex_4]; rfl) (by decide) rfl (fun ls hl => ?_)
  refine lv_goto (tgt := 23) hx hb dL_law_421 (by decide) ?_
  refine W.widen (k := 7 + (t + 1)) (n := 271 + 6 * (t + 1)) (by omega) (by omega) ?_
  exact ih x_4 0 (xs (x4 + 1).toNatClampNeg) 0 0 ed 0 (xs (x4 + 1).toNatClampNeg) 0 0 (fun _ => false, fun _ => 0) fb fU fB g3 fo (x4_up h4 ex_4) (g_new.mpr hw9) H _ ls hP hD hS (lv_sub hl [0, 1, 2, 3, 4] rfl)
end
section
set_option maxHeartbeats 4000000 in
set_option maxRecDepth 100000 in
theorem law_1 {p : Program} {l : Launch} {e : Env} {s : State} {m : MethodId} {below : List Frame} {meth : Method} {c : Code} {dC : Nat → ClassId} {dI : Nat → Nat → Nat} {b h0 qb a1 q1 q2 q3 qo : Nat} {cB cU cV cZ cO : ClassId} {L : Nat} {xs : Nat → Int32} (hst : l.stackTraces = false) (C0 : lw_At p s m meth c b L xs) (hZ : thr (fun q : Nat => s.heap.size ≤ q) s s.heap) (hK : va_K (dC, dI) vwCl [(cB, .byte), (cU, .int), (cV, .int), (cZ, .boolean), (cO, .long)] s) {t : Nat} (ht5 : t < 512) (hLt : 5 * t + 5 ≤ L) (hL : L ≤ 2560) (ih : LawAt p l e s m below meth c dC dI b h0 qb a1 q1 q2 q3 qo cB cU cV cZ cO (t + 1)) (x4 : Int32) (kb : Int64) (nx ek en ed th bs : Int32) (u e9 : Nat) (S : aS) (fb fU fB fH : Nat → Int32) (fo : Nat → Int64) (h4 : x4 = nI (5 * t)) (hI : INV nx ek en ed kb fb fU fB fH bs u e9 S) (H : Heap) (locs : List Loc) (ls : Array Slot) (hP : va_P (dC, dI) vwCl [(h0, .inr (0, [.ref qb, .long kb, .int nx, .int (nI u), .int ek, .int en])), (qb, .inl (cB, 64, .inl fb)), (a1, .inr (1, [.ref q1, .ref q2, .ref q3, .int nx, .int (nI u), .int ed, .int th, .int ek])), (q1, .inl (cU, 64, .inl fU)), (q2, .inl (cV, 64, .inl fB)), (q3, .inl (cZ, 64, .inl fH)), (qo, .inl (cO, 1, .inr (.inl fo)))] H) (hD : va_D (fun q : Nat => s.heap.size ≤ q) [(h0, .inr (0, [.ref qb, .long kb, .int nx, .int (nI u), .int ek, .int en])), (qb, .inl (cB, 64, .inl fb)), (a1, .inr (1, [.ref q1, .ref q2, .ref q3, .int nx, .int (nI u), .int ed, .int th, .int ek])), (q1, .inl (cU, 64, .inl fU)), (q2, .inl (cV, 64, .inl fB)), (q3, .inl (cZ, 64, .inl fH)), (qo, .inl (cO, 1, .inr (.inl fo)))]) (hS : va_S (fun q : Nat => s.heap.size ≤ q) s.heap H locs) (hl : lv_has ls 7 [(4, .int x4), (0, .ref b), (1, .ref h0), (2, .ref a1), (3, .ref qo)]) : W p l e room_1 s m #[Value.ref b] below meth c H locs (7 + t) (271 + 6 * t) (lw_Z below #[Value.ref b] s) (F0 m 103 ls []) := by
  obtain ⟨hx, hb, hr, hml, hown0, hts, hX, hbl, hlocks, hgv⟩ := C0
  have hown : s.vm.findClass RL = some m.cls := hown0
  have hA : ∀ q : Nat, s.heap.size ≤ q → (fun q : Nat => s.heap.size ≤ q) q := fun _ h => h
  have hbA : ¬ (fun q : Nat => s.heap.size ≤ q) b := Nat.not_le.mpr hbl
  have hts1 : ∀ w ∈ wsL_law, w.before #[Value.ref b] s = true := fun w h => hts w (wsL_law_in w h)
  have hts2 : ∀ w ∈ wsL_m, w.before #[Value.ref b] s = true := fun w h => hts w (wsL_m_in w h)
  refine lv_aload_n hx hb dL_law_103 rfl (lv_at hl 2 rfl) ?_
  refine lv_aload_n hx hb dL_law_104 rfl (lv_at hl 1 rfl) ?_
  refine lv_iload hx hb dL_law_105 (lv_at hl 0 rfl) ?_
  refine lv_iconst (v := 1) hx hb dL_law_107 (by decide) ?_
  refine lv_iadd hx hb dL_law_108 ?_
  refine va_sld hx hb hX hbl hbA hS (ld_in (k := 1) h4 (by omega) hL) dL_law_109 ?_
  refine lv_aload_n hx hb dL_law_110 rfl (lv_at hl 1 rfl) ?_
  refine lv_iload hx hb dL_law_111 (lv_at hl 0 rfl) ?_
  refine lv_iconst (v := 2) hx hb dL_law_113 (by decide) ?_
  refine lv_iadd hx hb dL_law_114 ?_
  refine va_sld hx hb hX hbl hbA hS (ld_in (k := 2) h4 (by omega) hL) dL_law_115 ?_
  refine lv_i2l (v := (xs (x4 + 2).toNatClampNeg).toInt64) hx hb dL_law_116 rfl ?_
  refine lv_bipush (v := 32) hx hb dL_law_117 (by decide) ?_
  refine lv_lshl (v := ((xs (x4 + 2).toNatClampNeg).toInt64) <<< ((32 : Int32).toInt64 &&& 63)) hx hb dL_law_119 rfl ?_
  refine lv_aload_n hx hb dL_law_120 rfl (lv_at hl 1 rfl) ?_
  refine lv_iload hx hb dL_law_121 (lv_at hl 0 rfl) ?_
  refine lv_iconst (v := 3) hx hb dL_law_123 (by decide) ?_
  refine lv_iadd hx hb dL_law_124 ?_
  refine va_sld hx hb hX hbl hbA hS (ld_in (k := 3) h4 (by omega) hL) dL_law_125 ?_
  refine lv_i2l (v := (xs (x4 + 3).toNatClampNeg).toInt64) hx hb dL_law_126 rfl ?_
  refine W.ldc2 (v := 4294967295) hx hb hown (hts (.constantLong RL 34 4294967295) (by decide +kernel)) rfl dL_law_127 ?_
  refine W.eq (g2 := F0 m 130 ls [.long 4294967295, .long ((xs (x4 + 3).toNatClampNeg).toInt64), .long (((xs (x4 + 2).toNatClampNeg).toInt64) <<< ((32 : Int32).toInt64 &&& 63)), .int (xs (x4 + 1).toNatClampNeg), .ref h0]) rfl ?_
  refine lv_land hx hb dL_law_130 ?_
  refine lv_lor hx hb dL_law_131 ?_
  refine lv_aload_n hx hb dL_law_132 rfl (lv_at hl 1 rfl) ?_
  refine lv_iload hx hb dL_law_133 (lv_at hl 0 rfl) ?_
  refine lv_iconst (v := 4) hx hb dL_law_135 (by decide) ?_
  refine lv_iadd hx hb dL_law_136 ?_
  refine va_sld hx hb hX hbl hbA hS (ld_in (k := 4) h4 (by omega) hL) dL_law_137 ?_
  refine lv_aload_n hx hb dL_law_138 rfl (lv_at hl 4 rfl) ?_
  have hPc := hP.sub (ws' := [(h0, .inr (0, [.ref qb, .long kb, .int nx, .int (nI u), .int ek, .int en])), (qb, .inl (cB, 64, .inl fb)), (qo, .inl (cO, 1, .inr (.inl fo)))]) [0, 1, 6] rfl
  have hDc := hD.sub (ws' := [(h0, .inr (0, [.ref qb, .long kb, .int nx, .int (nI u), .int ek, .int en])), (qb, .inl (cB, 64, .inl fb)), (qo, .inl (cO, 1, .inr (.inl fo)))]) [0, 1, 6] (by decide) rfl
  have hKc := hK.sub (tys' := [(cB, .byte), (cO, .long)]) [0, 4] rfl
  have hFc := va_free (wc := [(h0, .inr (0, [.ref qb, .long kb, .int nx, .int (nI u), .int ek, .int en])), (qb, .inl (cB, 64, .inl fb)), (qo, .inl (cO, 1, .inr (.inl fo)))]) hD hS hA [0, 1, 6] rfl
  refine va_calli (vx_runSW (As := [.ref h0, .int (xs (x4 + 1).toNatClampNeg), .long ((((xs (x4 + 2).toNatClampNeg).toInt64) <<< ((32 : Int32).toInt64 &&& 63)) ||| (((xs (x4 + 3).toNatClampNeg).toInt64) &&& 4294967295)), .int (xs (x4 + 4).toNatClampNeg), .ref qo]) (rest := []) ⟨hx, hb, hml, hown, hts1⟩ (h_segment l hst dC dI h0 qb cB kb nx (nI u) ek en fb qo cO fo (xs (x4 + 1).toNatClampNeg) (((xs (x4 + 2).toNatClampNeg).toInt64 <<< ((32 : Int32).toInt64 &&& 63)) ||| ((xs (x4 + 3).toNatClampNeg).toInt64 &&& 4294967295)) (xs (x4 + 4).toNatClampNeg) H.size ) (vx_cwSW 5 hts1 gL_law_L_segment rfl rfl rfl (by decide +kernel) ⟨Nat.le_of_ble_eq_true rfl, Nat.le_of_ble_eq_true rfl⟩) ⟨fun a U g mk q => by obtain ⟨q0, q1, qP, qK, qD, qZ⟩ := q; exact ⟨q0, q1, qP, va_K.moved (u := U) (U := U.calling g mk a) (Vm.Alike.refl U.vm) qK, qD, thr_blind qZ⟩, fun U hU hW => ⟨rfl, by rw [hU], by rw [hU]; exact hPc, va_K.moved hW.alike hKc, hDc.weaken (fun _ _ _ _ => trivial), thr_call hZ hS hFc hU hW⟩⟩ rfl rfl hl.1 rfl (lv_room (Nat.le_of_ble_eq_true rfl)) dL_law_139 ⟨(show _ ≤ 1034 by omega), (show _ ≤ 8481 by omega)⟩) hS (fun q _ h => hFc q h) hFc (fun r1 uv tS H1 locs ht hvm hw1 hB hz1 hk1 hS => ?_)
  obtain ⟨k7, n7, u7, f7, o7⟩ := uv
  obtain ⟨hP1, hK1, hD1⟩ := hB
  rw [ht] at hP1
  have hK1 := va_K.moved hvm.symm hK1
  try dsimp only at hw1
  obtain ⟨hP, hD⟩ := va_join (wr := [(a1, .inr (1, [.ref q1, .ref q2, .ref q3, .int nx, .int (nI u), .int ed, .int th, .int ek])), (q1, .inl (cU, 64, .inl fU)), (q2, .inl (cV, 64, .inl fB)), (q3, .inl (cZ, 64, .inl fH))]) (w1 := [(h0, .inr (0, [.ref qb, .long k7, .int n7, .int u7, .int ek, .int en])), (qb, .inl (cB, 64, .inl f7)), (qo, .inl (cO, 1, .inr (.inl o7)))]) hP hD [0, 1, 6] [2, 3, 4, 5] rfl rfl (by decide) (by decide) hk1 hFc hP1 hD1
  generalize H1 = H at hP hS ⊢
  have hP := hP.sub (ws' := [(h0, .inr (0, [.ref qb, .long k7, .int n7, .int u7, .int ek, .int en])), (qb, .inl (cB, 64, .inl f7)), (a1, .inr (1, [.ref q1, .ref q2, .ref q3, .int nx, .int (nI u), .int ed, .int th, .int ek])), (q1, .inl (cU, 64, .inl fU)), (q2, .inl (cV, 64, .inl fB)), (q3, .inl (cZ, 64, .inl fH)), (qo, .inl (cO, 1, .inr (.inl o7)))]) [4, 5, 0, 1, 2, 3, 6] rfl
  have hD := hD.sub (ws' := [(h0, .inr (0, [.ref qb, .long k7, .int n7, .int u7, .int ek, .int en])), (qb, .inl (cB, 64, .inl f7)), (a1, .inr (1, [.ref q1, .ref q2, .ref q3, .int nx, .int (nI u), .int ed, .int th, .int ek])), (q1, .inl (cU, 64, .inl fU)), (q2, .inl (cV, 64, .inl fB)), (q3, .inl (cZ, 64, .inl fH)), (qo, .inl (cO, 1, .inr (.inl o7)))]) [4, 5, 0, 1, 2, 3, 6] (by decide) rfl
  refine lv_istore (lv' := [(5, .int r1), (4, .int x4), (0, .ref b), (1, .ref h0), (2, .ref a1), (3, .ref qo)]) hx hb dL_law_142 hl (by decide) rfl (fun ls hl => ?_)
  refine lv_aload_n hx hb dL_law_144 rfl (lv_at hl 4 rfl) ?_
  refine lv_aload_n hx hb dL_law_145 rfl (lv_at hl 2 rfl) ?_
  refine lv_iload hx hb dL_law_146 (lv_at hl 1 rfl) ?_
  refine lv_iconst (v := 1) hx hb dL_law_148 (by decide) ?_
  refine lv_iadd hx hb dL_law_149 ?_
  refine va_sld hx hb hX hbl hbA hS (ld_in (k := 1) h4 (by omega) hL) dL_law_150 ?_
  refine lv_aload_n hx hb dL_law_151 rfl (lv_at hl 2 rfl) ?_
  refine lv_iload hx hb dL_law_152 (lv_at hl 1 rfl) ?_
  refine lv_iconst (v := 2) hx hb dL_law_154 (by decide) ?_
  refine lv_iadd hx hb dL_law_155 ?_
  refine va_sld hx hb hX hbl hbA hS (ld_in (k := 2) h4 (by omega) hL) dL_law_156 ?_
  refine lv_i2l (v := (xs (x4 + 2).toNatClampNeg).toInt64) hx hb dL_law_157 rfl ?_
  refine lv_bipush (v := 32) hx hb dL_law_158 (by decide) ?_
  refine lv_lshl (v := ((xs (x4 + 2).toNatClampNeg).toInt64) <<< ((32 : Int32).toInt64 &&& 63)) hx hb dL_law_160 rfl ?_
  refine lv_aload_n hx hb dL_law_161 rfl (lv_at hl 2 rfl) ?_
  refine lv_iload hx hb dL_law_162 (lv_at hl 1 rfl) ?_
  refine lv_iconst (v := 3) hx hb dL_law_164 (by decide) ?_
  refine lv_iadd hx hb dL_law_165 ?_
  refine va_sld hx hb hX hbl hbA hS (ld_in (k := 3) h4 (by omega) hL) dL_law_166 ?_
  refine lv_i2l (v := (xs (x4 + 3).toNatClampNeg).toInt64) hx hb dL_law_167 rfl ?_
  refine W.ldc2 (v := 4294967295) hx hb hown (hts (.constantLong RL 34 4294967295) (by decide +kernel)) rfl dL_law_168 ?_
  refine W.eq (g2 := F0 m 171 ls [.long 4294967295, .long ((xs (x4 + 3).toNatClampNeg).toInt64), .long (((xs (x4 + 2).toNatClampNeg).toInt64) <<< ((32 : Int32).toInt64 &&& 63)), .int (xs (x4 + 1).toNatClampNeg), .ref a1]) rfl ?_
  refine lv_land hx hb dL_law_171 ?_
  refine lv_lor hx hb dL_law_172 ?_
  refine lv_aload_n hx hb dL_law_173 rfl (lv_at hl 2 rfl) ?_
  refine lv_iload hx hb dL_law_174 (lv_at hl 1 rfl) ?_
  refine lv_iconst (v := 4) hx hb dL_law_176 (by decide) ?_
  refine lv_iadd hx hb dL_law_177 ?_
  refine va_sld hx hb hX hbl hbA hS (ld_in (k := 4) h4 (by omega) hL) dL_law_178 ?_
  have hPc := hP.sub (ws' := [(a1, .inr (1, [.ref q1, .ref q2, .ref q3, .int nx, .int (nI u), .int ed, .int th, .int ek])), (q1, .inl (cU, 64, .inl fU)), (q2, .inl (cV, 64, .inl fB)), (q3, .inl (cZ, 64, .inl fH))]) [2, 3, 4, 5] rfl
  have hDc := hD.sub (ws' := [(a1, .inr (1, [.ref q1, .ref q2, .ref q3, .int nx, .int (nI u), .int ed, .int th, .int ek])), (q1, .inl (cU, 64, .inl fU)), (q2, .inl (cV, 64, .inl fB)), (q3, .inl (cZ, 64, .inl fH))]) [2, 3, 4, 5] (by decide) rfl
  have hKc := hK.sub (tys' := [(cU, .int), (cV, .int), (cZ, .boolean)]) [1, 2, 3] rfl
  have hFc := va_free (wc := [(a1, .inr (1, [.ref q1, .ref q2, .ref q3, .int nx, .int (nI u), .int ed, .int th, .int ek])), (q1, .inl (cU, 64, .inl fU)), (q2, .inl (cV, 64, .inl fB)), (q3, .inl (cZ, 64, .inl fH))]) hD hS hA [2, 3, 4, 5] rfl
  refine va_calli (va_runV (As := [.int (xs (x4 + 1).toNatClampNeg), .long ((((xs (x4 + 2).toNatClampNeg).toInt64) <<< ((32 : Int32).toInt64 &&& 63)) ||| (((xs (x4 + 3).toNatClampNeg).toInt64) &&& 4294967295)), .int (xs (x4 + 4).toNatClampNeg)]) (rest := []) ⟨hx, hb, hml, hown, hts2⟩ (m_segment l dC dI a1 q1 q2 q3 cU cV cZ nx (nI u) ed th ek fU fB fH bs u e9 S (xs (x4 + 1).toNatClampNeg) (((xs (x4 + 2).toNatClampNeg).toInt64 <<< ((32 : Int32).toInt64 &&& 63)) ||| ((xs (x4 + 3).toNatClampNeg).toInt64 &&& 4294967295)) (xs (x4 + 4).toNatClampNeg) H.size hI.2.1 hI.2.2.1 hI.2.2.2.2.2.2 hI.1 rfl (inv_ed hI)) (cwV 3 hts2 gL_m_X1_segment rfl rfl rfl (by decide +kernel) ⟨Nat.le_of_ble_eq_true rfl, Nat.le_of_ble_eq_true rfl⟩) ⟨fun a U g mk q => by obtain ⟨q0, q1, qP, qK, qD⟩ := q; exact ⟨q0, q1, qP, va_K.moved (u := U) (U := U.calling g mk a) (Vm.Alike.refl U.vm) qK, qD⟩, va_recv hKc hPc (ci := 1) (q0 := 0) rfl rfl, fun U hU hW => ⟨rfl, by rw [hU], by rw [hU]; exact hPc, va_K.moved hW.alike hKc, hDc.weaken (fun _ _ _ _ => trivial)⟩⟩ rfl rfl hl.1 rfl (lv_room (Nat.le_of_ble_eq_true rfl)) dL_law_179 ⟨(show _ ≤ 1034 by omega), (show _ ≤ 8481 by omega)⟩) hS (fun q _ h => hFc q h) hFc (fun r2 uv tS H1 locs ht hvm hw2 hB hz1 hk1 hS => ?_)
  obtain ⟨n8, m8, t8, g1, g2, g3⟩ := uv
  obtain ⟨hP1, hK1, hD1⟩ := hB
  rw [ht] at hP1
  have hK1 := va_K.moved hvm.symm hK1
  try dsimp only at hw2
  obtain ⟨hP, hD⟩ := va_join (wr := [(h0, .inr (0, [.ref qb, .long k7, .int n7, .int u7, .int ek, .int en])), (qb, .inl (cB, 64, .inl f7)), (qo, .inl (cO, 1, .inr (.inl o7)))]) (w1 := [(a1, .inr (1, [.ref q1, .ref q2, .ref q3, .int n8, .int m8, .int ed, .int t8, .int ek])), (q1, .inl (cU, 64, .inl g1)), (q2, .inl (cV, 64, .inl g2)), (q3, .inl (cZ, 64, .inl g3))]) hP hD [2, 3, 4, 5] [0, 1, 6] rfl rfl (by decide) (by decide) hk1 hFc hP1 hD1
  generalize H1 = H at hP hS ⊢
  have hP := hP.sub (ws' := [(h0, .inr (0, [.ref qb, .long k7, .int n7, .int u7, .int ek, .int en])), (qb, .inl (cB, 64, .inl f7)), (a1, .inr (1, [.ref q1, .ref q2, .ref q3, .int n8, .int m8, .int ed, .int t8, .int ek])), (q1, .inl (cU, 64, .inl g1)), (q2, .inl (cV, 64, .inl g2)), (q3, .inl (cZ, 64, .inl g3)), (qo, .inl (cO, 1, .inr (.inl o7)))]) [0, 1, 3, 4, 5, 6, 2] rfl
  have hD := hD.sub (ws' := [(h0, .inr (0, [.ref qb, .long k7, .int n7, .int u7, .int ek, .int en])), (qb, .inl (cB, 64, .inl f7)), (a1, .inr (1, [.ref q1, .ref q2, .ref q3, .int n8, .int m8, .int ed, .int t8, .int ek])), (q1, .inl (cU, 64, .inl g1)), (q2, .inl (cV, 64, .inl g2)), (q3, .inl (cZ, 64, .inl g3)), (qo, .inl (cO, 1, .inr (.inl o7)))]) [0, 1, 3, 4, 5, 6, 2] (by decide) rfl
  rcases hw1 with ⟨w1, w2, w3, w4, w5, w6⟩ | ⟨w1, r9, w2, i, j, k9, w3, w4, w5, w6, w7, w8, w9, wa, wb, wc⟩
  · rcases hw2 with ⟨v1, v2, v3, v4, v5, v6, v7⟩ | ⟨i2, u', v1, v2, v3, v4, v5, v6, v7, v8, v9, va⟩
    · have w1 := w1.symm
      subst w1
      have w3 := w3.symm
      subst w3
      have w4 := w4.symm
      subst w4
      have w5 := w5.symm
      subst w5
      have w6 := w6.symm
      subst w6
      have v2 := v2.symm
      subst v2
      have v3 := v3.symm
      subst v3
      have v4 := v4.symm
      subst v4
      have v5 := v5.symm
      subst v5
      have v6 := v6.symm
      subst v6
      have v7 := v7.symm
      subst v7
      refine lv_istore (lv' := [(6, .int r2), (5, .int 1), (4, .int x4), (0, .ref b), (1, .ref h0), (2, .ref a1), (3, .ref qo)]) hx hb dL_law_182 hl (by decide) rfl (fun ls hl => ?_)
      refine lv_aload_n hx hb dL_law_184 rfl (lv_at hl 5 rfl) ?_
      have hPc := hP.sub (ws' := [(a1, .inr (1, [.ref q1, .ref q2, .ref q3, .int nx, .int (nI u), .int ed, .int 1, .int ek])), (q1, .inl (cU, 64, .inl fU)), (q2, .inl (cV, 64, .inl fB)), (q3, .inl (cZ, 64, .inl fH))]) [2, 3, 4, 5] rfl
      have hDc := hD.sub (ws' := [(a1, .inr (1, [.ref q1, .ref q2, .ref q3, .int nx, .int (nI u), .int ed, .int 1, .int ek])), (q1, .inl (cU, 64, .inl fU)), (q2, .inl (cV, 64, .inl fB)), (q3, .inl (cZ, 64, .inl fH))]) [2, 3, 4, 5] (by decide) rfl
      have hKc := hK.sub (tys' := [(cU, .int), (cV, .int), (cZ, .boolean)]) [1, 2, 3] rfl
      have hFc := va_free (wc := [(a1, .inr (1, [.ref q1, .ref q2, .ref q3, .int nx, .int (nI u), .int ed, .int 1, .int ek])), (q1, .inl (cU, 64, .inl fU)), (q2, .inl (cV, 64, .inl fB)), (q3, .inl (cZ, 64, .inl fH))]) hD hS hA [2, 3, 4, 5] rfl
      refine va_calli (va_runV (As := []) (rest := []) ⟨hx, hb, hml, hown, hts1⟩ (m_thrown l dC dI a1 q1 q2 q3 cU cV cZ nx (nI u) ed 1 ek fU fB fH H.size ) (cwV 0 hts1 gL_law_X1_thrown rfl rfl rfl (by decide +kernel) ⟨Nat.le_of_ble_eq_true rfl, Nat.le_of_ble_eq_true rfl⟩) ⟨fun a U g mk q => by obtain ⟨q0, q1, qP, qK, qD⟩ := q; exact ⟨q0, q1, qP, va_K.moved (u := U) (U := U.calling g mk a) (Vm.Alike.refl U.vm) qK, qD⟩, va_recv hKc hPc (ci := 1) (q0 := 0) rfl rfl, fun U hU hW => ⟨rfl, by rw [hU], by rw [hU]; exact hPc, va_K.moved hW.alike hKc, hDc.weaken (fun _ _ _ _ => trivial)⟩⟩ rfl rfl hl.1 rfl (lv_room (Nat.le_of_ble_eq_true rfl)) dL_law_185 ⟨(show _ ≤ 1034 by omega), (show _ ≤ 8481 by omega)⟩) hS (fun q _ h => hFc q h) hFc (fun r_1 uv tS H1 locs ht hvm hw_2 hB hz1 hk1 hS => ?_)
      obtain ⟨hP1, hK1, hD1⟩ := hB
      rw [ht] at hP1
      have hK1 := va_K.moved hvm.symm hK1
      try dsimp only at hw_2
      obtain ⟨hP, hD⟩ := va_join (wr := [(h0, .inr (0, [.ref qb, .long kb, .int nx, .int (nI u), .int ek, .int en])), (qb, .inl (cB, 64, .inl fb)), (qo, .inl (cO, 1, .inr (.inl o7)))]) (w1 := [(a1, .inr (1, [.ref q1, .ref q2, .ref q3, .int nx, .int (nI u), .int ed, .int 1, .int ek])), (q1, .inl (cU, 64, .inl fU)), (q2, .inl (cV, 64, .inl fB)), (q3, .inl (cZ, 64, .inl fH))]) hP hD [2, 3, 4, 5] [0, 1, 6] rfl rfl (by decide) (by decide) hk1 hFc hP1 hD1
      generalize H1 = H at hP hS ⊢
      have hP := hP.sub (ws' := [(h0, .inr (0, [.ref qb, .long kb, .int nx, .int (nI u), .int ek, .int en])), (qb, .inl (cB, 64, .inl fb)), (a1, .inr (1, [.ref q1, .ref q2, .ref q3, .int nx, .int (nI u), .int ed, .int 1, .int ek])), (q1, .inl (cU, 64, .inl fU)), (q2, .inl (cV, 64, .inl fB)), (q3, .inl (cZ, 64, .inl fH)), (qo, .inl (cO, 1, .inr (.inl o7)))]) [0, 1, 3, 4, 5, 6, 2] rfl
      have hD := hD.sub (ws' := [(h0, .inr (0, [.ref qb, .long kb, .int nx, .int (nI u), .int ek, .int en])), (qb, .inl (cB, 64, .inl fb)), (a1, .inr (1, [.ref q1, .ref q2, .ref q3, .int nx, .int (nI u), .int ed, .int 1, .int ek])), (q1, .inl (cU, 64, .inl fU)), (q2, .inl (cV, 64, .inl fB)), (q3, .inl (cZ, 64, .inl fH)), (qo, .inl (cO, 1, .inr (.inl o7)))]) [0, 1, 3, 4, 5, 6, 2] (by decide) rfl
      subst hw_2
      refine lv_iload hx hb dL_law_188 (lv_at hl 1 rfl) ?_
      refine lv_icmp_eq (tgt := 195) hx hb dL_law_190 (by decide) (fun c_190 => ?_) (fun c_190 => ?_)
      · refine lv_iload hx hb dL_law_195 (lv_at hl 1 rfl) ?_
        refine lv_if_ne (tgt := 212) hx hb dL_law_197 (by decide) (fun c_197 => ?_) (fun c_197 => ?_)
        · refine lv_goto (tgt := 418) hx hb dL_law_212 (by decide) ?_
          obtain ⟨x_3, ex_3⟩ : ∃ y : Int32, y = x4 + 5 := ⟨_, rfl⟩
          refine lv_iinc (v := x_3) (lv' := [(4, .int x_3), (6, .int r2), (5, .int 1), (0, .ref b), (1, .ref h0), (2, .ref a1), (3, .ref qo)]) hx hb dL_law_418 hl (k := 2) rfl (by rw [ex_3]; rfl) (by decide) rfl (fun ls hl => ?_)
          refine lv_goto (tgt := 23) hx hb dL_law_421 (by decide) ?_
          refine W.widen (k := 7 + (t + 1)) (n := 271 + 6 * (t + 1)) (by omega) (by omega) ?_
          exact ih x_3 kb nx ek en ed 1 bs u e9 S fb fU fB fH o7 (x4_up h4 ex_3) hI H _ ls hP hD hS (lv_sub hl [0, 3, 4, 5, 6] rfl)
        · exact absurd c_197 (by decide)
      · exact absurd rfl c_190
    · exact (nI_ne8 v1 v2 w2).elim
  · rcases hw2 with ⟨v1, v2, v3, v4, v5, v6, v7⟩ | ⟨i2, u', v1, v2, v3, v4, v5, v6, v7, v8, v9, va⟩
    · exact (nI_ne8 w3 w4 v1).elim
    · have ei : i = i2 := (nI_eq (by omega) (by omega)).mp (w4.symm.trans v2)
      subst ei
      obtain ⟨eu, hI8⟩ := g_seg hI w3 w5 w6 w7 w8 w9 v8 v9 va
      have en7 : bs + nI u' = n7 := by rw [wb, hI.1, eu, ← nI_add, Int32.add_assoc]
      have eu7 : nI u' = u7 := by rw [wc, eu, nI_add]
      subst en7
      subst eu7
      have w1 := w1.symm
      subst w1
      have v3 := v3.symm
      subst v3
      have v6 := v6.symm
      subst v6
      have v7 := v7.symm
      subst v7
      refine lv_istore (lv' := [(6, .int r2), (5, .int 0), (4, .int x4), (0, .ref b), (1, .ref h0), (2, .ref a1), (3, .ref qo)]) hx hb dL_law_182 hl (by decide) rfl (fun ls hl => ?_)
      refine lv_aload_n hx hb dL_law_184 rfl (lv_at hl 5 rfl) ?_
      have hPc := hP.sub (ws' := [(a1, .inr (1, [.ref q1, .ref q2, .ref q3, .int (bs + nI u'), .int (nI u'), .int ed, .int 0, .int ek])), (q1, .inl (cU, 64, .inl g1)), (q2, .inl (cV, 64, .inl g2)), (q3, .inl (cZ, 64, .inl g3))]) [2, 3, 4, 5] rfl
      have hDc := hD.sub (ws' := [(a1, .inr (1, [.ref q1, .ref q2, .ref q3, .int (bs + nI u'), .int (nI u'), .int ed, .int 0, .int ek])), (q1, .inl (cU, 64, .inl g1)), (q2, .inl (cV, 64, .inl g2)), (q3, .inl (cZ, 64, .inl g3))]) [2, 3, 4, 5] (by decide) rfl
      have hKc := hK.sub (tys' := [(cU, .int), (cV, .int), (cZ, .boolean)]) [1, 2, 3] rfl
      have hFc := va_free (wc := [(a1, .inr (1, [.ref q1, .ref q2, .ref q3, .int (bs + nI u'), .int (nI u'), .int ed, .int 0, .int ek])), (q1, .inl (cU, 64, .inl g1)), (q2, .inl (cV, 64, .inl g2)), (q3, .inl (cZ, 64, .inl g3))]) hD hS hA [2, 3, 4, 5] rfl
      refine va_calli (va_runV (As := []) (rest := []) ⟨hx, hb, hml, hown, hts1⟩ (m_thrown l dC dI a1 q1 q2 q3 cU cV cZ (bs + nI u') (nI u') ed 0 ek g1 g2 g3 H.size ) (cwV 0 hts1 gL_law_X1_thrown rfl rfl rfl (by decide +kernel) ⟨Nat.le_of_ble_eq_true rfl, Nat.le_of_ble_eq_true rfl⟩) ⟨fun a U g mk q => by obtain ⟨q0, q1, qP, qK, qD⟩ := q; exact ⟨q0, q1, qP, va_K.moved (u := U) (U := U.calling g mk a) (Vm.Alike.refl U.vm) qK, qD⟩, va_recv hKc hPc (ci := 1) (q0 := 0) rfl rfl, fun U hU hW => ⟨rfl, by rw [hU], by rw [hU]; exact hPc, va_K.moved hW.alike hKc, hDc.weaken (fun _ _ _ _ => trivial)⟩⟩ rfl rfl hl.1 rfl (lv_room (Nat.le_of_ble_eq_true rfl)) dL_law_185 ⟨(show _ ≤ 1034 by omega), (show _ ≤ 8481 by omega)⟩) hS (fun q _ h => hFc q h) hFc (fun r_4 uv tS H1 locs ht hvm hw_5 hB hz1 hk1 hS => ?_)
      obtain ⟨hP1, hK1, hD1⟩ := hB
      rw [ht] at hP1
      have hK1 := va_K.moved hvm.symm hK1
      try dsimp only at hw_5
      obtain ⟨hP, hD⟩ := va_join (wr := [(h0, .inr (0, [.ref qb, .long k7, .int (bs + nI u'), .int (nI u'), .int ek, .int en])), (qb, .inl (cB, 64, .inl f7)), (qo, .inl (cO, 1, .inr (.inl o7)))]) (w1 := [(a1, .inr (1, [.ref q1, .ref q2, .ref q3, .int (bs + nI u'), .int (nI u'), .int ed, .int 0, .int ek])), (q1, .inl (cU, 64, .inl g1)), (q2, .inl (cV, 64, .inl g2)), (q3, .inl (cZ, 64, .inl g3))]) hP hD [2, 3, 4, 5] [0, 1, 6] rfl rfl (by decide) (by decide) hk1 hFc hP1 hD1
      generalize H1 = H at hP hS ⊢
      have hP := hP.sub (ws' := [(h0, .inr (0, [.ref qb, .long k7, .int (bs + nI u'), .int (nI u'), .int ek, .int en])), (qb, .inl (cB, 64, .inl f7)), (a1, .inr (1, [.ref q1, .ref q2, .ref q3, .int (bs + nI u'), .int (nI u'), .int ed, .int 0, .int ek])), (q1, .inl (cU, 64, .inl g1)), (q2, .inl (cV, 64, .inl g2)), (q3, .inl (cZ, 64, .inl g3)), (qo, .inl (cO, 1, .inr (.inl o7)))]) [0, 1, 3, 4, 5, 6, 2] rfl
      have hD := hD.sub (ws' := [(h0, .inr (0, [.ref qb, .long k7, .int (bs + nI u'), .int (nI u'), .int ek, .int en])), (qb, .inl (cB, 64, .inl f7)), (a1, .inr (1, [.ref q1, .ref q2, .ref q3, .int (bs + nI u'), .int (nI u'), .int ed, .int 0, .int ek])), (q1, .inl (cU, 64, .inl g1)), (q2, .inl (cV, 64, .inl g2)), (q3, .inl (cZ, 64, .inl g3)), (qo, .inl (cO, 1, .inr (.inl o7)))]) [0, 1, 3, 4, 5, 6, 2] (by decide) rfl
      subst hw_5
      refine lv_iload hx hb dL_law_188 (lv_at hl 1 rfl) ?_
      refine lv_icmp_eq (tgt := 195) hx hb dL_law_190 (by decide) (fun c_190 => ?_) (fun c_190 => ?_)
      · refine lv_iload hx hb dL_law_195 (lv_at hl 1 rfl) ?_
        refine lv_if_ne (tgt := 212) hx hb dL_law_197 (by decide) (fun c_197 => ?_) (fun c_197 => ?_)
        · exact absurd rfl c_197
        · refine lv_aload_n hx hb dL_law_200 rfl (lv_at hl 6 rfl) ?_
          refine lv_iconst (v := 0) hx hb dL_law_201 (by decide) ?_
          refine va_lald hx hb hK hP 6 4 rfl rfl inb1_0 dL_law_202 ?_
          refine lv_iload hx hb dL_law_203 (lv_at hl 0 rfl) ?_
          refine lv_i2l (v := r2.toInt64) hx hb dL_law_205 rfl ?_
          refine W.lcmp hx hb dL_law_206 ?_
          refine lv_if_eq (tgt := 212) hx hb dL_law_207 (by decide) (fun c_207 => ?_) (fun c_207 => ?_)
          · refine lv_goto (tgt := 418) hx hb dL_law_212 (by decide) ?_
            obtain ⟨x_6, ex_6⟩ : ∃ y : Int32, y = x4 + 5 := ⟨_, rfl⟩
            refine lv_iinc (v := x_6) (lv' := [(4, .int x_6), (6, .int r2), (5, .int 0), (0, .ref b), (1, .ref h0), (2, .ref a1), (3, .ref qo)]) hx hb dL_law_418 hl (k := 2) rfl (by rw [ex_6]; rfl) (by decide) rfl (fun ls hl => ?_)
            refine lv_goto (tgt := 23) hx hb dL_law_421 (by decide) ?_
            refine W.widen (k := 7 + (t + 1)) (n := 271 + 6 * (t + 1)) (by omega) (by omega) ?_
            exact ih x_6 k7 (bs + nI u') ek en ed 0 bs u' e9 (a_sg bs ek e9 (xs (x4 + 1).toNatClampNeg) (((xs (x4 + 2).toNatClampNeg).toInt64 <<< ((32 : Int32).toInt64 &&& 63)) ||| ((xs (x4 + 3).toNatClampNeg).toInt64 &&& 4294967295)) i S) f7 g1 g2 g3 o7 (x4_up h4 ex_6) hI8 H _ ls hP hD hS (lv_sub hl [0, 3, 4, 5, 6] rfl)
          · exact absurd (lcmp_eq (by rw [cl_0, w2, wa, v5, eu, pk_sub (by omega), show u + j - u = j by omega])) c_207
      · exact absurd rfl c_190
end
section
set_option maxHeartbeats 4000000 in
set_option maxRecDepth 100000 in
theorem law_2 {p : Program} {l : Launch} {e : Env} {s : State} {m : MethodId} {below : List Frame} {meth : Method} {c : Code} {dC : Nat → ClassId} {dI : Nat → Nat → Nat} {b h0 qb a1 q1 q2 q3 qo : Nat} {cB cU cV cZ cO : ClassId} {L : Nat} {xs : Nat → Int32} (hst : l.stackTraces = false) (C0 : lw_At p s m meth c b L xs) (hZ : thr (fun q : Nat => s.heap.size ≤ q) s s.heap) (hK : va_K (dC, dI) vwCl [(cB, .byte), (cU, .int), (cV, .int), (cZ, .boolean), (cO, .long)] s) {t : Nat} (ht5 : t < 512) (hLt : 5 * t + 5 ≤ L) (hL : L ≤ 2560) (ih : LawAt p l e s m below meth c dC dI b h0 qb a1 q1 q2 q3 qo cB cU cV cZ cO (t + 1)) (x4 : Int32) (kb : Int64) (nx ek en ed th bs : Int32) (u e9 : Nat) (S : aS) (fb fU fB fH : Nat → Int32) (fo : Nat → Int64) (h4 : x4 = nI (5 * t)) (hI : INV nx ek en ed kb fb fU fB fH bs u e9 S) (H : Heap) (locs : List Loc) (ls : Array Slot) (hP : va_P (dC, dI) vwCl [(h0, .inr (0, [.ref qb, .long kb, .int nx, .int (nI u), .int ek, .int en])), (qb, .inl (cB, 64, .inl fb)), (a1, .inr (1, [.ref q1, .ref q2, .ref q3, .int nx, .int (nI u), .int ed, .int th, .int ek])), (q1, .inl (cU, 64, .inl fU)), (q2, .inl (cV, 64, .inl fB)), (q3, .inl (cZ, 64, .inl fH)), (qo, .inl (cO, 1, .inr (.inl fo)))] H) (hD : va_D (fun q : Nat => s.heap.size ≤ q) [(h0, .inr (0, [.ref qb, .long kb, .int nx, .int (nI u), .int ek, .int en])), (qb, .inl (cB, 64, .inl fb)), (a1, .inr (1, [.ref q1, .ref q2, .ref q3, .int nx, .int (nI u), .int ed, .int th, .int ek])), (q1, .inl (cU, 64, .inl fU)), (q2, .inl (cV, 64, .inl fB)), (q3, .inl (cZ, 64, .inl fH)), (qo, .inl (cO, 1, .inr (.inl fo)))]) (hS : va_S (fun q : Nat => s.heap.size ≤ q) s.heap H locs) (hl : lv_has ls 7 [(4, .int x4), (0, .ref b), (1, .ref h0), (2, .ref a1), (3, .ref qo)]) : W p l e room_1 s m #[Value.ref b] below meth c H locs (7 + t) (271 + 6 * t) (lw_Z below #[Value.ref b] s) (F0 m 215 ls []) := by
  obtain ⟨hx, hb, hr, hml, hown0, hts, hX, hbl, hlocks, hgv⟩ := C0
  have hown : s.vm.findClass RL = some m.cls := hown0
  have hA : ∀ q : Nat, s.heap.size ≤ q → (fun q : Nat => s.heap.size ≤ q) q := fun _ h => h
  have hbA : ¬ (fun q : Nat => s.heap.size ≤ q) b := Nat.not_le.mpr hbl
  have hts1 : ∀ w ∈ wsL_law, w.before #[Value.ref b] s = true := fun w h => hts w (wsL_law_in w h)
  have hts2 : ∀ w ∈ wsL_m, w.before #[Value.ref b] s = true := fun w h => hts w (wsL_m_in w h)
  refine lv_aload_n hx hb dL_law_215 rfl (lv_at hl 2 rfl) ?_
  refine lv_aload_n hx hb dL_law_216 rfl (lv_at hl 1 rfl) ?_
  refine lv_iload hx hb dL_law_217 (lv_at hl 0 rfl) ?_
  refine lv_iconst (v := 1) hx hb dL_law_219 (by decide) ?_
  refine lv_iadd hx hb dL_law_220 ?_
  refine va_sld hx hb hX hbl hbA hS (ld_in (k := 1) h4 (by omega) hL) dL_law_221 ?_
  have hPc := hP.sub (ws' := [(h0, .inr (0, [.ref qb, .long kb, .int nx, .int (nI u), .int ek, .int en])), (qb, .inl (cB, 64, .inl fb))]) [0, 1] rfl
  have hDc := hD.sub (ws' := [(h0, .inr (0, [.ref qb, .long kb, .int nx, .int (nI u), .int ek, .int en])), (qb, .inl (cB, 64, .inl fb))]) [0, 1] (by decide) rfl
  have hKc := hK.sub (tys' := [(cB, .byte)]) [0] rfl
  have hFc := va_free (wc := [(h0, .inr (0, [.ref qb, .long kb, .int nx, .int (nI u), .int ek, .int en])), (qb, .inl (cB, 64, .inl fb))]) hD hS hA [0, 1] rfl
  refine va_calli (va_runV (As := [.int (xs (x4 + 1).toNatClampNeg)]) (rest := []) ⟨hx, hb, hml, hown, hts1⟩ (c_end l dC dI h0 qb cB kb nx (nI u) ek en fb (xs (x4 + 1).toNatClampNeg) H.size ) (cwV 1 hts1 gL_law_X0_end rfl rfl rfl (by decide +kernel) ⟨Nat.le_of_ble_eq_true rfl, Nat.le_of_ble_eq_true rfl⟩) ⟨fun a U g mk q => by obtain ⟨q0, q1, qP, qK, qD⟩ := q; exact ⟨q0, q1, qP, va_K.moved (u := U) (U := U.calling g mk a) (Vm.Alike.refl U.vm) qK, qD⟩, va_recv hKc hPc (ci := 0) (q0 := 0) rfl rfl, fun U hU hW => ⟨rfl, by rw [hU], by rw [hU]; exact hPc, va_K.moved hW.alike hKc, hDc.weaken (fun _ _ _ _ => trivial)⟩⟩ rfl rfl hl.1 rfl (lv_room (Nat.le_of_ble_eq_true rfl)) dL_law_222 ⟨(show _ ≤ 1034 by omega), (show _ ≤ 8481 by omega)⟩) hS (fun q _ h => hFc q h) hFc (fun r1 uv tS H1 locs ht hvm hw1 hB hz1 hk1 hS => ?_)
  obtain ⟨k7, n7⟩ := uv
  obtain ⟨hP1, hK1, hD1⟩ := hB
  rw [ht] at hP1
  have hK1 := va_K.moved hvm.symm hK1
  try dsimp only at hw1
  obtain ⟨hP, hD⟩ := va_join (wr := [(a1, .inr (1, [.ref q1, .ref q2, .ref q3, .int nx, .int (nI u), .int ed, .int th, .int ek])), (q1, .inl (cU, 64, .inl fU)), (q2, .inl (cV, 64, .inl fB)), (q3, .inl (cZ, 64, .inl fH)), (qo, .inl (cO, 1, .inr (.inl fo)))]) (w1 := [(h0, .inr (0, [.ref qb, .long kb, .int nx, .int (nI u), .int k7, .int n7])), (qb, .inl (cB, 64, .inl fb))]) hP hD [0, 1] [2, 3, 4, 5, 6] rfl rfl (by decide) (by decide) hk1 hFc hP1 hD1
  generalize H1 = H at hP hS ⊢
  have hP := hP.sub (ws' := [(h0, .inr (0, [.ref qb, .long kb, .int nx, .int (nI u), .int k7, .int n7])), (qb, .inl (cB, 64, .inl fb)), (a1, .inr (1, [.ref q1, .ref q2, .ref q3, .int nx, .int (nI u), .int ed, .int th, .int ek])), (q1, .inl (cU, 64, .inl fU)), (q2, .inl (cV, 64, .inl fB)), (q3, .inl (cZ, 64, .inl fH)), (qo, .inl (cO, 1, .inr (.inl fo)))]) [5, 6, 0, 1, 2, 3, 4] rfl
  have hD := hD.sub (ws' := [(h0, .inr (0, [.ref qb, .long kb, .int nx, .int (nI u), .int k7, .int n7])), (qb, .inl (cB, 64, .inl fb)), (a1, .inr (1, [.ref q1, .ref q2, .ref q3, .int nx, .int (nI u), .int ed, .int th, .int ek])), (q1, .inl (cU, 64, .inl fU)), (q2, .inl (cV, 64, .inl fB)), (q3, .inl (cZ, 64, .inl fH)), (qo, .inl (cO, 1, .inr (.inl fo)))]) [5, 6, 0, 1, 2, 3, 4] (by decide) rfl
  refine lv_aload_n hx hb dL_law_225 rfl (lv_at hl 3 rfl) ?_
  refine lv_aload_n hx hb dL_law_226 rfl (lv_at hl 1 rfl) ?_
  refine lv_iload hx hb dL_law_227 (lv_at hl 0 rfl) ?_
  refine lv_iconst (v := 1) hx hb dL_law_229 (by decide) ?_
  refine lv_iadd hx hb dL_law_230 ?_
  refine va_sld hx hb hX hbl hbA hS (ld_in (k := 1) h4 (by omega) hL) dL_law_231 ?_
  have hPc := hP.sub (ws' := [(a1, .inr (1, [.ref q1, .ref q2, .ref q3, .int nx, .int (nI u), .int ed, .int th, .int ek])), (q1, .inl (cU, 64, .inl fU)), (q2, .inl (cV, 64, .inl fB)), (q3, .inl (cZ, 64, .inl fH))]) [2, 3, 4, 5] rfl
  have hDc := hD.sub (ws' := [(a1, .inr (1, [.ref q1, .ref q2, .ref q3, .int nx, .int (nI u), .int ed, .int th, .int ek])), (q1, .inl (cU, 64, .inl fU)), (q2, .inl (cV, 64, .inl fB)), (q3, .inl (cZ, 64, .inl fH))]) [2, 3, 4, 5] (by decide) rfl
  have hKc := hK.sub (tys' := [(cU, .int), (cV, .int), (cZ, .boolean)]) [1, 2, 3] rfl
  have hFc := va_free (wc := [(a1, .inr (1, [.ref q1, .ref q2, .ref q3, .int nx, .int (nI u), .int ed, .int th, .int ek])), (q1, .inl (cU, 64, .inl fU)), (q2, .inl (cV, 64, .inl fB)), (q3, .inl (cZ, 64, .inl fH))]) hD hS hA [2, 3, 4, 5] rfl
  refine va_calli (va_runV (As := [.int (xs (x4 + 1).toNatClampNeg)]) (rest := [.int r1]) ⟨hx, hb, hml, hown, hts2⟩ (m_end l dC dI a1 q1 q2 q3 cU cV cZ nx (nI u) ed th ek fU fB fH (xs (x4 + 1).toNatClampNeg) H.size ) (cwV 1 hts2 gL_m_X1_end rfl rfl rfl (by decide +kernel) ⟨Nat.le_of_ble_eq_true rfl, Nat.le_of_ble_eq_true rfl⟩) ⟨fun a U g mk q => by obtain ⟨q0, q1, qP, qK, qD⟩ := q; exact ⟨q0, q1, qP, va_K.moved (u := U) (U := U.calling g mk a) (Vm.Alike.refl U.vm) qK, qD⟩, va_recv hKc hPc (ci := 1) (q0 := 0) rfl rfl, fun U hU hW => ⟨rfl, by rw [hU], by rw [hU]; exact hPc, va_K.moved hW.alike hKc, hDc.weaken (fun _ _ _ _ => trivial)⟩⟩ rfl rfl hl.1 rfl (lv_room (Nat.le_of_ble_eq_true rfl)) dL_law_232 ⟨(show _ ≤ 1034 by omega), (show _ ≤ 8481 by omega)⟩) hS (fun q _ h => hFc q h) hFc (fun r2 uv tS H1 locs ht hvm hw2 hB hz1 hk1 hS => ?_)
  obtain ⟨n8, k8⟩ := uv
  obtain ⟨hP1, hK1, hD1⟩ := hB
  rw [ht] at hP1
  have hK1 := va_K.moved hvm.symm hK1
  try dsimp only at hw2
  obtain ⟨hP, hD⟩ := va_join (wr := [(h0, .inr (0, [.ref qb, .long kb, .int nx, .int (nI u), .int k7, .int n7])), (qb, .inl (cB, 64, .inl fb)), (qo, .inl (cO, 1, .inr (.inl fo)))]) (w1 := [(a1, .inr (1, [.ref q1, .ref q2, .ref q3, .int nx, .int (nI u), .int n8, .int 0, .int k8])), (q1, .inl (cU, 64, .inl fU)), (q2, .inl (cV, 64, .inl fB)), (q3, .inl (cZ, 64, .inl fH))]) hP hD [2, 3, 4, 5] [0, 1, 6] rfl rfl (by decide) (by decide) hk1 hFc hP1 hD1
  generalize H1 = H at hP hS ⊢
  have hP := hP.sub (ws' := [(h0, .inr (0, [.ref qb, .long kb, .int nx, .int (nI u), .int k7, .int n7])), (qb, .inl (cB, 64, .inl fb)), (a1, .inr (1, [.ref q1, .ref q2, .ref q3, .int nx, .int (nI u), .int n8, .int 0, .int k8])), (q1, .inl (cU, 64, .inl fU)), (q2, .inl (cV, 64, .inl fB)), (q3, .inl (cZ, 64, .inl fH)), (qo, .inl (cO, 1, .inr (.inl fo)))]) [0, 1, 3, 4, 5, 6, 2] rfl
  have hD := hD.sub (ws' := [(h0, .inr (0, [.ref qb, .long kb, .int nx, .int (nI u), .int k7, .int n7])), (qb, .inl (cB, 64, .inl fb)), (a1, .inr (1, [.ref q1, .ref q2, .ref q3, .int nx, .int (nI u), .int n8, .int 0, .int k8])), (q1, .inl (cU, 64, .inl fU)), (q2, .inl (cV, 64, .inl fB)), (q3, .inl (cZ, 64, .inl fH)), (qo, .inl (cO, 1, .inr (.inl fo)))]) [0, 1, 3, 4, 5, 6, 2] (by decide) rfl
  rcases hw1 with ⟨w1, w2, w3, w4⟩ | ⟨w1, w2, w3, w4⟩
  · rcases hw2 with ⟨v1, v2, v3, v4⟩ | ⟨v1, v2, v3, v4⟩
    · have w1 := w1.symm
      subst w1
      have w2 := w2.symm
      subst w2
      have w3 := w3.symm
      subst w3
      have v1 := v1.symm
      subst v1
      have v2 := v2.symm
      subst v2
      have v3 := v3.symm
      subst v3
      obtain ⟨e8, hI8⟩ := g_end hI v4
      refine lv_icmp_eq (tgt := 418) hx hb dL_law_235 (by decide) (fun c_235 => ?_) (fun c_235 => ?_)
      · obtain ⟨x_1, ex_1⟩ : ∃ y : Int32, y = x4 + 5 := ⟨_, rfl⟩
        refine lv_iinc (v := x_1) (lv' := [(4, .int x_1), (0, .ref b), (1, .ref h0), (2, .ref a1), (3, .ref qo)]) hx hb dL_law_418 hl (k := 0) rfl (by rw [ex_1]; rfl) (by decide) rfl (fun ls hl => ?_)
        refine lv_goto (tgt := 23) hx hb dL_law_421 (by decide) ?_
        refine W.widen (k := 7 + (t + 1)) (n := 271 + 6 * (t + 1)) (by omega) (by omega) ?_
        exact ih x_1 kb nx 1 (xs (x4 + 1).toNatClampNeg) (xs (x4 + 1).toNatClampNeg) 0 bs u e8 S fb fU fB fH fo (x4_up h4 ex_1) hI8 H _ ls hP hD hS (lv_sub hl [0, 1, 2, 3, 4] rfl)
      · exact absurd rfl c_235
    · exact absurd ((g_eok hI _).mp w4) v4
  · rcases hw2 with ⟨v1, v2, v3, v4⟩ | ⟨v1, v2, v3, v4⟩
    · exact absurd ((g_eok hI _).mpr v4) w4
    · have w1 := w1.symm
      subst w1
      have w2 := w2.symm
      subst w2
      have w3 := w3.symm
      subst w3
      have v1 := v1.symm
      subst v1
      have v2 := v2.symm
      subst v2
      have v3 := v3.symm
      subst v3
      refine lv_icmp_eq (tgt := 418) hx hb dL_law_235 (by decide) (fun c_235 => ?_) (fun c_235 => ?_)
      · obtain ⟨x_2, ex_2⟩ : ∃ y : Int32, y = x4 + 5 := ⟨_, rfl⟩
        refine lv_iinc (v := x_2) (lv' := [(4, .int x_2), (0, .ref b), (1, .ref h0), (2, .ref a1), (3, .ref qo)]) hx hb dL_law_418 hl (k := 0) rfl (by rw [ex_2]; rfl) (by decide) rfl (fun ls hl => ?_)
        refine lv_goto (tgt := 23) hx hb dL_law_421 (by decide) ?_
        refine W.widen (k := 7 + (t + 1)) (n := 271 + 6 * (t + 1)) (by omega) (by omega) ?_
        exact ih x_2 kb nx ek en ed 0 bs u e9 S fb fU fB fH fo (x4_up h4 ex_2) hI H _ ls hP hD hS (lv_sub hl [0, 1, 2, 3, 4] rfl)
      · exact absurd rfl c_235
end
section
set_option maxHeartbeats 4000000 in
set_option maxRecDepth 100000 in
theorem law_3 {p : Program} {l : Launch} {e : Env} {s : State} {m : MethodId} {below : List Frame} {meth : Method} {c : Code} {dC : Nat → ClassId} {dI : Nat → Nat → Nat} {b h0 qb a1 q1 q2 q3 qo : Nat} {cB cU cV cZ cO : ClassId} {L : Nat} {xs : Nat → Int32} (hst : l.stackTraces = false) (C0 : lw_At p s m meth c b L xs) (hZ : thr (fun q : Nat => s.heap.size ≤ q) s s.heap) (hK : va_K (dC, dI) vwCl [(cB, .byte), (cU, .int), (cV, .int), (cZ, .boolean), (cO, .long)] s) {t : Nat} (ht5 : t < 512) (hLt : 5 * t + 5 ≤ L) (hL : L ≤ 2560) (ih : LawAt p l e s m below meth c dC dI b h0 qb a1 q1 q2 q3 qo cB cU cV cZ cO (t + 1)) (x4 : Int32) (kb : Int64) (nx ek en ed th bs : Int32) (u e9 : Nat) (S : aS) (fb fU fB fH : Nat → Int32) (fo : Nat → Int64) (h4 : x4 = nI (5 * t)) (hI : INV nx ek en ed kb fb fU fB fH bs u e9 S) (H : Heap) (locs : List Loc) (ls : Array Slot) (hP : va_P (dC, dI) vwCl [(h0, .inr (0, [.ref qb, .long kb, .int nx, .int (nI u), .int ek, .int en])), (qb, .inl (cB, 64, .inl fb)), (a1, .inr (1, [.ref q1, .ref q2, .ref q3, .int nx, .int (nI u), .int ed, .int th, .int ek])), (q1, .inl (cU, 64, .inl fU)), (q2, .inl (cV, 64, .inl fB)), (q3, .inl (cZ, 64, .inl fH)), (qo, .inl (cO, 1, .inr (.inl fo)))] H) (hD : va_D (fun q : Nat => s.heap.size ≤ q) [(h0, .inr (0, [.ref qb, .long kb, .int nx, .int (nI u), .int ek, .int en])), (qb, .inl (cB, 64, .inl fb)), (a1, .inr (1, [.ref q1, .ref q2, .ref q3, .int nx, .int (nI u), .int ed, .int th, .int ek])), (q1, .inl (cU, 64, .inl fU)), (q2, .inl (cV, 64, .inl fB)), (q3, .inl (cZ, 64, .inl fH)), (qo, .inl (cO, 1, .inr (.inl fo)))]) (hS : va_S (fun q : Nat => s.heap.size ≤ q) s.heap H locs) (hl : lv_has ls 7 [(4, .int x4), (0, .ref b), (1, .ref h0), (2, .ref a1), (3, .ref qo)]) : W p l e room_1 s m #[Value.ref b] below meth c H locs (7 + t) (271 + 6 * t) (lw_Z below #[Value.ref b] s) (F0 m 240 ls []) := by
  obtain ⟨hx, hb, hr, hml, hown0, hts, hX, hbl, hlocks, hgv⟩ := C0
  have hown : s.vm.findClass RL = some m.cls := hown0
  have hA : ∀ q : Nat, s.heap.size ≤ q → (fun q : Nat => s.heap.size ≤ q) q := fun _ h => h
  have hbA : ¬ (fun q : Nat => s.heap.size ≤ q) b := Nat.not_le.mpr hbl
  have hts1 : ∀ w ∈ wsL_law, w.before #[Value.ref b] s = true := fun w h => hts w (wsL_law_in w h)
  have hts2 : ∀ w ∈ wsL_m, w.before #[Value.ref b] s = true := fun w h => hts w (wsL_m_in w h)
  have hu4 : u ≤ 64 := hI.2.1.1
  refine lv_aload_n hx hb dL_law_240 rfl (lv_at hl 2 rfl) ?_
  have hPc := hP.sub (ws' := [(h0, .inr (0, [.ref qb, .long kb, .int nx, .int (nI u), .int ek, .int en])), (qb, .inl (cB, 64, .inl fb))]) [0, 1] rfl
  have hDc := hD.sub (ws' := [(h0, .inr (0, [.ref qb, .long kb, .int nx, .int (nI u), .int ek, .int en])), (qb, .inl (cB, 64, .inl fb))]) [0, 1] (by decide) rfl
  have hKc := hK.sub (tys' := [(cB, .byte)]) [0] rfl
  have hFc := va_free (wc := [(h0, .inr (0, [.ref qb, .long kb, .int nx, .int (nI u), .int ek, .int en])), (qb, .inl (cB, 64, .inl fb))]) hD hS hA [0, 1] rfl
  refine va_calli (va_runV (As := []) (rest := []) ⟨hx, hb, hml, hown, hts1⟩ (c_read l dC dI h0 qb cB kb nx (nI u) ek en fb H.size ) (cwV 0 hts1 gL_law_X0_read rfl rfl rfl (by decide +kernel) ⟨Nat.le_of_ble_eq_true rfl, Nat.le_of_ble_eq_true rfl⟩) ⟨fun a U g mk q => by obtain ⟨q0, q1, qP, qK, qD⟩ := q; exact ⟨q0, q1, qP, va_K.moved (u := U) (U := U.calling g mk a) (Vm.Alike.refl U.vm) qK, qD⟩, va_recv hKc hPc (ci := 0) (q0 := 0) rfl rfl, fun U hU hW => ⟨rfl, by rw [hU], by rw [hU]; exact hPc, va_K.moved hW.alike hKc, hDc.weaken (fun _ _ _ _ => trivial)⟩⟩ rfl rfl hl.1 rfl (lv_room (Nat.le_of_ble_eq_true rfl)) dL_law_241 ⟨(show _ ≤ 1034 by omega), (show _ ≤ 8481 by omega)⟩) hS (fun q _ h => hFc q h) hFc (fun r1 uv tS H1 locs ht hvm hw1 hB hz1 hk1 hS => ?_)
  obtain ⟨u7, rfl⟩ : ∃ z, z = uv := ⟨_, rfl⟩
  obtain ⟨hP1, hK1, hD1⟩ := hB
  rw [ht] at hP1
  have hK1 := va_K.moved hvm.symm hK1
  try dsimp only at hw1
  obtain ⟨hP, hD⟩ := va_join (wr := [(a1, .inr (1, [.ref q1, .ref q2, .ref q3, .int nx, .int (nI u), .int ed, .int th, .int ek])), (q1, .inl (cU, 64, .inl fU)), (q2, .inl (cV, 64, .inl fB)), (q3, .inl (cZ, 64, .inl fH)), (qo, .inl (cO, 1, .inr (.inl fo)))]) (w1 := [(h0, .inr (0, [.ref qb, .long kb, .int nx, .int u7, .int ek, .int en])), (qb, .inl (cB, 64, .inl fb))]) hP hD [0, 1] [2, 3, 4, 5, 6] rfl rfl (by decide) (by decide) hk1 hFc hP1 hD1
  generalize H1 = H at hP hS ⊢
  have hP := hP.sub (ws' := [(h0, .inr (0, [.ref qb, .long kb, .int nx, .int u7, .int ek, .int en])), (qb, .inl (cB, 64, .inl fb)), (a1, .inr (1, [.ref q1, .ref q2, .ref q3, .int nx, .int (nI u), .int ed, .int th, .int ek])), (q1, .inl (cU, 64, .inl fU)), (q2, .inl (cV, 64, .inl fB)), (q3, .inl (cZ, 64, .inl fH)), (qo, .inl (cO, 1, .inr (.inl fo)))]) [5, 6, 0, 1, 2, 3, 4] rfl
  have hD := hD.sub (ws' := [(h0, .inr (0, [.ref qb, .long kb, .int nx, .int u7, .int ek, .int en])), (qb, .inl (cB, 64, .inl fb)), (a1, .inr (1, [.ref q1, .ref q2, .ref q3, .int nx, .int (nI u), .int ed, .int th, .int ek])), (q1, .inl (cU, 64, .inl fU)), (q2, .inl (cV, 64, .inl fB)), (q3, .inl (cZ, 64, .inl fH)), (qo, .inl (cO, 1, .inr (.inl fo)))]) [5, 6, 0, 1, 2, 3, 4] (by decide) rfl
  refine lv_aload_n hx hb dL_law_244 rfl (lv_at hl 3 rfl) ?_
  have hPc := hP.sub (ws' := [(a1, .inr (1, [.ref q1, .ref q2, .ref q3, .int nx, .int (nI u), .int ed, .int th, .int ek])), (q1, .inl (cU, 64, .inl fU)), (q2, .inl (cV, 64, .inl fB)), (q3, .inl (cZ, 64, .inl fH))]) [2, 3, 4, 5] rfl
  have hDc := hD.sub (ws' := [(a1, .inr (1, [.ref q1, .ref q2, .ref q3, .int nx, .int (nI u), .int ed, .int th, .int ek])), (q1, .inl (cU, 64, .inl fU)), (q2, .inl (cV, 64, .inl fB)), (q3, .inl (cZ, 64, .inl fH))]) [2, 3, 4, 5] (by decide) rfl
  have hKc := hK.sub (tys' := [(cU, .int), (cV, .int), (cZ, .boolean)]) [1, 2, 3] rfl
  have hFc := va_free (wc := [(a1, .inr (1, [.ref q1, .ref q2, .ref q3, .int nx, .int (nI u), .int ed, .int th, .int ek])), (q1, .inl (cU, 64, .inl fU)), (q2, .inl (cV, 64, .inl fB)), (q3, .inl (cZ, 64, .inl fH))]) hD hS hA [2, 3, 4, 5] rfl
  refine va_calli (va_runV (As := []) (rest := [.int r1]) ⟨hx, hb, hml, hown, hts2⟩ (m_read l dC dI a1 q1 q2 q3 cU cV cZ nx (nI u) ed th ek fU fB fH u H.size rfl hu4) (cwV 0 hts2 gL_m_X1_read rfl rfl rfl (by decide +kernel) ⟨Nat.le_of_ble_eq_true rfl, Nat.le_of_ble_eq_true rfl⟩) ⟨fun a U g mk q => by obtain ⟨q0, q1, qP, qK, qD⟩ := q; exact ⟨q0, q1, qP, va_K.moved (u := U) (U := U.calling g mk a) (Vm.Alike.refl U.vm) qK, qD⟩, va_recv hKc hPc (ci := 1) (q0 := 0) rfl rfl, fun U hU hW => ⟨rfl, by rw [hU], by rw [hU]; exact hPc, va_K.moved hW.alike hKc, hDc.weaken (fun _ _ _ _ => trivial)⟩⟩ rfl rfl hl.1 rfl (lv_room (Nat.le_of_ble_eq_true rfl)) dL_law_245 ⟨(show _ ≤ 1034 by omega), (show _ ≤ 8481 by omega)⟩) hS (fun q _ h => hFc q h) hFc (fun r2 uv tS H1 locs ht hvm hw2 hB hz1 hk1 hS => ?_)
  obtain ⟨m8, g1⟩ := uv
  obtain ⟨hP1, hK1, hD1⟩ := hB
  rw [ht] at hP1
  have hK1 := va_K.moved hvm.symm hK1
  try dsimp only at hw2
  obtain ⟨hP, hD⟩ := va_join (wr := [(h0, .inr (0, [.ref qb, .long kb, .int nx, .int u7, .int ek, .int en])), (qb, .inl (cB, 64, .inl fb)), (qo, .inl (cO, 1, .inr (.inl fo)))]) (w1 := [(a1, .inr (1, [.ref q1, .ref q2, .ref q3, .int nx, .int m8, .int ed, .int 0, .int ek])), (q1, .inl (cU, 64, .inl g1)), (q2, .inl (cV, 64, .inl fB)), (q3, .inl (cZ, 64, .inl fH))]) hP hD [2, 3, 4, 5] [0, 1, 6] rfl rfl (by decide) (by decide) hk1 hFc hP1 hD1
  generalize H1 = H at hP hS ⊢
  have hP := hP.sub (ws' := [(h0, .inr (0, [.ref qb, .long kb, .int nx, .int u7, .int ek, .int en])), (qb, .inl (cB, 64, .inl fb)), (a1, .inr (1, [.ref q1, .ref q2, .ref q3, .int nx, .int m8, .int ed, .int 0, .int ek])), (q1, .inl (cU, 64, .inl g1)), (q2, .inl (cV, 64, .inl fB)), (q3, .inl (cZ, 64, .inl fH)), (qo, .inl (cO, 1, .inr (.inl fo)))]) [0, 1, 3, 4, 5, 6, 2] rfl
  have hD := hD.sub (ws' := [(h0, .inr (0, [.ref qb, .long kb, .int nx, .int u7, .int ek, .int en])), (qb, .inl (cB, 64, .inl fb)), (a1, .inr (1, [.ref q1, .ref q2, .ref q3, .int nx, .int m8, .int ed, .int 0, .int ek])), (q1, .inl (cU, 64, .inl g1)), (q2, .inl (cV, 64, .inl fB)), (q3, .inl (cZ, 64, .inl fH)), (qo, .inl (cO, 1, .inr (.inl fo)))]) [0, 1, 3, 4, 5, 6, 2] (by decide) rfl
  rcases hw1 with ⟨w1, w2, w3⟩ | ⟨w1, w2, w3⟩
  · rcases hw2 with ⟨v1, v2, v3, v4⟩ | ⟨u1, v1, v2, v3, v4⟩
    · have er : r1 = r2 := by
        rw [w3, v4]
        rcases hI.2.2.2.2.2.1 with z | ⟨z1, z2⟩
        · rw [if_neg (fun q => q.1 z), if_neg (fun q => q.1 z)]
        · rw [z1, z2]
      have w2 := w2.symm
      subst w2
      have v2 := v2.symm
      subst v2
      have v3 := v3.symm
      subst v3
      refine lv_icmp_eq (tgt := 418) hx hb dL_law_248 (by decide) (fun c_248 => ?_) (fun c_248 => ?_)
      · obtain ⟨x_1, ex_1⟩ : ∃ y : Int32, y = x4 + 5 := ⟨_, rfl⟩
        refine lv_iinc (v := x_1) (lv' := [(4, .int x_1), (0, .ref b), (1, .ref h0), (2, .ref a1), (3, .ref qo)]) hx hb dL_law_418 hl (k := 0) rfl (by rw [ex_1]; rfl) (by decide) rfl (fun ls hl => ?_)
        refine lv_goto (tgt := 23) hx hb dL_law_421 (by decide) ?_
        refine W.widen (k := 7 + (t + 1)) (n := 271 + 6 * (t + 1)) (by omega) (by omega) ?_
        exact ih x_1 kb nx ek en ed 0 bs u e9 S fb fU fB fH fo (x4_up h4 ex_1) hI H _ ls hP hD hS (lv_sub hl [0, 1, 2, 3, 4] rfl)
      · exact absurd er c_248
    · exact absurd ((nI_eq (b := 0) (by omega) (by decide)).mp w1) (by omega)
  · rcases hw2 with ⟨v1, v2, v3, v4⟩ | ⟨u1, v1, v2, v3, v4⟩
    · exact absurd (by rw [v1]; rfl) w1
    · subst v1
      obtain ⟨ev, hI8⟩ := g_rd hI v4
      have er : r1 = r2 := by rw [w3, v3]; exact ev
      have eu7 : u7 = nI u1 := by rw [w2]; exact nI_pred u1
      subst eu7
      subst v2
      refine lv_icmp_eq (tgt := 418) hx hb dL_law_248 (by decide) (fun c_248 => ?_) (fun c_248 => ?_)
      · obtain ⟨x_2, ex_2⟩ : ∃ y : Int32, y = x4 + 5 := ⟨_, rfl⟩
        refine lv_iinc (v := x_2) (lv' := [(4, .int x_2), (0, .ref b), (1, .ref h0), (2, .ref a1), (3, .ref qo)]) hx hb dL_law_418 hl (k := 0) rfl (by rw [ex_2]; rfl) (by decide) rfl (fun ls hl => ?_)
        refine lv_goto (tgt := 23) hx hb dL_law_421 (by decide) ?_
        refine W.widen (k := 7 + (t + 1)) (n := 271 + 6 * (t + 1)) (by omega) (by omega) ?_
        exact ih x_2 kb nx ek en ed 0 (bs + 1) u1 (e9 - 1) (fun q => S.1 (q + 1), fun q => S.2 (q + 1)) fb g1 fB fH fo (x4_up h4 ex_2) hI8 H _ ls hP hD hS (lv_sub hl [0, 1, 2, 3, 4] rfl)
      · exact absurd er c_248
end
section
section Glue3
variable {nx ek en ed bs : Int32} {kb : Int64} {fb fU fB fH : Nat → Int32} {u e9 : Nat} {S : aS}
theorem g_told (h : INV nx ek en ed kb fb fU fB fH bs u e9 S) {n r9 r2 : Int32} (hc : (n = 0 ∧ r9 = nx) ∨ (n = 1 ∧ r9 = 64 - nI u) ∨ (n = 2 ∧ r9 = nI u) ∨ (n = 3 ∧ r9 = g_bc kb) ∨ (n = 4 ∧ r9 = g_bc (c_st kb)) ∨ (n = 5 ∧ r9 = (if ek = 0 then 0 else 1))) (hm : (n = 0 ∧ r2 = nx) ∨ (n = 1 ∧ r2 = 64 - nI u) ∨ (n = 2 ∧ r2 = nI u) ∨ (n = 3 ∧ r2 = nI (sg_c (pH fH) 64)) ∨ (n = 4 ∧ r2 = nI (sg_c (st (pH fH)) 64)) ∨ (n = 5 ∧ r2 = (if ek = 0 then 0 else 1))) : r9 = r2 := by
  rcases hc with ⟨a1, a2⟩ | ⟨a1, a2⟩ | ⟨a1, a2⟩ | ⟨a1, a2⟩ | ⟨a1, a2⟩ | ⟨a1, a2⟩
  · rcases hm with ⟨b1, b2⟩ | ⟨b1, b2⟩ | ⟨b1, b2⟩ | ⟨b1, b2⟩ | ⟨b1, b2⟩ | ⟨b1, b2⟩
    · rw [a2, b2]
    · exact absurd (a1.symm.trans b1) (by decide)
    · exact absurd (a1.symm.trans b1) (by decide)
    · exact absurd (a1.symm.trans b1) (by decide)
    · exact absurd (a1.symm.trans b1) (by decide)
    · exact absurd (a1.symm.trans b1) (by decide)
  · rcases hm with ⟨b1, b2⟩ | ⟨b1, b2⟩ | ⟨b1, b2⟩ | ⟨b1, b2⟩ | ⟨b1, b2⟩ | ⟨b1, b2⟩
    · exact absurd (a1.symm.trans b1) (by decide)
    · rw [a2, b2]
    · exact absurd (a1.symm.trans b1) (by decide)
    · exact absurd (a1.symm.trans b1) (by decide)
    · exact absurd (a1.symm.trans b1) (by decide)
    · exact absurd (a1.symm.trans b1) (by decide)
  · rcases hm with ⟨b1, b2⟩ | ⟨b1, b2⟩ | ⟨b1, b2⟩ | ⟨b1, b2⟩ | ⟨b1, b2⟩ | ⟨b1, b2⟩
    · exact absurd (a1.symm.trans b1) (by decide)
    · exact absurd (a1.symm.trans b1) (by decide)
    · rw [a2, b2]
    · exact absurd (a1.symm.trans b1) (by decide)
    · exact absurd (a1.symm.trans b1) (by decide)
    · exact absurd (a1.symm.trans b1) (by decide)
  · rcases hm with ⟨b1, b2⟩ | ⟨b1, b2⟩ | ⟨b1, b2⟩ | ⟨b1, b2⟩ | ⟨b1, b2⟩ | ⟨b1, b2⟩
    · exact absurd (a1.symm.trans b1) (by decide)
    · exact absurd (a1.symm.trans b1) (by decide)
    · exact absurd (a1.symm.trans b1) (by decide)
    · rw [a2, b2, g_bc_eq, sg_c_congr 64 (fun k hk => (inv_bit h hk).symm)]
    · exact absurd (a1.symm.trans b1) (by decide)
    · exact absurd (a1.symm.trans b1) (by decide)
  · rcases hm with ⟨b1, b2⟩ | ⟨b1, b2⟩ | ⟨b1, b2⟩ | ⟨b1, b2⟩ | ⟨b1, b2⟩ | ⟨b1, b2⟩
    · exact absurd (a1.symm.trans b1) (by decide)
    · exact absurd (a1.symm.trans b1) (by decide)
    · exact absurd (a1.symm.trans b1) (by decide)
    · exact absurd (a1.symm.trans b1) (by decide)
    · rw [a2, b2, g_bc_eq, inv_cnt h (Nat.le_refl 64)]
    · exact absurd (a1.symm.trans b1) (by decide)
  · rcases hm with ⟨b1, b2⟩ | ⟨b1, b2⟩ | ⟨b1, b2⟩ | ⟨b1, b2⟩ | ⟨b1, b2⟩ | ⟨b1, b2⟩
    · exact absurd (a1.symm.trans b1) (by decide)
    · exact absurd (a1.symm.trans b1) (by decide)
    · exact absurd (a1.symm.trans b1) (by decide)
    · exact absurd (a1.symm.trans b1) (by decide)
    · exact absurd (a1.symm.trans b1) (by decide)
    · rw [a2, b2]
theorem st_lt {p : Nat → Bool} {k : Nat} (hk : k < 64) (h : p k = true) : sg_c p k < sg_c p 64 := by
  have h1 := sg_cs h
  have h2 := sg_c_mono' p (show k + 1 ≤ 64 by omega)
  omega
theorem g_blk_cm (h : INV nx ek en ed kb fb fU fB fH bs u e9 S) {i : Int32} {i0 k : Nat} (hc : i < 0 ∨ g_bc (c_st kb) ≤ i) (m1 : i = nI i0) (m2 : i0 < 2 ^ 31) (m3 : k < 64) (m4 : st (pH fH) k = true) (m5 : sg_c (st (pH fH)) k = i0) : False := by
  have hl := st_lt m3 m4
  have hN := sg_c_le (st (pH fH)) 64
  rcases hc with z | z
  · rw [m1] at z
    exact nI_pos m2 z
  · rw [m1, g_bc_eq, inv_cnt h (Nat.le_refl 64)] at z
    have := (nI_leI (by omega) m2).mp z
    omega
theorem g_blk_mc (h : INV nx ek en ed kb fb fU fB fH bs u e9 S) {i : Int32} {i0 : Nat} (m1 : i = nI i0) (m2 : i0 < sg_c (sg_b (c_st kb)) 64) (hm : i < 0 ∨ ∃ i1 : Nat, i = nI i1 ∧ i1 < 2 ^ 31 ∧ sg_c (st (pH fH)) 64 ≤ i1) : False := by
  have hN := sg_c_le (sg_b (c_st kb)) 64
  rcases hm with z | ⟨i1, z1, z2, z3⟩
  · rw [m1] at z
    exact nI_pos (by omega) z
  · have := (nI_eq (by omega) z2).mp (m1.symm.trans z1)
    rw [inv_cnt h (Nat.le_refl 64)] at m2
    omega
theorem g_blk (h : INV nx ek en ed kb fb fU fB fH bs u e9 S) {i b r9 r2 : Int32} {i0 k i1 k1 : Nat} (a1 : i = nI i0) (a2 : i0 < sg_c (sg_b (c_st kb)) 64) (a3 : k < 64) (a4 : sg_b (c_st kb) k = true) (a5 : sg_c (sg_b (c_st kb)) k = i0)
    (a6 : (b = 0 ∧ r9 = nx + nI k) ∨ (¬ b = 0 ∧ ∃ j : Nat, r9 = nI j ∧ k + j ≤ 64 ∧ (∀ i, i < j → sg_b kb (k + i) = true) ∧ (k + j < 64 → sg_b kb (k + j) = false)))
    (m1 : i = nI i1) (m2 : i1 < 2 ^ 31) (m3 : k1 < 64) (m4 : st (pH fH) k1 = true) (m5 : sg_c (st (pH fH)) k1 = i1)
    (m6 : (b = 0 ∧ r2 = nx + nI k1) ∨ (¬ b = 0 ∧ ∃ j : Nat, r2 = nI j ∧ k1 + j ≤ 64 ∧ (∀ i, i < j → pH fH (k1 + i) = true) ∧ (k1 + j < 64 → pH fH (k1 + j) = false))) : r9 = r2 := by
  have hN := sg_c_le (sg_b (c_st kb)) 64
  have ei : i0 = i1 := (nI_eq (by omega) m2).mp (a1.symm.trans m1)
  rw [inv_st h a3] at a4
  rw [inv_cnt h (by omega)] at a5
  have ek1 : k = k1 := sg_c_uni a4 m4 (by rw [a5, m5, ei])
  subst ek1
  rcases a6 with ⟨c1, c2⟩ | ⟨c1, j, c2, c3, c4, c5⟩
  · rcases m6 with ⟨d1, d2⟩ | ⟨d1, -⟩
    · rw [c2, d2]
    · exact absurd c1 d1
  · rcases m6 with ⟨d1, -⟩ | ⟨d1, j1, d2, d3, d4, d5⟩
    · exact absurd d1 c1
    · have : j = j1 := by
        rcases Nat.lt_trichotomy j j1 with z | z | z
        · have w := d4 j z
          rw [inv_bit h (by omega), c5 (by omega)] at w
          cases w
        · exact z
        · have w := c4 j1 z
          rw [← inv_bit h (by omega), d5 (by omega)] at w
          cases w
      rw [c2, d2, this]
end Glue3
end
section
theorem told_nt {n : Int32} (h : n.toInt < 0 ∨ 5 < n.toInt) (h2 : n = 0 ∨ n = 1 ∨ n = 2 ∨ n = 3 ∨ n = 4 ∨ n = 5) : False := by
  rcases h2 with z | z | z | z | z | z <;> rw [z] at h <;> exact absurd h (by decide)
set_option maxHeartbeats 4000000 in
set_option maxRecDepth 100000 in
theorem law_4 {p : Program} {l : Launch} {e : Env} {s : State} {m : MethodId} {below : List Frame} {meth : Method} {c : Code} {dC : Nat → ClassId} {dI : Nat → Nat → Nat} {b h0 qb a1 q1 q2 q3 qo : Nat} {cB cU cV cZ cO : ClassId} {L : Nat} {xs : Nat → Int32} (hst : l.stackTraces = false) (C0 : lw_At p s m meth c b L xs) (hZ : thr (fun q : Nat => s.heap.size ≤ q) s s.heap) (hK : va_K (dC, dI) vwCl [(cB, .byte), (cU, .int), (cV, .int), (cZ, .boolean), (cO, .long)] s) {t : Nat} (ht5 : t < 512) (hLt : 5 * t + 5 ≤ L) (hL : L ≤ 2560) (ih : LawAt p l e s m below meth c dC dI b h0 qb a1 q1 q2 q3 qo cB cU cV cZ cO (t + 1)) (x4 : Int32) (kb : Int64) (nx ek en ed th bs : Int32) (u e9 : Nat) (S : aS) (fb fU fB fH : Nat → Int32) (fo : Nat → Int64) (h4 : x4 = nI (5 * t)) (hI : INV nx ek en ed kb fb fU fB fH bs u e9 S) (H : Heap) (locs : List Loc) (ls : Array Slot) (hP : va_P (dC, dI) vwCl [(h0, .inr (0, [.ref qb, .long kb, .int nx, .int (nI u), .int ek, .int en])), (qb, .inl (cB, 64, .inl fb)), (a1, .inr (1, [.ref q1, .ref q2, .ref q3, .int nx, .int (nI u), .int ed, .int th, .int ek])), (q1, .inl (cU, 64, .inl fU)), (q2, .inl (cV, 64, .inl fB)), (q3, .inl (cZ, 64, .inl fH)), (qo, .inl (cO, 1, .inr (.inl fo)))] H) (hD : va_D (fun q : Nat => s.heap.size ≤ q) [(h0, .inr (0, [.ref qb, .long kb, .int nx, .int (nI u), .int ek, .int en])), (qb, .inl (cB, 64, .inl fb)), (a1, .inr (1, [.ref q1, .ref q2, .ref q3, .int nx, .int (nI u), .int ed, .int th, .int ek])), (q1, .inl (cU, 64, .inl fU)), (q2, .inl (cV, 64, .inl fB)), (q3, .inl (cZ, 64, .inl fH)), (qo, .inl (cO, 1, .inr (.inl fo)))]) (hS : va_S (fun q : Nat => s.heap.size ≤ q) s.heap H locs) (hl : lv_has ls 7 [(4, .int x4), (0, .ref b), (1, .ref h0), (2, .ref a1), (3, .ref qo)]) : W p l e room_1 s m #[Value.ref b] below meth c H locs (7 + t) (271 + 6 * t) (lw_Z below #[Value.ref b] s) (F0 m 253 ls []) := by
  obtain ⟨hx, hb, hr, hml, hown0, hts, hX, hbl, hlocks, hgv⟩ := C0
  have hown : s.vm.findClass RL = some m.cls := hown0
  have hA : ∀ q : Nat, s.heap.size ≤ q → (fun q : Nat => s.heap.size ≤ q) q := fun _ h => h
  have hbA : ¬ (fun q : Nat => s.heap.size ≤ q) b := Nat.not_le.mpr hbl
  have hts1 : ∀ w ∈ wsL_law, w.before #[Value.ref b] s = true := fun w h => hts w (wsL_law_in w h)
  have hts2 : ∀ w ∈ wsL_m, w.before #[Value.ref b] s = true := fun w h => hts w (wsL_m_in w h)
  refine lv_aload_n hx hb dL_law_253 rfl (lv_at hl 2 rfl) ?_
  refine lv_aload_n hx hb dL_law_254 rfl (lv_at hl 1 rfl) ?_
  refine lv_iload hx hb dL_law_255 (lv_at hl 0 rfl) ?_
  refine lv_iconst (v := 1) hx hb dL_law_257 (by decide) ?_
  refine lv_iadd hx hb dL_law_258 ?_
  refine va_sld hx hb hX hbl hbA hS (ld_in (k := 1) h4 (by omega) hL) dL_law_259 ?_
  refine lv_aload_n hx hb dL_law_260 rfl (lv_at hl 4 rfl) ?_
  have hPc := hP.sub (ws' := [(h0, .inr (0, [.ref qb, .long kb, .int nx, .int (nI u), .int ek, .int en])), (qb, .inl (cB, 64, .inl fb)), (qo, .inl (cO, 1, .inr (.inl fo)))]) [0, 1, 6] rfl
  have hDc := hD.sub (ws' := [(h0, .inr (0, [.ref qb, .long kb, .int nx, .int (nI u), .int ek, .int en])), (qb, .inl (cB, 64, .inl fb)), (qo, .inl (cO, 1, .inr (.inl fo)))]) [0, 1, 6] (by decide) rfl
  have hKc := hK.sub (tys' := [(cB, .byte), (cO, .long)]) [0, 4] rfl
  have hFc := va_free (wc := [(h0, .inr (0, [.ref qb, .long kb, .int nx, .int (nI u), .int ek, .int en])), (qb, .inl (cB, 64, .inl fb)), (qo, .inl (cO, 1, .inr (.inl fo)))]) hD hS hA [0, 1, 6] rfl
  refine va_calli (vx_runSW (As := [.ref h0, .int (xs (x4 + 1).toNatClampNeg), .ref qo]) (rest := []) ⟨hx, hb, hml, hown, hts1⟩ (h_told l hst dC dI h0 qb cB kb nx (nI u) ek en fb qo cO fo (xs (x4 + 1).toNatClampNeg) H.size ) (vx_cwSW 3 hts1 gL_law_L_told rfl rfl rfl (by decide +kernel) ⟨Nat.le_of_ble_eq_true rfl, Nat.le_of_ble_eq_true rfl⟩) ⟨fun a U g mk q => by obtain ⟨q0, q1, qP, qK, qD, qZ⟩ := q; exact ⟨q0, q1, qP, va_K.moved (u := U) (U := U.calling g mk a) (Vm.Alike.refl U.vm) qK, qD, thr_blind qZ⟩, fun U hU hW => ⟨rfl, by rw [hU], by rw [hU]; exact hPc, va_K.moved hW.alike hKc, hDc.weaken (fun _ _ _ _ => trivial), thr_call hZ hS hFc hU hW⟩⟩ rfl rfl hl.1 rfl (lv_room (Nat.le_of_ble_eq_true rfl)) dL_law_261 ⟨(show _ ≤ 1034 by omega), (show _ ≤ 8481 by omega)⟩) hS (fun q _ h => hFc q h) hFc (fun r1 uv tS H1 locs ht hvm hw1 hB hz1 hk1 hS => ?_)
  obtain ⟨o7, rfl⟩ : ∃ z, z = uv := ⟨_, rfl⟩
  obtain ⟨hP1, hK1, hD1⟩ := hB
  rw [ht] at hP1
  have hK1 := va_K.moved hvm.symm hK1
  try dsimp only at hw1
  obtain ⟨hP, hD⟩ := va_join (wr := [(a1, .inr (1, [.ref q1, .ref q2, .ref q3, .int nx, .int (nI u), .int ed, .int th, .int ek])), (q1, .inl (cU, 64, .inl fU)), (q2, .inl (cV, 64, .inl fB)), (q3, .inl (cZ, 64, .inl fH))]) (w1 := [(h0, .inr (0, [.ref qb, .long kb, .int nx, .int (nI u), .int ek, .int en])), (qb, .inl (cB, 64, .inl fb)), (qo, .inl (cO, 1, .inr (.inl o7)))]) hP hD [0, 1, 6] [2, 3, 4, 5] rfl rfl (by decide) (by decide) hk1 hFc hP1 hD1
  generalize H1 = H at hP hS ⊢
  have hP := hP.sub (ws' := [(h0, .inr (0, [.ref qb, .long kb, .int nx, .int (nI u), .int ek, .int en])), (qb, .inl (cB, 64, .inl fb)), (a1, .inr (1, [.ref q1, .ref q2, .ref q3, .int nx, .int (nI u), .int ed, .int th, .int ek])), (q1, .inl (cU, 64, .inl fU)), (q2, .inl (cV, 64, .inl fB)), (q3, .inl (cZ, 64, .inl fH)), (qo, .inl (cO, 1, .inr (.inl o7)))]) [4, 5, 0, 1, 2, 3, 6] rfl
  have hD := hD.sub (ws' := [(h0, .inr (0, [.ref qb, .long kb, .int nx, .int (nI u), .int ek, .int en])), (qb, .inl (cB, 64, .inl fb)), (a1, .inr (1, [.ref q1, .ref q2, .ref q3, .int nx, .int (nI u), .int ed, .int th, .int ek])), (q1, .inl (cU, 64, .inl fU)), (q2, .inl (cV, 64, .inl fB)), (q3, .inl (cZ, 64, .inl fH)), (qo, .inl (cO, 1, .inr (.inl o7)))]) [4, 5, 0, 1, 2, 3, 6] (by decide) rfl
  refine lv_istore (lv' := [(5, .int r1), (4, .int x4), (0, .ref b), (1, .ref h0), (2, .ref a1), (3, .ref qo)]) hx hb dL_law_264 hl (by decide) rfl (fun ls hl => ?_)
  refine lv_aload_n hx hb dL_law_266 rfl (lv_at hl 4 rfl) ?_
  refine lv_aload_n hx hb dL_law_267 rfl (lv_at hl 2 rfl) ?_
  refine lv_iload hx hb dL_law_268 (lv_at hl 1 rfl) ?_
  refine lv_iconst (v := 1) hx hb dL_law_270 (by decide) ?_
  refine lv_iadd hx hb dL_law_271 ?_
  refine va_sld hx hb hX hbl hbA hS (ld_in (k := 1) h4 (by omega) hL) dL_law_272 ?_
  have hPc := hP.sub (ws' := [(a1, .inr (1, [.ref q1, .ref q2, .ref q3, .int nx, .int (nI u), .int ed, .int th, .int ek])), (q1, .inl (cU, 64, .inl fU)), (q2, .inl (cV, 64, .inl fB)), (q3, .inl (cZ, 64, .inl fH))]) [2, 3, 4, 5] rfl
  have hDc := hD.sub (ws' := [(a1, .inr (1, [.ref q1, .ref q2, .ref q3, .int nx, .int (nI u), .int ed, .int th, .int ek])), (q1, .inl (cU, 64, .inl fU)), (q2, .inl (cV, 64, .inl fB)), (q3, .inl (cZ, 64, .inl fH))]) [2, 3, 4, 5] (by decide) rfl
  have hKc := hK.sub (tys' := [(cU, .int), (cV, .int), (cZ, .boolean)]) [1, 2, 3] rfl
  have hFc := va_free (wc := [(a1, .inr (1, [.ref q1, .ref q2, .ref q3, .int nx, .int (nI u), .int ed, .int th, .int ek])), (q1, .inl (cU, 64, .inl fU)), (q2, .inl (cV, 64, .inl fB)), (q3, .inl (cZ, 64, .inl fH))]) hD hS hA [2, 3, 4, 5] rfl
  refine va_calli (va_runV (As := [.int (xs (x4 + 1).toNatClampNeg)]) (rest := []) ⟨hx, hb, hml, hown, hts2⟩ (m_told l dC dI a1 q1 q2 q3 cU cV cZ nx (nI u) ed th ek fU fB fH (xs (x4 + 1).toNatClampNeg) H.size ) (cwV 1 hts2 gL_m_X1_told rfl rfl rfl (by decide +kernel) ⟨Nat.le_of_ble_eq_true rfl, Nat.le_of_ble_eq_true rfl⟩) ⟨fun a U g mk q => by obtain ⟨q0, q1, qP, qK, qD⟩ := q; exact ⟨q0, q1, qP, va_K.moved (u := U) (U := U.calling g mk a) (Vm.Alike.refl U.vm) qK, qD⟩, va_recv hKc hPc (ci := 1) (q0 := 0) rfl rfl, fun U hU hW => ⟨rfl, by rw [hU], by rw [hU]; exact hPc, va_K.moved hW.alike hKc, hDc.weaken (fun _ _ _ _ => trivial)⟩⟩ rfl rfl hl.1 rfl (lv_room (Nat.le_of_ble_eq_true rfl)) dL_law_273 ⟨(show _ ≤ 1034 by omega), (show _ ≤ 8481 by omega)⟩) hS (fun q _ h => hFc q h) hFc (fun r2 uv tS H1 locs ht hvm hw2 hB hz1 hk1 hS => ?_)
  obtain ⟨t8, rfl⟩ : ∃ z, z = uv := ⟨_, rfl⟩
  obtain ⟨hP1, hK1, hD1⟩ := hB
  rw [ht] at hP1
  have hK1 := va_K.moved hvm.symm hK1
  try dsimp only at hw2
  obtain ⟨hP, hD⟩ := va_join (wr := [(h0, .inr (0, [.ref qb, .long kb, .int nx, .int (nI u), .int ek, .int en])), (qb, .inl (cB, 64, .inl fb)), (qo, .inl (cO, 1, .inr (.inl o7)))]) (w1 := [(a1, .inr (1, [.ref q1, .ref q2, .ref q3, .int nx, .int (nI u), .int ed, .int t8, .int ek])), (q1, .inl (cU, 64, .inl fU)), (q2, .inl (cV, 64, .inl fB)), (q3, .inl (cZ, 64, .inl fH))]) hP hD [2, 3, 4, 5] [0, 1, 6] rfl rfl (by decide) (by decide) hk1 hFc hP1 hD1
  generalize H1 = H at hP hS ⊢
  have hP := hP.sub (ws' := [(h0, .inr (0, [.ref qb, .long kb, .int nx, .int (nI u), .int ek, .int en])), (qb, .inl (cB, 64, .inl fb)), (a1, .inr (1, [.ref q1, .ref q2, .ref q3, .int nx, .int (nI u), .int ed, .int t8, .int ek])), (q1, .inl (cU, 64, .inl fU)), (q2, .inl (cV, 64, .inl fB)), (q3, .inl (cZ, 64, .inl fH)), (qo, .inl (cO, 1, .inr (.inl o7)))]) [0, 1, 3, 4, 5, 6, 2] rfl
  have hD := hD.sub (ws' := [(h0, .inr (0, [.ref qb, .long kb, .int nx, .int (nI u), .int ek, .int en])), (qb, .inl (cB, 64, .inl fb)), (a1, .inr (1, [.ref q1, .ref q2, .ref q3, .int nx, .int (nI u), .int ed, .int t8, .int ek])), (q1, .inl (cU, 64, .inl fU)), (q2, .inl (cV, 64, .inl fB)), (q3, .inl (cZ, 64, .inl fH)), (qo, .inl (cO, 1, .inr (.inl o7)))]) [0, 1, 3, 4, 5, 6, 2] (by decide) rfl
  rcases hw1 with ⟨w1, w2⟩ | ⟨w1, r9, w2, w3⟩
  · rcases hw2 with ⟨v1, v2⟩ | ⟨v2, v1⟩
    · have w1 := w1.symm
      subst w1
      have v2 := v2.symm
      subst v2
      refine lv_istore (lv' := [(6, .int r2), (5, .int 1), (4, .int x4), (0, .ref b), (1, .ref h0), (2, .ref a1), (3, .ref qo)]) hx hb dL_law_276 hl (by decide) rfl (fun ls hl => ?_)
      refine lv_aload_n hx hb dL_law_278 rfl (lv_at hl 5 rfl) ?_
      have hPc := hP.sub (ws' := [(a1, .inr (1, [.ref q1, .ref q2, .ref q3, .int nx, .int (nI u), .int ed, .int 1, .int ek])), (q1, .inl (cU, 64, .inl fU)), (q2, .inl (cV, 64, .inl fB)), (q3, .inl (cZ, 64, .inl fH))]) [2, 3, 4, 5] rfl
      have hDc := hD.sub (ws' := [(a1, .inr (1, [.ref q1, .ref q2, .ref q3, .int nx, .int (nI u), .int ed, .int 1, .int ek])), (q1, .inl (cU, 64, .inl fU)), (q2, .inl (cV, 64, .inl fB)), (q3, .inl (cZ, 64, .inl fH))]) [2, 3, 4, 5] (by decide) rfl
      have hKc := hK.sub (tys' := [(cU, .int), (cV, .int), (cZ, .boolean)]) [1, 2, 3] rfl
      have hFc := va_free (wc := [(a1, .inr (1, [.ref q1, .ref q2, .ref q3, .int nx, .int (nI u), .int ed, .int 1, .int ek])), (q1, .inl (cU, 64, .inl fU)), (q2, .inl (cV, 64, .inl fB)), (q3, .inl (cZ, 64, .inl fH))]) hD hS hA [2, 3, 4, 5] rfl
      refine va_calli (va_runV (As := []) (rest := []) ⟨hx, hb, hml, hown, hts1⟩ (m_thrown l dC dI a1 q1 q2 q3 cU cV cZ nx (nI u) ed 1 ek fU fB fH H.size ) (cwV 0 hts1 gL_law_X1_thrown rfl rfl rfl (by decide +kernel) ⟨Nat.le_of_ble_eq_true rfl, Nat.le_of_ble_eq_true rfl⟩) ⟨fun a U g mk q => by obtain ⟨q0, q1, qP, qK, qD⟩ := q; exact ⟨q0, q1, qP, va_K.moved (u := U) (U := U.calling g mk a) (Vm.Alike.refl U.vm) qK, qD⟩, va_recv hKc hPc (ci := 1) (q0 := 0) rfl rfl, fun U hU hW => ⟨rfl, by rw [hU], by rw [hU]; exact hPc, va_K.moved hW.alike hKc, hDc.weaken (fun _ _ _ _ => trivial)⟩⟩ rfl rfl hl.1 rfl (lv_room (Nat.le_of_ble_eq_true rfl)) dL_law_279 ⟨(show _ ≤ 1034 by omega), (show _ ≤ 8481 by omega)⟩) hS (fun q _ h => hFc q h) hFc (fun r_1 uv tS H1 locs ht hvm hw_2 hB hz1 hk1 hS => ?_)
      obtain ⟨hP1, hK1, hD1⟩ := hB
      rw [ht] at hP1
      have hK1 := va_K.moved hvm.symm hK1
      try dsimp only at hw_2
      obtain ⟨hP, hD⟩ := va_join (wr := [(h0, .inr (0, [.ref qb, .long kb, .int nx, .int (nI u), .int ek, .int en])), (qb, .inl (cB, 64, .inl fb)), (qo, .inl (cO, 1, .inr (.inl o7)))]) (w1 := [(a1, .inr (1, [.ref q1, .ref q2, .ref q3, .int nx, .int (nI u), .int ed, .int 1, .int ek])), (q1, .inl (cU, 64, .inl fU)), (q2, .inl (cV, 64, .inl fB)), (q3, .inl (cZ, 64, .inl fH))]) hP hD [2, 3, 4, 5] [0, 1, 6] rfl rfl (by decide) (by decide) hk1 hFc hP1 hD1
      generalize H1 = H at hP hS ⊢
      have hP := hP.sub (ws' := [(h0, .inr (0, [.ref qb, .long kb, .int nx, .int (nI u), .int ek, .int en])), (qb, .inl (cB, 64, .inl fb)), (a1, .inr (1, [.ref q1, .ref q2, .ref q3, .int nx, .int (nI u), .int ed, .int 1, .int ek])), (q1, .inl (cU, 64, .inl fU)), (q2, .inl (cV, 64, .inl fB)), (q3, .inl (cZ, 64, .inl fH)), (qo, .inl (cO, 1, .inr (.inl o7)))]) [0, 1, 3, 4, 5, 6, 2] rfl
      have hD := hD.sub (ws' := [(h0, .inr (0, [.ref qb, .long kb, .int nx, .int (nI u), .int ek, .int en])), (qb, .inl (cB, 64, .inl fb)), (a1, .inr (1, [.ref q1, .ref q2, .ref q3, .int nx, .int (nI u), .int ed, .int 1, .int ek])), (q1, .inl (cU, 64, .inl fU)), (q2, .inl (cV, 64, .inl fB)), (q3, .inl (cZ, 64, .inl fH)), (qo, .inl (cO, 1, .inr (.inl o7)))]) [0, 1, 3, 4, 5, 6, 2] (by decide) rfl
      subst hw_2
      refine lv_iload hx hb dL_law_282 (lv_at hl 1 rfl) ?_
      refine lv_icmp_eq (tgt := 289) hx hb dL_law_284 (by decide) (fun c_284 => ?_) (fun c_284 => ?_)
      · refine lv_iload hx hb dL_law_289 (lv_at hl 1 rfl) ?_
        refine lv_if_ne (tgt := 306) hx hb dL_law_291 (by decide) (fun c_291 => ?_) (fun c_291 => ?_)
        · refine lv_goto (tgt := 418) hx hb dL_law_306 (by decide) ?_
          obtain ⟨x_3, ex_3⟩ : ∃ y : Int32, y = x4 + 5 := ⟨_, rfl⟩
          refine lv_iinc (v := x_3) (lv' := [(4, .int x_3), (6, .int r2), (5, .int 1), (0, .ref b), (1, .ref h0), (2, .ref a1), (3, .ref qo)]) hx hb dL_law_418 hl (k := 2) rfl (by rw [ex_3]; rfl) (by decide) rfl (fun ls hl => ?_)
          refine lv_goto (tgt := 23) hx hb dL_law_421 (by decide) ?_
          refine W.widen (k := 7 + (t + 1)) (n := 271 + 6 * (t + 1)) (by omega) (by omega) ?_
          exact ih x_3 kb nx ek en ed 1 bs u e9 S fb fU fB fH o7 (x4_up h4 ex_3) hI H _ ls hP hD hS (lv_sub hl [0, 3, 4, 5, 6] rfl)
        · exact absurd c_291 (by decide)
      · exact absurd rfl c_284
    · exact (told_nt w2 (v1.imp (fun z => z.1) (fun z => z.imp (fun z => z.1) (fun z => z.imp (fun z => z.1) (fun z => z.imp (fun z => z.1) (fun z => z.imp (fun z => z.1) (fun z => z.1))))))).elim
  · rcases hw2 with ⟨v1, v2⟩ | ⟨v2, v1⟩
    · exact (told_nt (lt_ti.mp v1) (w3.imp (fun z => z.1) (fun z => z.imp (fun z => z.1) (fun z => z.imp (fun z => z.1) (fun z => z.imp (fun z => z.1) (fun z => z.imp (fun z => z.1) (fun z => z.1))))))).elim
    · have er := g_told hI w3 v1
      have w1 := w1.symm
      subst w1
      have v2 := v2.symm
      subst v2
      refine lv_istore (lv' := [(6, .int r2), (5, .int 0), (4, .int x4), (0, .ref b), (1, .ref h0), (2, .ref a1), (3, .ref qo)]) hx hb dL_law_276 hl (by decide) rfl (fun ls hl => ?_)
      refine lv_aload_n hx hb dL_law_278 rfl (lv_at hl 5 rfl) ?_
      have hPc := hP.sub (ws' := [(a1, .inr (1, [.ref q1, .ref q2, .ref q3, .int nx, .int (nI u), .int ed, .int 0, .int ek])), (q1, .inl (cU, 64, .inl fU)), (q2, .inl (cV, 64, .inl fB)), (q3, .inl (cZ, 64, .inl fH))]) [2, 3, 4, 5] rfl
      have hDc := hD.sub (ws' := [(a1, .inr (1, [.ref q1, .ref q2, .ref q3, .int nx, .int (nI u), .int ed, .int 0, .int ek])), (q1, .inl (cU, 64, .inl fU)), (q2, .inl (cV, 64, .inl fB)), (q3, .inl (cZ, 64, .inl fH))]) [2, 3, 4, 5] (by decide) rfl
      have hKc := hK.sub (tys' := [(cU, .int), (cV, .int), (cZ, .boolean)]) [1, 2, 3] rfl
      have hFc := va_free (wc := [(a1, .inr (1, [.ref q1, .ref q2, .ref q3, .int nx, .int (nI u), .int ed, .int 0, .int ek])), (q1, .inl (cU, 64, .inl fU)), (q2, .inl (cV, 64, .inl fB)), (q3, .inl (cZ, 64, .inl fH))]) hD hS hA [2, 3, 4, 5] rfl
      refine va_calli (va_runV (As := []) (rest := []) ⟨hx, hb, hml, hown, hts1⟩ (m_thrown l dC dI a1 q1 q2 q3 cU cV cZ nx (nI u) ed 0 ek fU fB fH H.size ) (cwV 0 hts1 gL_law_X1_thrown rfl rfl rfl (by decide +kernel) ⟨Nat.le_of_ble_eq_true rfl, Nat.le_of_ble_eq_true rfl⟩) ⟨fun a U g mk q => by obtain ⟨q0, q1, qP, qK, qD⟩ := q; exact ⟨q0, q1, qP, va_K.moved (u := U) (U := U.calling g mk a) (Vm.Alike.refl U.vm) qK, qD⟩, va_recv hKc hPc (ci := 1) (q0 := 0) rfl rfl, fun U hU hW => ⟨rfl, by rw [hU], by rw [hU]; exact hPc, va_K.moved hW.alike hKc, hDc.weaken (fun _ _ _ _ => trivial)⟩⟩ rfl rfl hl.1 rfl (lv_room (Nat.le_of_ble_eq_true rfl)) dL_law_279 ⟨(show _ ≤ 1034 by omega), (show _ ≤ 8481 by omega)⟩) hS (fun q _ h => hFc q h) hFc (fun r_4 uv tS H1 locs ht hvm hw_5 hB hz1 hk1 hS => ?_)
      obtain ⟨hP1, hK1, hD1⟩ := hB
      rw [ht] at hP1
      have hK1 := va_K.moved hvm.symm hK1
      try dsimp only at hw_5
      obtain ⟨hP, hD⟩ := va_join (wr := [(h0, .inr (0, [.ref qb, .long kb, .int nx, .int (nI u), .int ek, .int en])), (qb, .inl (cB, 64, .inl fb)), (qo, .inl (cO, 1, .inr (.inl o7)))]) (w1 := [(a1, .inr (1, [.ref q1, .ref q2, .ref q3, .int nx, .int (nI u), .int ed, .int 0, .int ek])), (q1, .inl (cU, 64, .inl fU)), (q2, .inl (cV, 64, .inl fB)), (q3, .inl (cZ, 64, .inl fH))]) hP hD [2, 3, 4, 5] [0, 1, 6] rfl rfl (by decide) (by decide) hk1 hFc hP1 hD1
      generalize H1 = H at hP hS ⊢
      have hP := hP.sub (ws' := [(h0, .inr (0, [.ref qb, .long kb, .int nx, .int (nI u), .int ek, .int en])), (qb, .inl (cB, 64, .inl fb)), (a1, .inr (1, [.ref q1, .ref q2, .ref q3, .int nx, .int (nI u), .int ed, .int 0, .int ek])), (q1, .inl (cU, 64, .inl fU)), (q2, .inl (cV, 64, .inl fB)), (q3, .inl (cZ, 64, .inl fH)), (qo, .inl (cO, 1, .inr (.inl o7)))]) [0, 1, 3, 4, 5, 6, 2] rfl
      have hD := hD.sub (ws' := [(h0, .inr (0, [.ref qb, .long kb, .int nx, .int (nI u), .int ek, .int en])), (qb, .inl (cB, 64, .inl fb)), (a1, .inr (1, [.ref q1, .ref q2, .ref q3, .int nx, .int (nI u), .int ed, .int 0, .int ek])), (q1, .inl (cU, 64, .inl fU)), (q2, .inl (cV, 64, .inl fB)), (q3, .inl (cZ, 64, .inl fH)), (qo, .inl (cO, 1, .inr (.inl o7)))]) [0, 1, 3, 4, 5, 6, 2] (by decide) rfl
      subst hw_5
      refine lv_iload hx hb dL_law_282 (lv_at hl 1 rfl) ?_
      refine lv_icmp_eq (tgt := 289) hx hb dL_law_284 (by decide) (fun c_284 => ?_) (fun c_284 => ?_)
      · refine lv_iload hx hb dL_law_289 (lv_at hl 1 rfl) ?_
        refine lv_if_ne (tgt := 306) hx hb dL_law_291 (by decide) (fun c_291 => ?_) (fun c_291 => ?_)
        · exact absurd rfl c_291
        · refine lv_aload_n hx hb dL_law_294 rfl (lv_at hl 6 rfl) ?_
          refine lv_iconst (v := 0) hx hb dL_law_295 (by decide) ?_
          refine va_lald hx hb hK hP 6 4 rfl rfl inb1_0 dL_law_296 ?_
          refine lv_iload hx hb dL_law_297 (lv_at hl 0 rfl) ?_
          refine lv_i2l (v := r2.toInt64) hx hb dL_law_299 rfl ?_
          refine W.lcmp hx hb dL_law_300 ?_
          refine lv_if_eq (tgt := 306) hx hb dL_law_301 (by decide) (fun c_301 => ?_) (fun c_301 => ?_)
          · refine lv_goto (tgt := 418) hx hb dL_law_306 (by decide) ?_
            obtain ⟨x_6, ex_6⟩ : ∃ y : Int32, y = x4 + 5 := ⟨_, rfl⟩
            refine lv_iinc (v := x_6) (lv' := [(4, .int x_6), (6, .int r2), (5, .int 0), (0, .ref b), (1, .ref h0), (2, .ref a1), (3, .ref qo)]) hx hb dL_law_418 hl (k := 2) rfl (by rw [ex_6]; rfl) (by decide) rfl (fun ls hl => ?_)
            refine lv_goto (tgt := 23) hx hb dL_law_421 (by decide) ?_
            refine W.widen (k := 7 + (t + 1)) (n := 271 + 6 * (t + 1)) (by omega) (by omega) ?_
            exact ih x_6 kb nx ek en ed 0 bs u e9 S fb fU fB fH o7 (x4_up h4 ex_6) hI H _ ls hP hD hS (lv_sub hl [0, 3, 4, 5, 6] rfl)
          · exact absurd (lcmp_eq (by rw [cl_0, w2, er])) c_301
      · exact absurd rfl c_284
end
section
set_option maxHeartbeats 4000000 in
set_option maxRecDepth 100000 in
theorem law_5 {p : Program} {l : Launch} {e : Env} {s : State} {m : MethodId} {below : List Frame} {meth : Method} {c : Code} {dC : Nat → ClassId} {dI : Nat → Nat → Nat} {b h0 qb a1 q1 q2 q3 qo : Nat} {cB cU cV cZ cO : ClassId} {L : Nat} {xs : Nat → Int32} (hst : l.stackTraces = false) (C0 : lw_At p s m meth c b L xs) (hZ : thr (fun q : Nat => s.heap.size ≤ q) s s.heap) (hK : va_K (dC, dI) vwCl [(cB, .byte), (cU, .int), (cV, .int), (cZ, .boolean), (cO, .long)] s) {t : Nat} (ht5 : t < 512) (hLt : 5 * t + 5 ≤ L) (hL : L ≤ 2560) (ih : LawAt p l e s m below meth c dC dI b h0 qb a1 q1 q2 q3 qo cB cU cV cZ cO (t + 1)) (x4 : Int32) (kb : Int64) (nx ek en ed th bs : Int32) (u e9 : Nat) (S : aS) (fb fU fB fH : Nat → Int32) (fo : Nat → Int64) (h4 : x4 = nI (5 * t)) (hI : INV nx ek en ed kb fb fU fB fH bs u e9 S) (H : Heap) (locs : List Loc) (ls : Array Slot) (hP : va_P (dC, dI) vwCl [(h0, .inr (0, [.ref qb, .long kb, .int nx, .int (nI u), .int ek, .int en])), (qb, .inl (cB, 64, .inl fb)), (a1, .inr (1, [.ref q1, .ref q2, .ref q3, .int nx, .int (nI u), .int ed, .int th, .int ek])), (q1, .inl (cU, 64, .inl fU)), (q2, .inl (cV, 64, .inl fB)), (q3, .inl (cZ, 64, .inl fH)), (qo, .inl (cO, 1, .inr (.inl fo)))] H) (hD : va_D (fun q : Nat => s.heap.size ≤ q) [(h0, .inr (0, [.ref qb, .long kb, .int nx, .int (nI u), .int ek, .int en])), (qb, .inl (cB, 64, .inl fb)), (a1, .inr (1, [.ref q1, .ref q2, .ref q3, .int nx, .int (nI u), .int ed, .int th, .int ek])), (q1, .inl (cU, 64, .inl fU)), (q2, .inl (cV, 64, .inl fB)), (q3, .inl (cZ, 64, .inl fH)), (qo, .inl (cO, 1, .inr (.inl fo)))]) (hS : va_S (fun q : Nat => s.heap.size ≤ q) s.heap H locs) (hl : lv_has ls 7 [(4, .int x4), (0, .ref b), (1, .ref h0), (2, .ref a1), (3, .ref qo)]) : W p l e room_1 s m #[Value.ref b] below meth c H locs (7 + t) (271 + 6 * t) (lw_Z below #[Value.ref b] s) (F0 m 309 ls []) := by
  obtain ⟨hx, hb, hr, hml, hown0, hts, hX, hbl, hlocks, hgv⟩ := C0
  have hown : s.vm.findClass RL = some m.cls := hown0
  have hA : ∀ q : Nat, s.heap.size ≤ q → (fun q : Nat => s.heap.size ≤ q) q := fun _ h => h
  have hbA : ¬ (fun q : Nat => s.heap.size ≤ q) b := Nat.not_le.mpr hbl
  have hts1 : ∀ w ∈ wsL_law, w.before #[Value.ref b] s = true := fun w h => hts w (wsL_law_in w h)
  have hts2 : ∀ w ∈ wsL_m, w.before #[Value.ref b] s = true := fun w h => hts w (wsL_m_in w h)
  refine lv_aload_n hx hb dL_law_309 rfl (lv_at hl 2 rfl) ?_
  refine lv_aload_n hx hb dL_law_310 rfl (lv_at hl 1 rfl) ?_
  refine lv_iload hx hb dL_law_311 (lv_at hl 0 rfl) ?_
  refine lv_iconst (v := 1) hx hb dL_law_313 (by decide) ?_
  refine lv_iadd hx hb dL_law_314 ?_
  refine va_sld hx hb hX hbl hbA hS (ld_in (k := 1) h4 (by omega) hL) dL_law_315 ?_
  refine lv_aload_n hx hb dL_law_316 rfl (lv_at hl 1 rfl) ?_
  refine lv_iload hx hb dL_law_317 (lv_at hl 0 rfl) ?_
  refine lv_iconst (v := 2) hx hb dL_law_319 (by decide) ?_
  refine lv_iadd hx hb dL_law_320 ?_
  refine va_sld hx hb hX hbl hbA hS (ld_in (k := 2) h4 (by omega) hL) dL_law_321 ?_
  refine lv_if_eq (tgt := 329) hx hb dL_law_322 (by decide) (fun c_322 => ?_) (fun c_322 => ?_)
  · refine lv_iconst (v := 0) hx hb dL_law_329 (by decide) ?_
    refine lv_aload_n hx hb dL_law_330 rfl (lv_at hl 4 rfl) ?_
    have hPc := hP.sub (ws' := [(h0, .inr (0, [.ref qb, .long kb, .int nx, .int (nI u), .int ek, .int en])), (qb, .inl (cB, 64, .inl fb)), (qo, .inl (cO, 1, .inr (.inl fo)))]) [0, 1, 6] rfl
    have hDc := hD.sub (ws' := [(h0, .inr (0, [.ref qb, .long kb, .int nx, .int (nI u), .int ek, .int en])), (qb, .inl (cB, 64, .inl fb)), (qo, .inl (cO, 1, .inr (.inl fo)))]) [0, 1, 6] (by decide) rfl
    have hKc := hK.sub (tys' := [(cB, .byte), (cO, .long)]) [0, 4] rfl
    have hFc := va_free (wc := [(h0, .inr (0, [.ref qb, .long kb, .int nx, .int (nI u), .int ek, .int en])), (qb, .inl (cB, 64, .inl fb)), (qo, .inl (cO, 1, .inr (.inl fo)))]) hD hS hA [0, 1, 6] rfl
    refine va_calli (vx_runSW (As := [.ref h0, .int (xs (x4 + 1).toNatClampNeg), .int 0, .ref qo]) (rest := []) ⟨hx, hb, hml, hown, hts1⟩ (h_block l hst dC dI h0 qb cB kb nx (nI u) ek en fb qo cO fo (xs (x4 + 1).toNatClampNeg) 0 H.size ) (vx_cwSW 4 hts1 gL_law_L_block rfl rfl rfl (by decide +kernel) ⟨Nat.le_of_ble_eq_true rfl, Nat.le_of_ble_eq_true rfl⟩) ⟨fun a U g mk q => by obtain ⟨q0, q1, qP, qK, qD, qZ⟩ := q; exact ⟨q0, q1, qP, va_K.moved (u := U) (U := U.calling g mk a) (Vm.Alike.refl U.vm) qK, qD, thr_blind qZ⟩, fun U hU hW => ⟨rfl, by rw [hU], by rw [hU]; exact hPc, va_K.moved hW.alike hKc, hDc.weaken (fun _ _ _ _ => trivial), thr_call hZ hS hFc hU hW⟩⟩ rfl rfl hl.1 rfl (lv_room (Nat.le_of_ble_eq_true rfl)) dL_law_331 ⟨(show _ ≤ 1034 by omega), (show _ ≤ 8481 by omega)⟩) hS (fun q _ h => hFc q h) hFc (fun r1 uv tS H1 locs ht hvm hw1 hB hz1 hk1 hS => ?_)
    obtain ⟨o7, rfl⟩ : ∃ z, z = uv := ⟨_, rfl⟩
    obtain ⟨hP1, hK1, hD1⟩ := hB
    rw [ht] at hP1
    have hK1 := va_K.moved hvm.symm hK1
    try dsimp only at hw1
    obtain ⟨hP, hD⟩ := va_join (wr := [(a1, .inr (1, [.ref q1, .ref q2, .ref q3, .int nx, .int (nI u), .int ed, .int th, .int ek])), (q1, .inl (cU, 64, .inl fU)), (q2, .inl (cV, 64, .inl fB)), (q3, .inl (cZ, 64, .inl fH))]) (w1 := [(h0, .inr (0, [.ref qb, .long kb, .int nx, .int (nI u), .int ek, .int en])), (qb, .inl (cB, 64, .inl fb)), (qo, .inl (cO, 1, .inr (.inl o7)))]) hP hD [0, 1, 6] [2, 3, 4, 5] rfl rfl (by decide) (by decide) hk1 hFc hP1 hD1
    generalize H1 = H at hP hS ⊢
    have hP := hP.sub (ws' := [(h0, .inr (0, [.ref qb, .long kb, .int nx, .int (nI u), .int ek, .int en])), (qb, .inl (cB, 64, .inl fb)), (a1, .inr (1, [.ref q1, .ref q2, .ref q3, .int nx, .int (nI u), .int ed, .int th, .int ek])), (q1, .inl (cU, 64, .inl fU)), (q2, .inl (cV, 64, .inl fB)), (q3, .inl (cZ, 64, .inl fH)), (qo, .inl (cO, 1, .inr (.inl o7)))]) [4, 5, 0, 1, 2, 3, 6] rfl
    have hD := hD.sub (ws' := [(h0, .inr (0, [.ref qb, .long kb, .int nx, .int (nI u), .int ek, .int en])), (qb, .inl (cB, 64, .inl fb)), (a1, .inr (1, [.ref q1, .ref q2, .ref q3, .int nx, .int (nI u), .int ed, .int th, .int ek])), (q1, .inl (cU, 64, .inl fU)), (q2, .inl (cV, 64, .inl fB)), (q3, .inl (cZ, 64, .inl fH)), (qo, .inl (cO, 1, .inr (.inl o7)))]) [4, 5, 0, 1, 2, 3, 6] (by decide) rfl
    refine lv_istore (lv' := [(5, .int r1), (4, .int x4), (0, .ref b), (1, .ref h0), (2, .ref a1), (3, .ref qo)]) hx hb dL_law_334 hl (by decide) rfl (fun ls hl => ?_)
    refine lv_aload_n hx hb dL_law_336 rfl (lv_at hl 4 rfl) ?_
    refine lv_aload_n hx hb dL_law_337 rfl (lv_at hl 2 rfl) ?_
    refine lv_iload hx hb dL_law_338 (lv_at hl 1 rfl) ?_
    refine lv_iconst (v := 1) hx hb dL_law_340 (by decide) ?_
    refine lv_iadd hx hb dL_law_341 ?_
    refine va_sld hx hb hX hbl hbA hS (ld_in (k := 1) h4 (by omega) hL) dL_law_342 ?_
    refine lv_aload_n hx hb dL_law_343 rfl (lv_at hl 2 rfl) ?_
    refine lv_iload hx hb dL_law_344 (lv_at hl 1 rfl) ?_
    refine lv_iconst (v := 2) hx hb dL_law_346 (by decide) ?_
    refine lv_iadd hx hb dL_law_347 ?_
    refine va_sld hx hb hX hbl hbA hS (ld_in (k := 2) h4 (by omega) hL) dL_law_348 ?_
    refine lv_if_eq (tgt := 356) hx hb dL_law_349 (by decide) (fun c_349 => ?_) (fun c_349 => ?_)
    · refine lv_iconst (v := 0) hx hb dL_law_356 (by decide) ?_
      have hPc := hP.sub (ws' := [(a1, .inr (1, [.ref q1, .ref q2, .ref q3, .int nx, .int (nI u), .int ed, .int th, .int ek])), (q1, .inl (cU, 64, .inl fU)), (q2, .inl (cV, 64, .inl fB)), (q3, .inl (cZ, 64, .inl fH))]) [2, 3, 4, 5] rfl
      have hDc := hD.sub (ws' := [(a1, .inr (1, [.ref q1, .ref q2, .ref q3, .int nx, .int (nI u), .int ed, .int th, .int ek])), (q1, .inl (cU, 64, .inl fU)), (q2, .inl (cV, 64, .inl fB)), (q3, .inl (cZ, 64, .inl fH))]) [2, 3, 4, 5] (by decide) rfl
      have hKc := hK.sub (tys' := [(cU, .int), (cV, .int), (cZ, .boolean)]) [1, 2, 3] rfl
      have hFc := va_free (wc := [(a1, .inr (1, [.ref q1, .ref q2, .ref q3, .int nx, .int (nI u), .int ed, .int th, .int ek])), (q1, .inl (cU, 64, .inl fU)), (q2, .inl (cV, 64, .inl fB)), (q3, .inl (cZ, 64, .inl fH))]) hD hS hA [2, 3, 4, 5] rfl
      refine va_calli (va_runV (As := [.int (xs (x4 + 1).toNatClampNeg), .int 0]) (rest := []) ⟨hx, hb, hml, hown, hts2⟩ (m_block l dC dI a1 q1 q2 q3 cU cV cZ nx (nI u) ed th ek fU fB fH (xs (x4 + 1).toNatClampNeg) 0 H.size ) (cwV 2 hts2 gL_m_X1_block rfl rfl rfl (by decide +kernel) ⟨Nat.le_of_ble_eq_true rfl, Nat.le_of_ble_eq_true rfl⟩) ⟨fun a U g mk q => by obtain ⟨q0, q1, qP, qK, qD⟩ := q; exact ⟨q0, q1, qP, va_K.moved (u := U) (U := U.calling g mk a) (Vm.Alike.refl U.vm) qK, qD⟩, va_recv hKc hPc (ci := 1) (q0 := 0) rfl rfl, fun U hU hW => ⟨rfl, by rw [hU], by rw [hU]; exact hPc, va_K.moved hW.alike hKc, hDc.weaken (fun _ _ _ _ => trivial)⟩⟩ rfl rfl hl.1 rfl (lv_room (Nat.le_of_ble_eq_true rfl)) dL_law_357 ⟨(show _ ≤ 1034 by omega), (show _ ≤ 8481 by omega)⟩) hS (fun q _ h => hFc q h) hFc (fun r2 uv tS H1 locs ht hvm hw2 hB hz1 hk1 hS => ?_)
      obtain ⟨t8, rfl⟩ : ∃ z, z = uv := ⟨_, rfl⟩
      obtain ⟨hP1, hK1, hD1⟩ := hB
      rw [ht] at hP1
      have hK1 := va_K.moved hvm.symm hK1
      try dsimp only at hw2
      obtain ⟨hP, hD⟩ := va_join (wr := [(h0, .inr (0, [.ref qb, .long kb, .int nx, .int (nI u), .int ek, .int en])), (qb, .inl (cB, 64, .inl fb)), (qo, .inl (cO, 1, .inr (.inl o7)))]) (w1 := [(a1, .inr (1, [.ref q1, .ref q2, .ref q3, .int nx, .int (nI u), .int ed, .int t8, .int ek])), (q1, .inl (cU, 64, .inl fU)), (q2, .inl (cV, 64, .inl fB)), (q3, .inl (cZ, 64, .inl fH))]) hP hD [2, 3, 4, 5] [0, 1, 6] rfl rfl (by decide) (by decide) hk1 hFc hP1 hD1
      generalize H1 = H at hP hS ⊢
      have hP := hP.sub (ws' := [(h0, .inr (0, [.ref qb, .long kb, .int nx, .int (nI u), .int ek, .int en])), (qb, .inl (cB, 64, .inl fb)), (a1, .inr (1, [.ref q1, .ref q2, .ref q3, .int nx, .int (nI u), .int ed, .int t8, .int ek])), (q1, .inl (cU, 64, .inl fU)), (q2, .inl (cV, 64, .inl fB)), (q3, .inl (cZ, 64, .inl fH)), (qo, .inl (cO, 1, .inr (.inl o7)))]) [0, 1, 3, 4, 5, 6, 2] rfl
      have hD := hD.sub (ws' := [(h0, .inr (0, [.ref qb, .long kb, .int nx, .int (nI u), .int ek, .int en])), (qb, .inl (cB, 64, .inl fb)), (a1, .inr (1, [.ref q1, .ref q2, .ref q3, .int nx, .int (nI u), .int ed, .int t8, .int ek])), (q1, .inl (cU, 64, .inl fU)), (q2, .inl (cV, 64, .inl fB)), (q3, .inl (cZ, 64, .inl fH)), (qo, .inl (cO, 1, .inr (.inl o7)))]) [0, 1, 3, 4, 5, 6, 2] (by decide) rfl
      rcases hw1 with ⟨w1, w2⟩ | ⟨w1, r9, w2, i0, k, w3, w4, w5, w6, w7, w8⟩
      · rcases hw2 with ⟨v2, v1⟩ | ⟨v2, i1, k1, v3, v4, v5, v6, v7, v8⟩
        · have w1 := w1.symm
          subst w1
          have v2 := v2.symm
          subst v2
          refine lv_istore (lv' := [(6, .int r2), (5, .int 1), (4, .int x4), (0, .ref b), (1, .ref h0), (2, .ref a1), (3, .ref qo)]) hx hb dL_law_360 hl (by decide) rfl (fun ls hl => ?_)
          refine lv_aload_n hx hb dL_law_362 rfl (lv_at hl 5 rfl) ?_
          have hPc := hP.sub (ws' := [(a1, .inr (1, [.ref q1, .ref q2, .ref q3, .int nx, .int (nI u), .int ed, .int 1, .int ek])), (q1, .inl (cU, 64, .inl fU)), (q2, .inl (cV, 64, .inl fB)), (q3, .inl (cZ, 64, .inl fH))]) [2, 3, 4, 5] rfl
          have hDc := hD.sub (ws' := [(a1, .inr (1, [.ref q1, .ref q2, .ref q3, .int nx, .int (nI u), .int ed, .int 1, .int ek])), (q1, .inl (cU, 64, .inl fU)), (q2, .inl (cV, 64, .inl fB)), (q3, .inl (cZ, 64, .inl fH))]) [2, 3, 4, 5] (by decide) rfl
          have hKc := hK.sub (tys' := [(cU, .int), (cV, .int), (cZ, .boolean)]) [1, 2, 3] rfl
          have hFc := va_free (wc := [(a1, .inr (1, [.ref q1, .ref q2, .ref q3, .int nx, .int (nI u), .int ed, .int 1, .int ek])), (q1, .inl (cU, 64, .inl fU)), (q2, .inl (cV, 64, .inl fB)), (q3, .inl (cZ, 64, .inl fH))]) hD hS hA [2, 3, 4, 5] rfl
          refine va_calli (va_runV (As := []) (rest := []) ⟨hx, hb, hml, hown, hts1⟩ (m_thrown l dC dI a1 q1 q2 q3 cU cV cZ nx (nI u) ed 1 ek fU fB fH H.size ) (cwV 0 hts1 gL_law_X1_thrown rfl rfl rfl (by decide +kernel) ⟨Nat.le_of_ble_eq_true rfl, Nat.le_of_ble_eq_true rfl⟩) ⟨fun a U g mk q => by obtain ⟨q0, q1, qP, qK, qD⟩ := q; exact ⟨q0, q1, qP, va_K.moved (u := U) (U := U.calling g mk a) (Vm.Alike.refl U.vm) qK, qD⟩, va_recv hKc hPc (ci := 1) (q0 := 0) rfl rfl, fun U hU hW => ⟨rfl, by rw [hU], by rw [hU]; exact hPc, va_K.moved hW.alike hKc, hDc.weaken (fun _ _ _ _ => trivial)⟩⟩ rfl rfl hl.1 rfl (lv_room (Nat.le_of_ble_eq_true rfl)) dL_law_363 ⟨(show _ ≤ 1034 by omega), (show _ ≤ 8481 by omega)⟩) hS (fun q _ h => hFc q h) hFc (fun r_1 uv tS H1 locs ht hvm hw_2 hB hz1 hk1 hS => ?_)
          obtain ⟨hP1, hK1, hD1⟩ := hB
          rw [ht] at hP1
          have hK1 := va_K.moved hvm.symm hK1
          try dsimp only at hw_2
          obtain ⟨hP, hD⟩ := va_join (wr := [(h0, .inr (0, [.ref qb, .long kb, .int nx, .int (nI u), .int ek, .int en])), (qb, .inl (cB, 64, .inl fb)), (qo, .inl (cO, 1, .inr (.inl o7)))]) (w1 := [(a1, .inr (1, [.ref q1, .ref q2, .ref q3, .int nx, .int (nI u), .int ed, .int 1, .int ek])), (q1, .inl (cU, 64, .inl fU)), (q2, .inl (cV, 64, .inl fB)), (q3, .inl (cZ, 64, .inl fH))]) hP hD [2, 3, 4, 5] [0, 1, 6] rfl rfl (by decide) (by decide) hk1 hFc hP1 hD1
          generalize H1 = H at hP hS ⊢
          have hP := hP.sub (ws' := [(h0, .inr (0, [.ref qb, .long kb, .int nx, .int (nI u), .int ek, .int en])), (qb, .inl (cB, 64, .inl fb)), (a1, .inr (1, [.ref q1, .ref q2, .ref q3, .int nx, .int (nI u), .int ed, .int 1, .int ek])), (q1, .inl (cU, 64, .inl fU)), (q2, .inl (cV, 64, .inl fB)), (q3, .inl (cZ, 64, .inl fH)), (qo, .inl (cO, 1, .inr (.inl o7)))]) [0, 1, 3, 4, 5, 6, 2] rfl
          have hD := hD.sub (ws' := [(h0, .inr (0, [.ref qb, .long kb, .int nx, .int (nI u), .int ek, .int en])), (qb, .inl (cB, 64, .inl fb)), (a1, .inr (1, [.ref q1, .ref q2, .ref q3, .int nx, .int (nI u), .int ed, .int 1, .int ek])), (q1, .inl (cU, 64, .inl fU)), (q2, .inl (cV, 64, .inl fB)), (q3, .inl (cZ, 64, .inl fH)), (qo, .inl (cO, 1, .inr (.inl o7)))]) [0, 1, 3, 4, 5, 6, 2] (by decide) rfl
          subst hw_2
          refine lv_iload hx hb dL_law_366 (lv_at hl 1 rfl) ?_
          refine lv_icmp_eq (tgt := 373) hx hb dL_law_368 (by decide) (fun c_368 => ?_) (fun c_368 => ?_)
          · refine lv_iload hx hb dL_law_373 (lv_at hl 1 rfl) ?_
            refine lv_if_ne (tgt := 390) hx hb dL_law_375 (by decide) (fun c_375 => ?_) (fun c_375 => ?_)
            · refine lv_goto (tgt := 418) hx hb dL_law_390 (by decide) ?_
              obtain ⟨x_3, ex_3⟩ : ∃ y : Int32, y = x4 + 5 := ⟨_, rfl⟩
              refine lv_iinc (v := x_3) (lv' := [(4, .int x_3), (6, .int r2), (5, .int 1), (0, .ref b), (1, .ref h0), (2, .ref a1), (3, .ref qo)]) hx hb dL_law_418 hl (k := 2) rfl (by rw [ex_3]; rfl) (by decide) rfl (fun ls hl => ?_)
              refine lv_goto (tgt := 23) hx hb dL_law_421 (by decide) ?_
              refine W.widen (k := 7 + (t + 1)) (n := 271 + 6 * (t + 1)) (by omega) (by omega) ?_
              exact ih x_3 kb nx ek en ed 1 bs u e9 S fb fU fB fH o7 (x4_up h4 ex_3) hI H _ ls hP hD hS (lv_sub hl [0, 3, 4, 5, 6] rfl)
            · exact absurd c_375 (by decide)
          · exact absurd rfl c_368
        · exact (g_blk_cm hI w2 v3 v4 v5 v6 v7).elim
      · rcases hw2 with ⟨v2, v1⟩ | ⟨v2, i1, k1, v3, v4, v5, v6, v7, v8⟩
        · exact (g_blk_mc hI w3 w4 v1).elim
        · have er := g_blk hI w3 w4 w5 w6 w7 w8 v3 v4 v5 v6 v7 v8
          have w1 := w1.symm
          subst w1
          have v2 := v2.symm
          subst v2
          refine lv_istore (lv' := [(6, .int r2), (5, .int 0), (4, .int x4), (0, .ref b), (1, .ref h0), (2, .ref a1), (3, .ref qo)]) hx hb dL_law_360 hl (by decide) rfl (fun ls hl => ?_)
          refine lv_aload_n hx hb dL_law_362 rfl (lv_at hl 5 rfl) ?_
          have hPc := hP.sub (ws' := [(a1, .inr (1, [.ref q1, .ref q2, .ref q3, .int nx, .int (nI u), .int ed, .int 0, .int ek])), (q1, .inl (cU, 64, .inl fU)), (q2, .inl (cV, 64, .inl fB)), (q3, .inl (cZ, 64, .inl fH))]) [2, 3, 4, 5] rfl
          have hDc := hD.sub (ws' := [(a1, .inr (1, [.ref q1, .ref q2, .ref q3, .int nx, .int (nI u), .int ed, .int 0, .int ek])), (q1, .inl (cU, 64, .inl fU)), (q2, .inl (cV, 64, .inl fB)), (q3, .inl (cZ, 64, .inl fH))]) [2, 3, 4, 5] (by decide) rfl
          have hKc := hK.sub (tys' := [(cU, .int), (cV, .int), (cZ, .boolean)]) [1, 2, 3] rfl
          have hFc := va_free (wc := [(a1, .inr (1, [.ref q1, .ref q2, .ref q3, .int nx, .int (nI u), .int ed, .int 0, .int ek])), (q1, .inl (cU, 64, .inl fU)), (q2, .inl (cV, 64, .inl fB)), (q3, .inl (cZ, 64, .inl fH))]) hD hS hA [2, 3, 4, 5] rfl
          refine va_calli (va_runV (As := []) (rest := []) ⟨hx, hb, hml, hown, hts1⟩ (m_thrown l dC dI a1 q1 q2 q3 cU cV cZ nx (nI u) ed 0 ek fU fB fH H.size ) (cwV 0 hts1 gL_law_X1_thrown rfl rfl rfl (by decide +kernel) ⟨Nat.le_of_ble_eq_true rfl, Nat.le_of_ble_eq_true rfl⟩) ⟨fun a U g mk q => by obtain ⟨q0, q1, qP, qK, qD⟩ := q; exact ⟨q0, q1, qP, va_K.moved (u := U) (U := U.calling g mk a) (Vm.Alike.refl U.vm) qK, qD⟩, va_recv hKc hPc (ci := 1) (q0 := 0) rfl rfl, fun U hU hW => ⟨rfl, by rw [hU], by rw [hU]; exact hPc, va_K.moved hW.alike hKc, hDc.weaken (fun _ _ _ _ => trivial)⟩⟩ rfl rfl hl.1 rfl (lv_room (Nat.le_of_ble_eq_true rfl)) dL_law_363 ⟨(show _ ≤ 1034 by omega), (show _ ≤ 8481 by omega)⟩) hS (fun q _ h => hFc q h) hFc (fun r_4 uv tS H1 locs ht hvm hw_5 hB hz1 hk1 hS => ?_)
          obtain ⟨hP1, hK1, hD1⟩ := hB
          rw [ht] at hP1
          have hK1 := va_K.moved hvm.symm hK1
          try dsimp only at hw_5
          obtain ⟨hP, hD⟩ := va_join (wr := [(h0, .inr (0, [.ref qb, .long kb, .int nx, .int (nI u), .int ek, .int en])), (qb, .inl (cB, 64, .inl fb)), (qo, .inl (cO, 1, .inr (.inl o7)))]) (w1 := [(a1, .inr (1, [.ref q1, .ref q2, .ref q3, .int nx, .int (nI u), .int ed, .int 0, .int ek])), (q1, .inl (cU, 64, .inl fU)), (q2, .inl (cV, 64, .inl fB)), (q3, .inl (cZ, 64, .inl fH))]) hP hD [2, 3, 4, 5] [0, 1, 6] rfl rfl (by decide) (by decide) hk1 hFc hP1 hD1
          generalize H1 = H at hP hS ⊢
          have hP := hP.sub (ws' := [(h0, .inr (0, [.ref qb, .long kb, .int nx, .int (nI u), .int ek, .int en])), (qb, .inl (cB, 64, .inl fb)), (a1, .inr (1, [.ref q1, .ref q2, .ref q3, .int nx, .int (nI u), .int ed, .int 0, .int ek])), (q1, .inl (cU, 64, .inl fU)), (q2, .inl (cV, 64, .inl fB)), (q3, .inl (cZ, 64, .inl fH)), (qo, .inl (cO, 1, .inr (.inl o7)))]) [0, 1, 3, 4, 5, 6, 2] rfl
          have hD := hD.sub (ws' := [(h0, .inr (0, [.ref qb, .long kb, .int nx, .int (nI u), .int ek, .int en])), (qb, .inl (cB, 64, .inl fb)), (a1, .inr (1, [.ref q1, .ref q2, .ref q3, .int nx, .int (nI u), .int ed, .int 0, .int ek])), (q1, .inl (cU, 64, .inl fU)), (q2, .inl (cV, 64, .inl fB)), (q3, .inl (cZ, 64, .inl fH)), (qo, .inl (cO, 1, .inr (.inl o7)))]) [0, 1, 3, 4, 5, 6, 2] (by decide) rfl
          subst hw_5
          refine lv_iload hx hb dL_law_366 (lv_at hl 1 rfl) ?_
          refine lv_icmp_eq (tgt := 373) hx hb dL_law_368 (by decide) (fun c_368 => ?_) (fun c_368 => ?_)
          · refine lv_iload hx hb dL_law_373 (lv_at hl 1 rfl) ?_
            refine lv_if_ne (tgt := 390) hx hb dL_law_375 (by decide) (fun c_375 => ?_) (fun c_375 => ?_)
            · exact absurd rfl c_375
            · refine lv_aload_n hx hb dL_law_378 rfl (lv_at hl 6 rfl) ?_
              refine lv_iconst (v := 0) hx hb dL_law_379 (by decide) ?_
              refine va_lald hx hb hK hP 6 4 rfl rfl inb1_0 dL_law_380 ?_
              refine lv_iload hx hb dL_law_381 (lv_at hl 0 rfl) ?_
              refine lv_i2l (v := r2.toInt64) hx hb dL_law_383 rfl ?_
              refine W.lcmp hx hb dL_law_384 ?_
              refine lv_if_eq (tgt := 390) hx hb dL_law_385 (by decide) (fun c_385 => ?_) (fun c_385 => ?_)
              · refine lv_goto (tgt := 418) hx hb dL_law_390 (by decide) ?_
                obtain ⟨x_6, ex_6⟩ : ∃ y : Int32, y = x4 + 5 := ⟨_, rfl⟩
                refine lv_iinc (v := x_6) (lv' := [(4, .int x_6), (6, .int r2), (5, .int 0), (0, .ref b), (1, .ref h0), (2, .ref a1), (3, .ref qo)]) hx hb dL_law_418 hl (k := 2) rfl (by rw [ex_6]; rfl) (by decide) rfl (fun ls hl => ?_)
                refine lv_goto (tgt := 23) hx hb dL_law_421 (by decide) ?_
                refine W.widen (k := 7 + (t + 1)) (n := 271 + 6 * (t + 1)) (by omega) (by omega) ?_
                exact ih x_6 kb nx ek en ed 0 bs u e9 S fb fU fB fH o7 (x4_up h4 ex_6) hI H _ ls hP hD hS (lv_sub hl [0, 3, 4, 5, 6] rfl)
              · exact absurd (lcmp_eq (by rw [cl_0, w2, er])) c_385
          · exact absurd rfl c_368
    · exact absurd c_322 c_349
  · refine lv_iconst (v := 1) hx hb dL_law_325 (by decide) ?_
    refine lv_goto (tgt := 330) hx hb dL_law_326 (by decide) ?_
    refine lv_aload_n hx hb dL_law_330 rfl (lv_at hl 4 rfl) ?_
    have hPc := hP.sub (ws' := [(h0, .inr (0, [.ref qb, .long kb, .int nx, .int (nI u), .int ek, .int en])), (qb, .inl (cB, 64, .inl fb)), (qo, .inl (cO, 1, .inr (.inl fo)))]) [0, 1, 6] rfl
    have hDc := hD.sub (ws' := [(h0, .inr (0, [.ref qb, .long kb, .int nx, .int (nI u), .int ek, .int en])), (qb, .inl (cB, 64, .inl fb)), (qo, .inl (cO, 1, .inr (.inl fo)))]) [0, 1, 6] (by decide) rfl
    have hKc := hK.sub (tys' := [(cB, .byte), (cO, .long)]) [0, 4] rfl
    have hFc := va_free (wc := [(h0, .inr (0, [.ref qb, .long kb, .int nx, .int (nI u), .int ek, .int en])), (qb, .inl (cB, 64, .inl fb)), (qo, .inl (cO, 1, .inr (.inl fo)))]) hD hS hA [0, 1, 6] rfl
    refine va_calli (vx_runSW (As := [.ref h0, .int (xs (x4 + 1).toNatClampNeg), .int 1, .ref qo]) (rest := []) ⟨hx, hb, hml, hown, hts1⟩ (h_block l hst dC dI h0 qb cB kb nx (nI u) ek en fb qo cO fo (xs (x4 + 1).toNatClampNeg) 1 H.size ) (vx_cwSW 4 hts1 gL_law_L_block rfl rfl rfl (by decide +kernel) ⟨Nat.le_of_ble_eq_true rfl, Nat.le_of_ble_eq_true rfl⟩) ⟨fun a U g mk q => by obtain ⟨q0, q1, qP, qK, qD, qZ⟩ := q; exact ⟨q0, q1, qP, va_K.moved (u := U) (U := U.calling g mk a) (Vm.Alike.refl U.vm) qK, qD, thr_blind qZ⟩, fun U hU hW => ⟨rfl, by rw [hU], by rw [hU]; exact hPc, va_K.moved hW.alike hKc, hDc.weaken (fun _ _ _ _ => trivial), thr_call hZ hS hFc hU hW⟩⟩ rfl rfl hl.1 rfl (lv_room (Nat.le_of_ble_eq_true rfl)) dL_law_331 ⟨(show _ ≤ 1034 by omega), (show _ ≤ 8481 by omega)⟩) hS (fun q _ h => hFc q h) hFc (fun r1 uv tS H1 locs ht hvm hw1 hB hz1 hk1 hS => ?_)
    obtain ⟨o7, rfl⟩ : ∃ z, z = uv := ⟨_, rfl⟩
    obtain ⟨hP1, hK1, hD1⟩ := hB
    rw [ht] at hP1
    have hK1 := va_K.moved hvm.symm hK1
    try dsimp only at hw1
    obtain ⟨hP, hD⟩ := va_join (wr := [(a1, .inr (1, [.ref q1, .ref q2, .ref q3, .int nx, .int (nI u), .int ed, .int th, .int ek])), (q1, .inl (cU, 64, .inl fU)), (q2, .inl (cV, 64, .inl fB)), (q3, .inl (cZ, 64, .inl fH))]) (w1 := [(h0, .inr (0, [.ref qb, .long kb, .int nx, .int (nI u), .int ek, .int en])), (qb, .inl (cB, 64, .inl fb)), (qo, .inl (cO, 1, .inr (.inl o7)))]) hP hD [0, 1, 6] [2, 3, 4, 5] rfl rfl (by decide) (by decide) hk1 hFc hP1 hD1
    generalize H1 = H at hP hS ⊢
    have hP := hP.sub (ws' := [(h0, .inr (0, [.ref qb, .long kb, .int nx, .int (nI u), .int ek, .int en])), (qb, .inl (cB, 64, .inl fb)), (a1, .inr (1, [.ref q1, .ref q2, .ref q3, .int nx, .int (nI u), .int ed, .int th, .int ek])), (q1, .inl (cU, 64, .inl fU)), (q2, .inl (cV, 64, .inl fB)), (q3, .inl (cZ, 64, .inl fH)), (qo, .inl (cO, 1, .inr (.inl o7)))]) [4, 5, 0, 1, 2, 3, 6] rfl
    have hD := hD.sub (ws' := [(h0, .inr (0, [.ref qb, .long kb, .int nx, .int (nI u), .int ek, .int en])), (qb, .inl (cB, 64, .inl fb)), (a1, .inr (1, [.ref q1, .ref q2, .ref q3, .int nx, .int (nI u), .int ed, .int th, .int ek])), (q1, .inl (cU, 64, .inl fU)), (q2, .inl (cV, 64, .inl fB)), (q3, .inl (cZ, 64, .inl fH)), (qo, .inl (cO, 1, .inr (.inl o7)))]) [4, 5, 0, 1, 2, 3, 6] (by decide) rfl
    refine lv_istore (lv' := [(5, .int r1), (4, .int x4), (0, .ref b), (1, .ref h0), (2, .ref a1), (3, .ref qo)]) hx hb dL_law_334 hl (by decide) rfl (fun ls hl => ?_)
    refine lv_aload_n hx hb dL_law_336 rfl (lv_at hl 4 rfl) ?_
    refine lv_aload_n hx hb dL_law_337 rfl (lv_at hl 2 rfl) ?_
    refine lv_iload hx hb dL_law_338 (lv_at hl 1 rfl) ?_
    refine lv_iconst (v := 1) hx hb dL_law_340 (by decide) ?_
    refine lv_iadd hx hb dL_law_341 ?_
    refine va_sld hx hb hX hbl hbA hS (ld_in (k := 1) h4 (by omega) hL) dL_law_342 ?_
    refine lv_aload_n hx hb dL_law_343 rfl (lv_at hl 2 rfl) ?_
    refine lv_iload hx hb dL_law_344 (lv_at hl 1 rfl) ?_
    refine lv_iconst (v := 2) hx hb dL_law_346 (by decide) ?_
    refine lv_iadd hx hb dL_law_347 ?_
    refine va_sld hx hb hX hbl hbA hS (ld_in (k := 2) h4 (by omega) hL) dL_law_348 ?_
    refine lv_if_eq (tgt := 356) hx hb dL_law_349 (by decide) (fun c_349 => ?_) (fun c_349 => ?_)
    · exact absurd c_349 c_322
    · refine lv_iconst (v := 1) hx hb dL_law_352 (by decide) ?_
      refine lv_goto (tgt := 357) hx hb dL_law_353 (by decide) ?_
      have hPc := hP.sub (ws' := [(a1, .inr (1, [.ref q1, .ref q2, .ref q3, .int nx, .int (nI u), .int ed, .int th, .int ek])), (q1, .inl (cU, 64, .inl fU)), (q2, .inl (cV, 64, .inl fB)), (q3, .inl (cZ, 64, .inl fH))]) [2, 3, 4, 5] rfl
      have hDc := hD.sub (ws' := [(a1, .inr (1, [.ref q1, .ref q2, .ref q3, .int nx, .int (nI u), .int ed, .int th, .int ek])), (q1, .inl (cU, 64, .inl fU)), (q2, .inl (cV, 64, .inl fB)), (q3, .inl (cZ, 64, .inl fH))]) [2, 3, 4, 5] (by decide) rfl
      have hKc := hK.sub (tys' := [(cU, .int), (cV, .int), (cZ, .boolean)]) [1, 2, 3] rfl
      have hFc := va_free (wc := [(a1, .inr (1, [.ref q1, .ref q2, .ref q3, .int nx, .int (nI u), .int ed, .int th, .int ek])), (q1, .inl (cU, 64, .inl fU)), (q2, .inl (cV, 64, .inl fB)), (q3, .inl (cZ, 64, .inl fH))]) hD hS hA [2, 3, 4, 5] rfl
      refine va_calli (va_runV (As := [.int (xs (x4 + 1).toNatClampNeg), .int 1]) (rest := []) ⟨hx, hb, hml, hown, hts2⟩ (m_block l dC dI a1 q1 q2 q3 cU cV cZ nx (nI u) ed th ek fU fB fH (xs (x4 + 1).toNatClampNeg) 1 H.size ) (cwV 2 hts2 gL_m_X1_block rfl rfl rfl (by decide +kernel) ⟨Nat.le_of_ble_eq_true rfl, Nat.le_of_ble_eq_true rfl⟩) ⟨fun a U g mk q => by obtain ⟨q0, q1, qP, qK, qD⟩ := q; exact ⟨q0, q1, qP, va_K.moved (u := U) (U := U.calling g mk a) (Vm.Alike.refl U.vm) qK, qD⟩, va_recv hKc hPc (ci := 1) (q0 := 0) rfl rfl, fun U hU hW => ⟨rfl, by rw [hU], by rw [hU]; exact hPc, va_K.moved hW.alike hKc, hDc.weaken (fun _ _ _ _ => trivial)⟩⟩ rfl rfl hl.1 rfl (lv_room (Nat.le_of_ble_eq_true rfl)) dL_law_357 ⟨(show _ ≤ 1034 by omega), (show _ ≤ 8481 by omega)⟩) hS (fun q _ h => hFc q h) hFc (fun r2 uv tS H1 locs ht hvm hw2 hB hz1 hk1 hS => ?_)
      obtain ⟨t8, rfl⟩ : ∃ z, z = uv := ⟨_, rfl⟩
      obtain ⟨hP1, hK1, hD1⟩ := hB
      rw [ht] at hP1
      have hK1 := va_K.moved hvm.symm hK1
      try dsimp only at hw2
      obtain ⟨hP, hD⟩ := va_join (wr := [(h0, .inr (0, [.ref qb, .long kb, .int nx, .int (nI u), .int ek, .int en])), (qb, .inl (cB, 64, .inl fb)), (qo, .inl (cO, 1, .inr (.inl o7)))]) (w1 := [(a1, .inr (1, [.ref q1, .ref q2, .ref q3, .int nx, .int (nI u), .int ed, .int t8, .int ek])), (q1, .inl (cU, 64, .inl fU)), (q2, .inl (cV, 64, .inl fB)), (q3, .inl (cZ, 64, .inl fH))]) hP hD [2, 3, 4, 5] [0, 1, 6] rfl rfl (by decide) (by decide) hk1 hFc hP1 hD1
      generalize H1 = H at hP hS ⊢
      have hP := hP.sub (ws' := [(h0, .inr (0, [.ref qb, .long kb, .int nx, .int (nI u), .int ek, .int en])), (qb, .inl (cB, 64, .inl fb)), (a1, .inr (1, [.ref q1, .ref q2, .ref q3, .int nx, .int (nI u), .int ed, .int t8, .int ek])), (q1, .inl (cU, 64, .inl fU)), (q2, .inl (cV, 64, .inl fB)), (q3, .inl (cZ, 64, .inl fH)), (qo, .inl (cO, 1, .inr (.inl o7)))]) [0, 1, 3, 4, 5, 6, 2] rfl
      have hD := hD.sub (ws' := [(h0, .inr (0, [.ref qb, .long kb, .int nx, .int (nI u), .int ek, .int en])), (qb, .inl (cB, 64, .inl fb)), (a1, .inr (1, [.ref q1, .ref q2, .ref q3, .int nx, .int (nI u), .int ed, .int t8, .int ek])), (q1, .inl (cU, 64, .inl fU)), (q2, .inl (cV, 64, .inl fB)), (q3, .inl (cZ, 64, .inl fH)), (qo, .inl (cO, 1, .inr (.inl o7)))]) [0, 1, 3, 4, 5, 6, 2] (by decide) rfl
      rcases hw1 with ⟨w1, w2⟩ | ⟨w1, r9, w2, i0, k, w3, w4, w5, w6, w7, w8⟩
      · rcases hw2 with ⟨v2, v1⟩ | ⟨v2, i1, k1, v3, v4, v5, v6, v7, v8⟩
        · have w1 := w1.symm
          subst w1
          have v2 := v2.symm
          subst v2
          refine lv_istore (lv' := [(6, .int r2), (5, .int 1), (4, .int x4), (0, .ref b), (1, .ref h0), (2, .ref a1), (3, .ref qo)]) hx hb dL_law_360 hl (by decide) rfl (fun ls hl => ?_)
          refine lv_aload_n hx hb dL_law_362 rfl (lv_at hl 5 rfl) ?_
          have hPc := hP.sub (ws' := [(a1, .inr (1, [.ref q1, .ref q2, .ref q3, .int nx, .int (nI u), .int ed, .int 1, .int ek])), (q1, .inl (cU, 64, .inl fU)), (q2, .inl (cV, 64, .inl fB)), (q3, .inl (cZ, 64, .inl fH))]) [2, 3, 4, 5] rfl
          have hDc := hD.sub (ws' := [(a1, .inr (1, [.ref q1, .ref q2, .ref q3, .int nx, .int (nI u), .int ed, .int 1, .int ek])), (q1, .inl (cU, 64, .inl fU)), (q2, .inl (cV, 64, .inl fB)), (q3, .inl (cZ, 64, .inl fH))]) [2, 3, 4, 5] (by decide) rfl
          have hKc := hK.sub (tys' := [(cU, .int), (cV, .int), (cZ, .boolean)]) [1, 2, 3] rfl
          have hFc := va_free (wc := [(a1, .inr (1, [.ref q1, .ref q2, .ref q3, .int nx, .int (nI u), .int ed, .int 1, .int ek])), (q1, .inl (cU, 64, .inl fU)), (q2, .inl (cV, 64, .inl fB)), (q3, .inl (cZ, 64, .inl fH))]) hD hS hA [2, 3, 4, 5] rfl
          refine va_calli (va_runV (As := []) (rest := []) ⟨hx, hb, hml, hown, hts1⟩ (m_thrown l dC dI a1 q1 q2 q3 cU cV cZ nx (nI u) ed 1 ek fU fB fH H.size ) (cwV 0 hts1 gL_law_X1_thrown rfl rfl rfl (by decide +kernel) ⟨Nat.le_of_ble_eq_true rfl, Nat.le_of_ble_eq_true rfl⟩) ⟨fun a U g mk q => by obtain ⟨q0, q1, qP, qK, qD⟩ := q; exact ⟨q0, q1, qP, va_K.moved (u := U) (U := U.calling g mk a) (Vm.Alike.refl U.vm) qK, qD⟩, va_recv hKc hPc (ci := 1) (q0 := 0) rfl rfl, fun U hU hW => ⟨rfl, by rw [hU], by rw [hU]; exact hPc, va_K.moved hW.alike hKc, hDc.weaken (fun _ _ _ _ => trivial)⟩⟩ rfl rfl hl.1 rfl (lv_room (Nat.le_of_ble_eq_true rfl)) dL_law_363 ⟨(show _ ≤ 1034 by omega), (show _ ≤ 8481 by omega)⟩) hS (fun q _ h => hFc q h) hFc (fun r_7 uv tS H1 locs ht hvm hw_8 hB hz1 hk1 hS => ?_)
          obtain ⟨hP1, hK1, hD1⟩ := hB
          rw [ht] at hP1
          have hK1 := va_K.moved hvm.symm hK1
          try dsimp only at hw_8
          obtain ⟨hP, hD⟩ := va_join (wr := [(h0, .inr (0, [.ref qb, .long kb, .int nx, .int (nI u), .int ek, .int en])), (qb, .inl (cB, 64, .inl fb)), (qo, .inl (cO, 1, .inr (.inl o7)))]) (w1 := [(a1, .inr (1, [.ref q1, .ref q2, .ref q3, .int nx, .int (nI u), .int ed, .int 1, .int ek])), (q1, .inl (cU, 64, .inl fU)), (q2, .inl (cV, 64, .inl fB)), (q3, .inl (cZ, 64, .inl fH))]) hP hD [2, 3, 4, 5] [0, 1, 6] rfl rfl (by decide) (by decide) hk1 hFc hP1 hD1
          generalize H1 = H at hP hS ⊢
          have hP := hP.sub (ws' := [(h0, .inr (0, [.ref qb, .long kb, .int nx, .int (nI u), .int ek, .int en])), (qb, .inl (cB, 64, .inl fb)), (a1, .inr (1, [.ref q1, .ref q2, .ref q3, .int nx, .int (nI u), .int ed, .int 1, .int ek])), (q1, .inl (cU, 64, .inl fU)), (q2, .inl (cV, 64, .inl fB)), (q3, .inl (cZ, 64, .inl fH)), (qo, .inl (cO, 1, .inr (.inl o7)))]) [0, 1, 3, 4, 5, 6, 2] rfl
          have hD := hD.sub (ws' := [(h0, .inr (0, [.ref qb, .long kb, .int nx, .int (nI u), .int ek, .int en])), (qb, .inl (cB, 64, .inl fb)), (a1, .inr (1, [.ref q1, .ref q2, .ref q3, .int nx, .int (nI u), .int ed, .int 1, .int ek])), (q1, .inl (cU, 64, .inl fU)), (q2, .inl (cV, 64, .inl fB)), (q3, .inl (cZ, 64, .inl fH)), (qo, .inl (cO, 1, .inr (.inl o7)))]) [0, 1, 3, 4, 5, 6, 2] (by decide) rfl
          subst hw_8
          refine lv_iload hx hb dL_law_366 (lv_at hl 1 rfl) ?_
          refine lv_icmp_eq (tgt := 373) hx hb dL_law_368 (by decide) (fun c_368 => ?_) (fun c_368 => ?_)
          · refine lv_iload hx hb dL_law_373 (lv_at hl 1 rfl) ?_
            refine lv_if_ne (tgt := 390) hx hb dL_law_375 (by decide) (fun c_375 => ?_) (fun c_375 => ?_)
            · refine lv_goto (tgt := 418) hx hb dL_law_390 (by decide) ?_
              obtain ⟨x_9, ex_9⟩ : ∃ y : Int32, y = x4 + 5 := ⟨_, rfl⟩
              refine lv_iinc (v := x_9) (lv' := [(4, .int x_9), (6, .int r2), (5, .int 1), (0, .ref b), (1, .ref h0), (2, .ref a1), (3, .ref qo)]) hx hb dL_law_418 hl (k := 2) rfl (by rw [ex_9]; rfl) (by decide) rfl (fun ls hl => ?_)
              refine lv_goto (tgt := 23) hx hb dL_law_421 (by decide) ?_
              refine W.widen (k := 7 + (t + 1)) (n := 271 + 6 * (t + 1)) (by omega) (by omega) ?_
              exact ih x_9 kb nx ek en ed 1 bs u e9 S fb fU fB fH o7 (x4_up h4 ex_9) hI H _ ls hP hD hS (lv_sub hl [0, 3, 4, 5, 6] rfl)
            · exact absurd c_375 (by decide)
          · exact absurd rfl c_368
        · exact (g_blk_cm hI w2 v3 v4 v5 v6 v7).elim
      · rcases hw2 with ⟨v2, v1⟩ | ⟨v2, i1, k1, v3, v4, v5, v6, v7, v8⟩
        · exact (g_blk_mc hI w3 w4 v1).elim
        · have er := g_blk hI w3 w4 w5 w6 w7 w8 v3 v4 v5 v6 v7 v8
          have w1 := w1.symm
          subst w1
          have v2 := v2.symm
          subst v2
          refine lv_istore (lv' := [(6, .int r2), (5, .int 0), (4, .int x4), (0, .ref b), (1, .ref h0), (2, .ref a1), (3, .ref qo)]) hx hb dL_law_360 hl (by decide) rfl (fun ls hl => ?_)
          refine lv_aload_n hx hb dL_law_362 rfl (lv_at hl 5 rfl) ?_
          have hPc := hP.sub (ws' := [(a1, .inr (1, [.ref q1, .ref q2, .ref q3, .int nx, .int (nI u), .int ed, .int 0, .int ek])), (q1, .inl (cU, 64, .inl fU)), (q2, .inl (cV, 64, .inl fB)), (q3, .inl (cZ, 64, .inl fH))]) [2, 3, 4, 5] rfl
          have hDc := hD.sub (ws' := [(a1, .inr (1, [.ref q1, .ref q2, .ref q3, .int nx, .int (nI u), .int ed, .int 0, .int ek])), (q1, .inl (cU, 64, .inl fU)), (q2, .inl (cV, 64, .inl fB)), (q3, .inl (cZ, 64, .inl fH))]) [2, 3, 4, 5] (by decide) rfl
          have hKc := hK.sub (tys' := [(cU, .int), (cV, .int), (cZ, .boolean)]) [1, 2, 3] rfl
          have hFc := va_free (wc := [(a1, .inr (1, [.ref q1, .ref q2, .ref q3, .int nx, .int (nI u), .int ed, .int 0, .int ek])), (q1, .inl (cU, 64, .inl fU)), (q2, .inl (cV, 64, .inl fB)), (q3, .inl (cZ, 64, .inl fH))]) hD hS hA [2, 3, 4, 5] rfl
          refine va_calli (va_runV (As := []) (rest := []) ⟨hx, hb, hml, hown, hts1⟩ (m_thrown l dC dI a1 q1 q2 q3 cU cV cZ nx (nI u) ed 0 ek fU fB fH H.size ) (cwV 0 hts1 gL_law_X1_thrown rfl rfl rfl (by decide +kernel) ⟨Nat.le_of_ble_eq_true rfl, Nat.le_of_ble_eq_true rfl⟩) ⟨fun a U g mk q => by obtain ⟨q0, q1, qP, qK, qD⟩ := q; exact ⟨q0, q1, qP, va_K.moved (u := U) (U := U.calling g mk a) (Vm.Alike.refl U.vm) qK, qD⟩, va_recv hKc hPc (ci := 1) (q0 := 0) rfl rfl, fun U hU hW => ⟨rfl, by rw [hU], by rw [hU]; exact hPc, va_K.moved hW.alike hKc, hDc.weaken (fun _ _ _ _ => trivial)⟩⟩ rfl rfl hl.1 rfl (lv_room (Nat.le_of_ble_eq_true rfl)) dL_law_363 ⟨(show _ ≤ 1034 by omega), (show _ ≤ 8481 by omega)⟩) hS (fun q _ h => hFc q h) hFc (fun r_10 uv tS H1 locs ht hvm hw_11 hB hz1 hk1 hS => ?_)
          obtain ⟨hP1, hK1, hD1⟩ := hB
          rw [ht] at hP1
          have hK1 := va_K.moved hvm.symm hK1
          try dsimp only at hw_11
          obtain ⟨hP, hD⟩ := va_join (wr := [(h0, .inr (0, [.ref qb, .long kb, .int nx, .int (nI u), .int ek, .int en])), (qb, .inl (cB, 64, .inl fb)), (qo, .inl (cO, 1, .inr (.inl o7)))]) (w1 := [(a1, .inr (1, [.ref q1, .ref q2, .ref q3, .int nx, .int (nI u), .int ed, .int 0, .int ek])), (q1, .inl (cU, 64, .inl fU)), (q2, .inl (cV, 64, .inl fB)), (q3, .inl (cZ, 64, .inl fH))]) hP hD [2, 3, 4, 5] [0, 1, 6] rfl rfl (by decide) (by decide) hk1 hFc hP1 hD1
          generalize H1 = H at hP hS ⊢
          have hP := hP.sub (ws' := [(h0, .inr (0, [.ref qb, .long kb, .int nx, .int (nI u), .int ek, .int en])), (qb, .inl (cB, 64, .inl fb)), (a1, .inr (1, [.ref q1, .ref q2, .ref q3, .int nx, .int (nI u), .int ed, .int 0, .int ek])), (q1, .inl (cU, 64, .inl fU)), (q2, .inl (cV, 64, .inl fB)), (q3, .inl (cZ, 64, .inl fH)), (qo, .inl (cO, 1, .inr (.inl o7)))]) [0, 1, 3, 4, 5, 6, 2] rfl
          have hD := hD.sub (ws' := [(h0, .inr (0, [.ref qb, .long kb, .int nx, .int (nI u), .int ek, .int en])), (qb, .inl (cB, 64, .inl fb)), (a1, .inr (1, [.ref q1, .ref q2, .ref q3, .int nx, .int (nI u), .int ed, .int 0, .int ek])), (q1, .inl (cU, 64, .inl fU)), (q2, .inl (cV, 64, .inl fB)), (q3, .inl (cZ, 64, .inl fH)), (qo, .inl (cO, 1, .inr (.inl o7)))]) [0, 1, 3, 4, 5, 6, 2] (by decide) rfl
          subst hw_11
          refine lv_iload hx hb dL_law_366 (lv_at hl 1 rfl) ?_
          refine lv_icmp_eq (tgt := 373) hx hb dL_law_368 (by decide) (fun c_368 => ?_) (fun c_368 => ?_)
          · refine lv_iload hx hb dL_law_373 (lv_at hl 1 rfl) ?_
            refine lv_if_ne (tgt := 390) hx hb dL_law_375 (by decide) (fun c_375 => ?_) (fun c_375 => ?_)
            · exact absurd rfl c_375
            · refine lv_aload_n hx hb dL_law_378 rfl (lv_at hl 6 rfl) ?_
              refine lv_iconst (v := 0) hx hb dL_law_379 (by decide) ?_
              refine va_lald hx hb hK hP 6 4 rfl rfl inb1_0 dL_law_380 ?_
              refine lv_iload hx hb dL_law_381 (lv_at hl 0 rfl) ?_
              refine lv_i2l (v := r2.toInt64) hx hb dL_law_383 rfl ?_
              refine W.lcmp hx hb dL_law_384 ?_
              refine lv_if_eq (tgt := 390) hx hb dL_law_385 (by decide) (fun c_385 => ?_) (fun c_385 => ?_)
              · refine lv_goto (tgt := 418) hx hb dL_law_390 (by decide) ?_
                obtain ⟨x_12, ex_12⟩ : ∃ y : Int32, y = x4 + 5 := ⟨_, rfl⟩
                refine lv_iinc (v := x_12) (lv' := [(4, .int x_12), (6, .int r2), (5, .int 0), (0, .ref b), (1, .ref h0), (2, .ref a1), (3, .ref qo)]) hx hb dL_law_418 hl (k := 2) rfl (by rw [ex_12]; rfl) (by decide) rfl (fun ls hl => ?_)
                refine lv_goto (tgt := 23) hx hb dL_law_421 (by decide) ?_
                refine W.widen (k := 7 + (t + 1)) (n := 271 + 6 * (t + 1)) (by omega) (by omega) ?_
                exact ih x_12 kb nx ek en ed 0 bs u e9 S fb fU fB fH o7 (x4_up h4 ex_12) hI H _ ls hP hD hS (lv_sub hl [0, 3, 4, 5, 6] rfl)
              · exact absurd (lcmp_eq (by rw [cl_0, w2, er])) c_385
          · exact absurd rfl c_368
end
section
set_option maxHeartbeats 4000000 in
set_option maxRecDepth 100000 in
theorem law_6 {p : Program} {l : Launch} {e : Env} {s : State} {m : MethodId} {below : List Frame} {meth : Method} {c : Code} {dC : Nat → ClassId} {dI : Nat → Nat → Nat} {b h0 qb a1 q1 q2 q3 qo : Nat} {cB cU cV cZ cO : ClassId} {L : Nat} {xs : Nat → Int32} (hst : l.stackTraces = false) (C0 : lw_At p s m meth c b L xs) (hZ : thr (fun q : Nat => s.heap.size ≤ q) s s.heap) (hK : va_K (dC, dI) vwCl [(cB, .byte), (cU, .int), (cV, .int), (cZ, .boolean), (cO, .long)] s) {t : Nat} (ht5 : t < 512) (hLt : 5 * t + 5 ≤ L) (hL : L ≤ 2560) (ih : LawAt p l e s m below meth c dC dI b h0 qb a1 q1 q2 q3 qo cB cU cV cZ cO (t + 1)) (x4 : Int32) (kb : Int64) (nx ek en ed th bs : Int32) (u e9 : Nat) (S : aS) (fb fU fB fH : Nat → Int32) (fo : Nat → Int64) (h4 : x4 = nI (5 * t)) (hI : INV nx ek en ed kb fb fU fB fH bs u e9 S) (H : Heap) (locs : List Loc) (ls : Array Slot) (hP : va_P (dC, dI) vwCl [(h0, .inr (0, [.ref qb, .long kb, .int nx, .int (nI u), .int ek, .int en])), (qb, .inl (cB, 64, .inl fb)), (a1, .inr (1, [.ref q1, .ref q2, .ref q3, .int nx, .int (nI u), .int ed, .int th, .int ek])), (q1, .inl (cU, 64, .inl fU)), (q2, .inl (cV, 64, .inl fB)), (q3, .inl (cZ, 64, .inl fH)), (qo, .inl (cO, 1, .inr (.inl fo)))] H) (hD : va_D (fun q : Nat => s.heap.size ≤ q) [(h0, .inr (0, [.ref qb, .long kb, .int nx, .int (nI u), .int ek, .int en])), (qb, .inl (cB, 64, .inl fb)), (a1, .inr (1, [.ref q1, .ref q2, .ref q3, .int nx, .int (nI u), .int ed, .int th, .int ek])), (q1, .inl (cU, 64, .inl fU)), (q2, .inl (cV, 64, .inl fB)), (q3, .inl (cZ, 64, .inl fH)), (qo, .inl (cO, 1, .inr (.inl fo)))]) (hS : va_S (fun q : Nat => s.heap.size ≤ q) s.heap H locs) (hl : lv_has ls 7 [(4, .int x4), (0, .ref b), (1, .ref h0), (2, .ref a1), (3, .ref qo)]) : W p l e room_1 s m #[Value.ref b] below meth c H locs (7 + t) (271 + 6 * t) (lw_Z below #[Value.ref b] s) (F0 m 393 ls []) := by
  obtain ⟨hx, hb, hr, hml, hown0, hts, hX, hbl, hlocks, hgv⟩ := C0
  have hown : s.vm.findClass RL = some m.cls := hown0
  have hA : ∀ q : Nat, s.heap.size ≤ q → (fun q : Nat => s.heap.size ≤ q) q := fun _ h => h
  have hbA : ¬ (fun q : Nat => s.heap.size ≤ q) b := Nat.not_le.mpr hbl
  have hts1 : ∀ w ∈ wsL_law, w.before #[Value.ref b] s = true := fun w h => hts w (wsL_law_in w h)
  have hts2 : ∀ w ∈ wsL_m, w.before #[Value.ref b] s = true := fun w h => hts w (wsL_m_in w h)
  refine lv_aload_n hx hb dL_law_393 rfl (lv_at hl 2 rfl) ?_
  refine lv_aload_n hx hb dL_law_394 rfl (lv_at hl 1 rfl) ?_
  refine lv_iload hx hb dL_law_395 (lv_at hl 0 rfl) ?_
  refine lv_iconst (v := 1) hx hb dL_law_397 (by decide) ?_
  refine lv_iadd hx hb dL_law_398 ?_
  refine va_sld hx hb hX hbl hbA hS (ld_in (k := 1) h4 (by omega) hL) dL_law_399 ?_
  have hPc := hP.sub (ws' := [(h0, .inr (0, [.ref qb, .long kb, .int nx, .int (nI u), .int ek, .int en])), (qb, .inl (cB, 64, .inl fb))]) [0, 1] rfl
  have hDc := hD.sub (ws' := [(h0, .inr (0, [.ref qb, .long kb, .int nx, .int (nI u), .int ek, .int en])), (qb, .inl (cB, 64, .inl fb))]) [0, 1] (by decide) rfl
  have hKc := hK.sub (tys' := [(cB, .byte)]) [0] rfl
  have hFc := va_free (wc := [(h0, .inr (0, [.ref qb, .long kb, .int nx, .int (nI u), .int ek, .int en])), (qb, .inl (cB, 64, .inl fb))]) hD hS hA [0, 1] rfl
  refine va_calli (va_runV (As := [.int (xs (x4 + 1).toNatClampNeg)]) (rest := []) ⟨hx, hb, hml, hown, hts1⟩ (c_heldM l dC dI h0 qb cB kb nx (nI u) ek en fb (xs (x4 + 1).toNatClampNeg) H.size ) (cwV 1 hts1 gL_law_X0_held rfl rfl rfl (by decide +kernel) ⟨Nat.le_of_ble_eq_true rfl, Nat.le_of_ble_eq_true rfl⟩) ⟨fun a U g mk q => by obtain ⟨q0, q1, qP, qK, qD⟩ := q; exact ⟨q0, q1, qP, va_K.moved (u := U) (U := U.calling g mk a) (Vm.Alike.refl U.vm) qK, qD⟩, va_recv hKc hPc (ci := 0) (q0 := 0) rfl rfl, fun U hU hW => ⟨rfl, by rw [hU], by rw [hU]; exact hPc, va_K.moved hW.alike hKc, hDc.weaken (fun _ _ _ _ => trivial)⟩⟩ rfl rfl hl.1 rfl (lv_room (Nat.le_of_ble_eq_true rfl)) dL_law_400 ⟨(show _ ≤ 1034 by omega), (show _ ≤ 8481 by omega)⟩) hS (fun q _ h => hFc q h) hFc (fun r1 uv tS H1 locs ht hvm hw1 hB hz1 hk1 hS => ?_)
  obtain ⟨hP1, hK1, hD1⟩ := hB
  rw [ht] at hP1
  have hK1 := va_K.moved hvm.symm hK1
  try dsimp only at hw1
  obtain ⟨hP, hD⟩ := va_join (wr := [(a1, .inr (1, [.ref q1, .ref q2, .ref q3, .int nx, .int (nI u), .int ed, .int th, .int ek])), (q1, .inl (cU, 64, .inl fU)), (q2, .inl (cV, 64, .inl fB)), (q3, .inl (cZ, 64, .inl fH)), (qo, .inl (cO, 1, .inr (.inl fo)))]) (w1 := [(h0, .inr (0, [.ref qb, .long kb, .int nx, .int (nI u), .int ek, .int en])), (qb, .inl (cB, 64, .inl fb))]) hP hD [0, 1] [2, 3, 4, 5, 6] rfl rfl (by decide) (by decide) hk1 hFc hP1 hD1
  generalize H1 = H at hP hS ⊢
  have hP := hP.sub (ws' := [(h0, .inr (0, [.ref qb, .long kb, .int nx, .int (nI u), .int ek, .int en])), (qb, .inl (cB, 64, .inl fb)), (a1, .inr (1, [.ref q1, .ref q2, .ref q3, .int nx, .int (nI u), .int ed, .int th, .int ek])), (q1, .inl (cU, 64, .inl fU)), (q2, .inl (cV, 64, .inl fB)), (q3, .inl (cZ, 64, .inl fH)), (qo, .inl (cO, 1, .inr (.inl fo)))]) [5, 6, 0, 1, 2, 3, 4] rfl
  have hD := hD.sub (ws' := [(h0, .inr (0, [.ref qb, .long kb, .int nx, .int (nI u), .int ek, .int en])), (qb, .inl (cB, 64, .inl fb)), (a1, .inr (1, [.ref q1, .ref q2, .ref q3, .int nx, .int (nI u), .int ed, .int th, .int ek])), (q1, .inl (cU, 64, .inl fU)), (q2, .inl (cV, 64, .inl fB)), (q3, .inl (cZ, 64, .inl fH)), (qo, .inl (cO, 1, .inr (.inl fo)))]) [5, 6, 0, 1, 2, 3, 4] (by decide) rfl
  refine lv_aload_n hx hb dL_law_403 rfl (lv_at hl 3 rfl) ?_
  refine lv_aload_n hx hb dL_law_404 rfl (lv_at hl 1 rfl) ?_
  refine lv_iload hx hb dL_law_405 (lv_at hl 0 rfl) ?_
  refine lv_iconst (v := 1) hx hb dL_law_407 (by decide) ?_
  refine lv_iadd hx hb dL_law_408 ?_
  refine va_sld hx hb hX hbl hbA hS (ld_in (k := 1) h4 (by omega) hL) dL_law_409 ?_
  have hPc := hP.sub (ws' := [(a1, .inr (1, [.ref q1, .ref q2, .ref q3, .int nx, .int (nI u), .int ed, .int th, .int ek])), (q1, .inl (cU, 64, .inl fU)), (q2, .inl (cV, 64, .inl fB)), (q3, .inl (cZ, 64, .inl fH))]) [2, 3, 4, 5] rfl
  have hDc := hD.sub (ws' := [(a1, .inr (1, [.ref q1, .ref q2, .ref q3, .int nx, .int (nI u), .int ed, .int th, .int ek])), (q1, .inl (cU, 64, .inl fU)), (q2, .inl (cV, 64, .inl fB)), (q3, .inl (cZ, 64, .inl fH))]) [2, 3, 4, 5] (by decide) rfl
  have hKc := hK.sub (tys' := [(cU, .int), (cV, .int), (cZ, .boolean)]) [1, 2, 3] rfl
  have hFc := va_free (wc := [(a1, .inr (1, [.ref q1, .ref q2, .ref q3, .int nx, .int (nI u), .int ed, .int th, .int ek])), (q1, .inl (cU, 64, .inl fU)), (q2, .inl (cV, 64, .inl fB)), (q3, .inl (cZ, 64, .inl fH))]) hD hS hA [2, 3, 4, 5] rfl
  refine va_calli (va_runV (As := [.int (xs (x4 + 1).toNatClampNeg)]) (rest := [.int r1]) ⟨hx, hb, hml, hown, hts2⟩ (m_heldM l dC dI a1 q1 q2 q3 cU cV cZ nx (nI u) ed th ek fU fB fH (xs (x4 + 1).toNatClampNeg) H.size ) (cwV 1 hts2 gL_m_X1_held rfl rfl rfl (by decide +kernel) ⟨Nat.le_of_ble_eq_true rfl, Nat.le_of_ble_eq_true rfl⟩) ⟨fun a U g mk q => by obtain ⟨q0, q1, qP, qK, qD⟩ := q; exact ⟨q0, q1, qP, va_K.moved (u := U) (U := U.calling g mk a) (Vm.Alike.refl U.vm) qK, qD⟩, va_recv hKc hPc (ci := 1) (q0 := 0) rfl rfl, fun U hU hW => ⟨rfl, by rw [hU], by rw [hU]; exact hPc, va_K.moved hW.alike hKc, hDc.weaken (fun _ _ _ _ => trivial)⟩⟩ rfl rfl hl.1 rfl (lv_room (Nat.le_of_ble_eq_true rfl)) dL_law_410 ⟨(show _ ≤ 1034 by omega), (show _ ≤ 8481 by omega)⟩) hS (fun q _ h => hFc q h) hFc (fun r2 uv tS H1 locs ht hvm hw2 hB hz1 hk1 hS => ?_)
  obtain ⟨hP1, hK1, hD1⟩ := hB
  rw [ht] at hP1
  have hK1 := va_K.moved hvm.symm hK1
  try dsimp only at hw2
  obtain ⟨hP, hD⟩ := va_join (wr := [(h0, .inr (0, [.ref qb, .long kb, .int nx, .int (nI u), .int ek, .int en])), (qb, .inl (cB, 64, .inl fb)), (qo, .inl (cO, 1, .inr (.inl fo)))]) (w1 := [(a1, .inr (1, [.ref q1, .ref q2, .ref q3, .int nx, .int (nI u), .int ed, .int 0, .int ek])), (q1, .inl (cU, 64, .inl fU)), (q2, .inl (cV, 64, .inl fB)), (q3, .inl (cZ, 64, .inl fH))]) hP hD [2, 3, 4, 5] [0, 1, 6] rfl rfl (by decide) (by decide) hk1 hFc hP1 hD1
  generalize H1 = H at hP hS ⊢
  have hP := hP.sub (ws' := [(h0, .inr (0, [.ref qb, .long kb, .int nx, .int (nI u), .int ek, .int en])), (qb, .inl (cB, 64, .inl fb)), (a1, .inr (1, [.ref q1, .ref q2, .ref q3, .int nx, .int (nI u), .int ed, .int 0, .int ek])), (q1, .inl (cU, 64, .inl fU)), (q2, .inl (cV, 64, .inl fB)), (q3, .inl (cZ, 64, .inl fH)), (qo, .inl (cO, 1, .inr (.inl fo)))]) [0, 1, 3, 4, 5, 6, 2] rfl
  have hD := hD.sub (ws' := [(h0, .inr (0, [.ref qb, .long kb, .int nx, .int (nI u), .int ek, .int en])), (qb, .inl (cB, 64, .inl fb)), (a1, .inr (1, [.ref q1, .ref q2, .ref q3, .int nx, .int (nI u), .int ed, .int 0, .int ek])), (q1, .inl (cU, 64, .inl fU)), (q2, .inl (cV, 64, .inl fB)), (q3, .inl (cZ, 64, .inl fH)), (qo, .inl (cO, 1, .inr (.inl fo)))]) [0, 1, 3, 4, 5, 6, 2] (by decide) rfl
  refine lv_icmp_eq (tgt := 418) hx hb dL_law_413 (by decide) (fun c_413 => ?_) (fun c_413 => ?_)
  · obtain ⟨x_1, ex_1⟩ : ∃ y : Int32, y = x4 + 5 := ⟨_, rfl⟩
    refine lv_iinc (v := x_1) (lv' := [(4, .int x_1), (0, .ref b), (1, .ref h0), (2, .ref a1), (3, .ref qo)]) hx hb dL_law_418 hl (k := 0) rfl (by rw [ex_1]; rfl) (by decide) rfl (fun ls hl => ?_)
    refine lv_goto (tgt := 23) hx hb dL_law_421 (by decide) ?_
    refine W.widen (k := 7 + (t + 1)) (n := 271 + 6 * (t + 1)) (by omega) (by omega) ?_
    exact ih x_1 kb nx ek en ed 0 bs u e9 S fb fU fB fH fo (x4_up h4 ex_1) hI H _ ls hP hD hS (lv_sub hl [0, 1, 2, 3, 4] rfl)
  · exact absurd (by rw [hw1, hw2]; exact bI_iff (g_hd hI _)) c_413
end
section
set_option maxHeartbeats 4000000 in
set_option maxRecDepth 100000 in
theorem law_loop {p : Program} {l : Launch} {e : Env} {s : State} {m : MethodId} {below : List Frame} {meth : Method} {c : Code} {dC : Nat → ClassId} {dI : Nat → Nat → Nat} {b h0 qb a1 q1 q2 q3 qo : Nat} {cB cU cV cZ cO : ClassId} {L : Nat} {xs : Nat → Int32} (hst : l.stackTraces = false) (hL : L ≤ 2560) (C0 : lw_At p s m meth c b L xs) (hZ : thr (fun q : Nat => s.heap.size ≤ q) s s.heap) (hK : va_K (dC, dI) vwCl [(cB, .byte), (cU, .int), (cV, .int), (cZ, .boolean), (cO, .long)] s) : ∀ (n t : Nat), t + n = 513 → LawAt p l e s m below meth c dC dI b h0 qb a1 q1 q2 q3 qo cB cU cV cZ cO t := by
  obtain ⟨hx, hb, hr, hml, hown0, hts, hX, hbl, hlocks, hgv⟩ := id C0
  have hbA : ¬ (fun q : Nat => s.heap.size ≤ q) b := Nat.not_le.mpr hbl
  intro n
  induction n with
  | zero =>
    intro t ht5 x4 kb nx ek en ed th bs u e9 S fb fU fB fH fo h4 hI H locs ls hP hD hS hl
    refine lv_iload hx hb dL_law_23 (lv_at hl 0 rfl) ?_
    refine lv_aload_n hx hb dL_law_25 rfl (lv_at hl 1 rfl) ?_
    refine va_slen hx hb hX hbl hbA hS dL_law_26 ?_
    refine lv_iconst (v := 5) hx hb dL_law_27 (by decide) ?_
    refine lv_isub hx hb dL_law_28 ?_
    refine lv_icmp_gt (tgt := 424) hx hb dL_law_29 (by decide) (fun c_29 => ?_) (fun c_29 => ?_)
    · refine lv_iconst (v := 1) hx hb dL_law_424 (by decide) ?_
      refine va_forget (fun q hq => hS.2.2 q hq) ?_
      refine W.widen (k := 1034) (n := 8481) (by omega) (by omega) ?_
      exact lw_ret hx hb hr hlocks dL_law_425
    · exact absurd (by rw [h4, law_in hL (by omega)]; omega) c_29
  | succ n ih =>
    intro t ht5 x4 kb nx ek en ed th bs u e9 S fb fU fB fH fo h4 hI H locs ls hP hD hS hl
    refine lv_iload hx hb dL_law_23 (lv_at hl 0 rfl) ?_
    refine lv_aload_n hx hb dL_law_25 rfl (lv_at hl 1 rfl) ?_
    refine va_slen hx hb hX hbl hbA hS dL_law_26 ?_
    refine lv_iconst (v := 5) hx hb dL_law_27 (by decide) ?_
    refine lv_isub hx hb dL_law_28 ?_
    refine lv_icmp_gt (tgt := 424) hx hb dL_law_29 (by decide) (fun c_29 => ?_) (fun c_29 => ?_)
    · refine lv_iconst (v := 1) hx hb dL_law_424 (by decide) ?_
      refine va_forget (fun q hq => hS.2.2 q hq) ?_
      refine W.widen (k := 1034) (n := 8481) (by omega) (by omega) ?_
      exact lw_ret hx hb hr hlocks dL_law_425
    · refine lv_aload_n hx hb dL_law_32 rfl (lv_at hl 1 rfl) ?_
      refine lv_iload hx hb dL_law_33 (lv_at hl 0 rfl) ?_
      refine va_sld hx hb hX hbl hbA hS (ld_0 h4 (by have q := c_29; rw [h4, law_in hL (by omega)] at q; omega) hL) dL_law_35 ?_
      refine lv_bipush (v := 7) hx hb dL_law_36 (by decide) ?_
      refine lv_iand hx hb dL_law_38 ?_
      have hLt : 5 * t + 5 ≤ L := by
        have q := c_29
        rw [h4, law_in hL (by omega)] at q
        omega
      obtain ⟨j, hj, ej⟩ := pk_andE (xs x4.toNatClampNeg) (m := 7) 3 (by decide)
      have hj8 : j = 0 ∨ j = 1 ∨ j = 2 ∨ j = 3 ∨ j = 4 ∨ j = 5 ∨ j = 6 ∨ j = 7 := by
        have : j < 8 := hj
        omega
      rcases hj8 with e8 | e8 | e8 | e8 | e8 | e8 | e8 | e8
      · rw [e8] at ej
        refine lv_tableIn (off := 41) (tgt := 80) hx hb dL_law_39 (by rw [ej]; decide) (by rw [ej]; decide) (by rw [ej]; decide) (by decide) ?_
        exact law_0 hst C0 hZ hK (by omega) hLt hL (ih (t + 1) (by omega)) x4 kb nx ek en ed th bs u e9 S fb fU fB fH fo h4 hI H locs ls hP hD hS (lv_sub hl [0, 1, 2, 3, 4] rfl)
      · rw [e8] at ej
        refine lv_tableIn (off := 64) (tgt := 103) hx hb dL_law_39 (by rw [ej]; decide) (by rw [ej]; decide) (by rw [ej]; decide) (by decide) ?_
        exact law_1 hst C0 hZ hK (by omega) hLt hL (ih (t + 1) (by omega)) x4 kb nx ek en ed th bs u e9 S fb fU fB fH fo h4 hI H locs ls hP hD hS (lv_sub hl [0, 1, 2, 3, 4] rfl)
      · rw [e8] at ej
        refine lv_tableIn (off := 176) (tgt := 215) hx hb dL_law_39 (by rw [ej]; decide) (by rw [ej]; decide) (by rw [ej]; decide) (by decide) ?_
        exact law_2 hst C0 hZ hK (by omega) hLt hL (ih (t + 1) (by omega)) x4 kb nx ek en ed th bs u e9 S fb fU fB fH fo h4 hI H locs ls hP hD hS (lv_sub hl [0, 1, 2, 3, 4] rfl)
      · rw [e8] at ej
        refine lv_tableIn (off := 201) (tgt := 240) hx hb dL_law_39 (by rw [ej]; decide) (by rw [ej]; decide) (by rw [ej]; decide) (by decide) ?_
        exact law_3 hst C0 hZ hK (by omega) hLt hL (ih (t + 1) (by omega)) x4 kb nx ek en ed th bs u e9 S fb fU fB fH fo h4 hI H locs ls hP hD hS (lv_sub hl [0, 1, 2, 3, 4] rfl)
      · rw [e8] at ej
        refine lv_tableIn (off := 214) (tgt := 253) hx hb dL_law_39 (by rw [ej]; decide) (by rw [ej]; decide) (by rw [ej]; decide) (by decide) ?_
        exact law_4 hst C0 hZ hK (by omega) hLt hL (ih (t + 1) (by omega)) x4 kb nx ek en ed th bs u e9 S fb fU fB fH fo h4 hI H locs ls hP hD hS (lv_sub hl [0, 1, 2, 3, 4] rfl)
      · rw [e8] at ej
        refine lv_tableIn (off := 270) (tgt := 309) hx hb dL_law_39 (by rw [ej]; decide) (by rw [ej]; decide) (by rw [ej]; decide) (by decide) ?_
        exact law_5 hst C0 hZ hK (by omega) hLt hL (ih (t + 1) (by omega)) x4 kb nx ek en ed th bs u e9 S fb fU fB fH fo h4 hI H locs ls hP hD hS (lv_sub hl [0, 1, 2, 3, 4] rfl)
      · rw [e8] at ej
        refine lv_tableIn (off := 354) (tgt := 393) hx hb dL_law_39 (by rw [ej]; decide) (by rw [ej]; decide) (by rw [ej]; decide) (by decide) ?_
        exact law_6 hst C0 hZ hK (by omega) hLt hL (ih (t + 1) (by omega)) x4 kb nx ek en ed th bs u e9 S fb fU fB fH fo h4 hI H locs ls hP hD hS (lv_sub hl [0, 1, 2, 3, 4] rfl)
      · rw [e8] at ej
        refine lv_tableOut (tgt := 418) hx hb dL_law_39 (Or.inr (by rw [ej]; decide)) (by decide) ?_
        obtain ⟨x_1, ex_1⟩ : ∃ y : Int32, y = x4 + 5 := ⟨_, rfl⟩
        refine lv_iinc (v := x_1) (lv' := [(4, .int x_1), (0, .ref b), (1, .ref h0), (2, .ref a1), (3, .ref qo)]) hx hb dL_law_418 hl (k := 0) rfl (by rw [ex_1]; rfl) (by decide) rfl (fun ls hl => ?_)
        refine lv_goto (tgt := 23) hx hb dL_law_421 (by decide) ?_
        refine W.widen (k := 7 + (t + 1)) (n := 271 + 6 * (t + 1)) (by omega) (by omega) ?_
        exact ih (t + 1) (by omega) x_1 kb nx ek en ed th bs u e9 S fb fU fB fH fo (x4_up h4 ex_1) hI H _ ls hP hD hS (lv_sub hl [0, 1, 2, 3, 4] rfl)
end
section
set_option maxHeartbeats 4000000 in
set_option maxRecDepth 100000 in
theorem whole_start {p : Program} {e : Env} {s : State} {m : MethodId} {below : List Frame} {meth : Method} {c : Code} (l : Launch) (hst : l.stackTraces = false) {b L : Nat} {xs : Nat → Int32} (hL : L ≤ 2560) (C0 : lw_At p s m meth c b L xs) : W p l e room_1 s m #[Value.ref b] below meth c s.heap [] 0 0 (lw_Z below #[Value.ref b] s) (entryFrame m ([Value.ref b] : List Value).toArray 7) := by
  obtain ⟨hx, hb, hr, hml, hown0, hts, hX, hbl, hlocks, hgv⟩ := id C0
  have hown : s.vm.findClass RL = some m.cls := hown0
  have hA : ∀ q : Nat, s.heap.size ≤ q → (fun q : Nat => s.heap.size ≤ q) q := fun _ h => h
  have hts1 : ∀ w ∈ wsL_law, w.before #[Value.ref b] s = true := fun w h => hts w (wsL_law_in w h)
  have hfl := flat_of_before _ hgv
  have hnA : ∀ a : Nat, a < s.heap.size → ¬ (fun q : Nat => s.heap.size ≤ q) a := fun _ h => Nat.not_le.mpr h
  have hZ : thr (fun q : Nat => s.heap.size ≤ q) s s.heap := ⟨vx_Zqof (hts (.laysStatic Bundle.tN "UNASSIGNED_STACK" Bundle.steD) (by decide +kernel)) (hts (.initialized Bundle.tN) (by decide +kernel)) (hfl (.isRef (.static Bundle.tN "UNASSIGNED_STACK" Bundle.steD)) (by decide +kernel)) hnA, vx_Zqof (hts (.laysStatic Bundle.tN "SUPPRESSED_SENTINEL" Bundle.listD) (by decide +kernel)) (hts (.initialized Bundle.tN) (by decide +kernel)) (hfl (.isRef (.static Bundle.tN "SUPPRESSED_SENTINEL" Bundle.listD)) (by decide +kernel)) hnA, va_Nw.of rfl (hts (.castable "java/lang/IllegalArgumentException" "java/lang/IllegalArgumentException") (by decide +kernel)), va_Nw.of rfl (hts (.castable "java/lang/IndexOutOfBoundsException" "java/lang/IndexOutOfBoundsException") (by decide +kernel)), va_Nw.of rfl (hts (.declares ⟨"java/lang/RuntimeException", "<init>", "()V"⟩) (by decide +kernel)), va_Nw.of rfl (hts (.declares ⟨"java/lang/Exception", "<init>", "()V"⟩) (by decide +kernel)), va_Nw.of rfl (hts (.declares ⟨"java/lang/Throwable", "<init>", "()V"⟩) (by decide +kernel))⟩
  obtain ⟨c0, iS0, hKn0⟩ := u_known (C := RX0) (T := TX0) (N := 6) (n := 6) hts inX0 (hts (.instantiable RX0 6) (by decide +kernel))
  obtain ⟨c1, iS1, hKn1⟩ := u_known (C := RX1) (T := TX1) (N := 8) (n := 8) hts inX1 (hts (.instantiable RX1 8) (by decide +kernel))
  obtain ⟨dC, dI, hKc⟩ : ∃ (dC : Nat → ClassId) (dI : Nat → Nat → Nat), ∀ (k : Nat) (q : vw_C), vwCl[k]? = some q → u_Kn s q.1 q.2.1 q.2.2 (dC k) (dI k) := by
    refine ⟨fun k => if k = 0 then c0 else c1, fun k => if k = 0 then iS0 else iS1, ?_⟩
    intro k q hq
    match k, hq with
    | 0, hq => cases hq; exact hKn0
    | 1, hq => cases hq; exact hKn1
    | k + 2, hq => simp [vwCl] at hq
  have hS : va_S (fun q : Nat => s.heap.size ≤ q) s.heap s.heap [] := va_S.rf
  have hK : va_K (dC, dI) vwCl [] s := ⟨hKc, fun k q h => by simp at h⟩
  have hP : va_P (dC, dI) vwCl [] s.heap := fun k q h => by simp at h
  have hD : va_D (fun q : Nat => s.heap.size ≤ q) [] := ⟨fun i j p q h => by simp at h, fun k q h => by simp at h⟩
  have hl := lv_entry ([.ref b]) (n := 7) (Nat.le_of_ble_eq_true rfl)
  rw [lg_entry_eq]
  generalize (lg_sl ([.ref b]) ++ List.replicate (7 - (lg_sl ([.ref b])).length) Slot.unset).toArray = ls at hl ⊢
  have hl : lv_has ls 7 [(0, .ref b)] := hl
  refine va_new (ci := 0) (fs := [.null, .long 0, .int 0, .int 0, .int 0, .int 0]) (C := RX0) (T := TX0) (N := 6) hx hb hts inX0 tyX0 tyX0_ok hown (hts (.classLink RL 8 RX0) (by decide +kernel)) (hts (.instantiable RX0 6) (by decide +kernel)) (hts (.initialized RX0) (by decide +kernel)) hK hP hD hS hA rfl (fun j hj => by rcases (show j = 0 ∨ j = 1 ∨ j = 2 ∨ j = 3 ∨ j = 4 ∨ j = 5 by omega) with rfl | rfl | rfl | rfl | rfl | rfl <;> rfl) (Nat.le_of_ble_eq_true rfl) (Nat.le_of_ble_eq_true rfl) dL_law_0 (fun h0 H hP hD hS => ?_)
  have hP : va_P (dC, dI) vwCl [(h0, .inr (0, [.null, .long 0, .int 0, .int 0, .int 0, .int 0]))] H := hP
  have hD : va_D (fun q : Nat => s.heap.size ≤ q) [(h0, .inr (0, [.null, .long 0, .int 0, .int 0, .int 0, .int 0]))] := hD
  refine lv_dup hx hb dL_law_3 rfl ?_
  have hPc := hP.sub (ws' := [(h0, .inr (0, [.null, .long 0, .int 0, .int 0, .int 0, .int 0]))]) [0] rfl
  have hDc := hD.sub (ws' := [(h0, .inr (0, [.null, .long 0, .int 0, .int 0, .int 0, .int 0]))]) [0] (by decide) rfl
  have hKc := hK.sub (tys' := []) [] rfl
  have hFc := va_free (wc := [(h0, .inr (0, [.null, .long 0, .int 0, .int 0, .int 0, .int 0]))]) hD hS hA [0] rfl
  refine va_callv (va_runI (As := []) (rest := [.ref h0]) ⟨hx, hb, hml, hown, hts1⟩ (c_init l dC dI h0 H.size) (cwI 0 hts1 gL_law_X0_init rfl rfl rfl (hts (.initialized RX0) (by decide +kernel)) (hts (.methodLink RL 25 yX0_init) (by decide +kernel)) (hts (.instanceMethod yX0_init) (by decide +kernel)) rfl (by decide +kernel) ⟨(Nat.le_of_ble_eq_true rfl), (Nat.le_of_ble_eq_true rfl)⟩) ⟨fun a U g mk q => by obtain ⟨q0, q1, qP, qK, qD⟩ := q; exact ⟨q0, q1, qP, va_K.moved (u := U) (U := U.calling g mk a) (Vm.Alike.refl U.vm) qK, qD⟩, fun U hU hW => ⟨rfl, by rw [hU], by rw [hU]; exact hPc, va_K.moved hW.alike hKc, hDc.weaken (fun _ _ _ _ => trivial)⟩⟩ rfl rfl hl.1 rfl (lv_room (Nat.le_of_ble_eq_true rfl)) dL_law_4 ⟨(Nat.le_of_ble_eq_true rfl), (Nat.le_of_ble_eq_true rfl)⟩) hS (fun q _ h => hFc q h) hFc (fun uv tS H1 locs ht hvm hw hB hz1 hk1 hS => ?_)
  obtain ⟨qb, cB⟩ := uv
  obtain ⟨hP1, hK1, hD1⟩ := hB
  rw [ht] at hP1
  have hK1 := va_K.moved hvm.symm hK1
  obtain ⟨hP, hD⟩ := va_join (wr := []) (w1 := [(h0, .inr (0, [.ref qb, .long 0, .int 0, .int 0, .int 0, .int 0])), (qb, .inl (cB, 64, .inl (fun _ => 0)))]) hP hD [0] [] rfl rfl (by decide) (by decide) hk1 hFc hP1 hD1
  generalize H1 = H at hP hS ⊢
  have hK := hK.app hK1
  have hP : va_P (dC, dI) vwCl [(h0, .inr (0, [.ref qb, .long 0, .int 0, .int 0, .int 0, .int 0])), (qb, .inl (cB, 64, .inl (fun _ => 0)))] H := hP
  have hD : va_D (fun q : Nat => s.heap.size ≤ q) [(h0, .inr (0, [.ref qb, .long 0, .int 0, .int 0, .int 0, .int 0])), (qb, .inl (cB, 64, .inl (fun _ => 0)))] := hD
  have hK : va_K (dC, dI) vwCl [(cB, .byte)] s := hK
  refine lv_astore_n (lv' := [(1, .ref h0), (0, .ref b)]) hx hb dL_law_7 rfl hl (by decide) rfl (fun ls hl => ?_)
  refine va_new (ci := 1) (fs := [.null, .null, .null, .int 0, .int 0, .int 0, .int 0, .int 0]) (C := RX1) (T := TX1) (N := 8) hx hb hts inX1 tyX1 tyX1_ok hown (hts (.classLink RL 26 RX1) (by decide +kernel)) (hts (.instantiable RX1 8) (by decide +kernel)) (hts (.initialized RX1) (by decide +kernel)) hK hP hD hS hA rfl (fun j hj => by rcases (show j = 0 ∨ j = 1 ∨ j = 2 ∨ j = 3 ∨ j = 4 ∨ j = 5 ∨ j = 6 ∨ j = 7 by omega) with rfl | rfl | rfl | rfl | rfl | rfl | rfl | rfl <;> rfl) (Nat.le_of_ble_eq_true rfl) (Nat.le_of_ble_eq_true rfl) dL_law_8 (fun a1 H hP hD hS => ?_)
  have hP : va_P (dC, dI) vwCl [(h0, .inr (0, [.ref qb, .long 0, .int 0, .int 0, .int 0, .int 0])), (qb, .inl (cB, 64, .inl (fun _ => 0))), (a1, .inr (1, [.null, .null, .null, .int 0, .int 0, .int 0, .int 0, .int 0]))] H := hP
  have hD : va_D (fun q : Nat => s.heap.size ≤ q) [(h0, .inr (0, [.ref qb, .long 0, .int 0, .int 0, .int 0, .int 0])), (qb, .inl (cB, 64, .inl (fun _ => 0))), (a1, .inr (1, [.null, .null, .null, .int 0, .int 0, .int 0, .int 0, .int 0]))] := hD
  refine lv_dup hx hb dL_law_11 rfl ?_
  have hPc := hP.sub (ws' := [(a1, .inr (1, [.null, .null, .null, .int 0, .int 0, .int 0, .int 0, .int 0]))]) [2] rfl
  have hDc := hD.sub (ws' := [(a1, .inr (1, [.null, .null, .null, .int 0, .int 0, .int 0, .int 0, .int 0]))]) [2] (by decide) rfl
  have hKc := hK.sub (tys' := []) [] rfl
  have hFc := va_free (wc := [(a1, .inr (1, [.null, .null, .null, .int 0, .int 0, .int 0, .int 0, .int 0]))]) hD hS hA [2] rfl
  refine va_callv (va_runI (As := []) (rest := [.ref a1]) ⟨hx, hb, hml, hown, hts1⟩ (m_init l dC dI a1 H.size) (cwI 0 hts1 gL_law_X1_init rfl rfl rfl (hts (.initialized RX1) (by decide +kernel)) (hts (.methodLink RL 28 yX1_init) (by decide +kernel)) (hts (.instanceMethod yX1_init) (by decide +kernel)) rfl (by decide +kernel) ⟨(Nat.le_of_ble_eq_true rfl), (Nat.le_of_ble_eq_true rfl)⟩) ⟨fun a U g mk q => by obtain ⟨q0, q1, qP, qK, qD⟩ := q; exact ⟨q0, q1, qP, va_K.moved (u := U) (U := U.calling g mk a) (Vm.Alike.refl U.vm) qK, qD⟩, fun U hU hW => ⟨rfl, by rw [hU], by rw [hU]; exact hPc, va_K.moved hW.alike hKc, hDc.weaken (fun _ _ _ _ => trivial)⟩⟩ rfl rfl hl.1 rfl (lv_room (Nat.le_of_ble_eq_true rfl)) dL_law_12 ⟨(Nat.le_of_ble_eq_true rfl), (Nat.le_of_ble_eq_true rfl)⟩) hS (fun q _ h => hFc q h) hFc (fun uv tS H1 locs ht hvm hw hB hz1 hk1 hS => ?_)
  obtain ⟨q1, q2, q3, cU, cV, cZ⟩ := uv
  obtain ⟨hP1, hK1, hD1⟩ := hB
  rw [ht] at hP1
  have hK1 := va_K.moved hvm.symm hK1
  obtain ⟨hP, hD⟩ := va_join (wr := [(h0, .inr (0, [.ref qb, .long 0, .int 0, .int 0, .int 0, .int 0])), (qb, .inl (cB, 64, .inl (fun _ => 0)))]) (w1 := [(a1, .inr (1, [.ref q1, .ref q2, .ref q3, .int 0, .int 0, .int 0, .int 0, .int 0])), (q1, .inl (cU, 64, .inl (fun _ => 0))), (q2, .inl (cV, 64, .inl (fun _ => 0))), (q3, .inl (cZ, 64, .inl (fun _ => 0)))]) hP hD [2] [0, 1] rfl rfl (by decide) (by decide) hk1 hFc hP1 hD1
  generalize H1 = H at hP hS ⊢
  have hK := hK.app hK1
  have hP : va_P (dC, dI) vwCl [(h0, .inr (0, [.ref qb, .long 0, .int 0, .int 0, .int 0, .int 0])), (qb, .inl (cB, 64, .inl (fun _ => 0))), (a1, .inr (1, [.ref q1, .ref q2, .ref q3, .int 0, .int 0, .int 0, .int 0, .int 0])), (q1, .inl (cU, 64, .inl (fun _ => 0))), (q2, .inl (cV, 64, .inl (fun _ => 0))), (q3, .inl (cZ, 64, .inl (fun _ => 0)))] H := hP
  have hD : va_D (fun q : Nat => s.heap.size ≤ q) [(h0, .inr (0, [.ref qb, .long 0, .int 0, .int 0, .int 0, .int 0])), (qb, .inl (cB, 64, .inl (fun _ => 0))), (a1, .inr (1, [.ref q1, .ref q2, .ref q3, .int 0, .int 0, .int 0, .int 0, .int 0])), (q1, .inl (cU, 64, .inl (fun _ => 0))), (q2, .inl (cV, 64, .inl (fun _ => 0))), (q3, .inl (cZ, 64, .inl (fun _ => 0)))] := hD
  have hK : va_K (dC, dI) vwCl [(cB, .byte), (cU, .int), (cV, .int), (cZ, .boolean)] s := hK
  refine lv_astore_n (lv' := [(2, .ref a1), (1, .ref h0), (0, .ref b)]) hx hb dL_law_15 rfl hl (by decide) rfl (fun ls hl => ?_)
  refine lv_iconst (v := 1) hx hb dL_law_16 (by decide) ?_
  refine va_newa (atype := .long) (N' := 1) (a0 := (1, .inr (.inl (fun _ => 0)))) (ty := .long) (n := 1) hx hb (hts (.arrayClass .long) (by decide +kernel)) rfl hK hP hD hS hA (fun _ => rfl) (by decide) (by decide) (by decide) (Nat.le_of_ble_eq_true rfl) (Nat.le_of_ble_eq_true rfl) dL_law_17 (fun qo cO H hK hP hD hS => ?_)
  have hP : va_P (dC, dI) vwCl [(h0, .inr (0, [.ref qb, .long 0, .int 0, .int 0, .int 0, .int 0])), (qb, .inl (cB, 64, .inl (fun _ => 0))), (a1, .inr (1, [.ref q1, .ref q2, .ref q3, .int 0, .int 0, .int 0, .int 0, .int 0])), (q1, .inl (cU, 64, .inl (fun _ => 0))), (q2, .inl (cV, 64, .inl (fun _ => 0))), (q3, .inl (cZ, 64, .inl (fun _ => 0))), (qo, .inl (cO, 1, .inr (.inl (fun _ => 0))))] H := hP
  have hD : va_D (fun q : Nat => s.heap.size ≤ q) [(h0, .inr (0, [.ref qb, .long 0, .int 0, .int 0, .int 0, .int 0])), (qb, .inl (cB, 64, .inl (fun _ => 0))), (a1, .inr (1, [.ref q1, .ref q2, .ref q3, .int 0, .int 0, .int 0, .int 0, .int 0])), (q1, .inl (cU, 64, .inl (fun _ => 0))), (q2, .inl (cV, 64, .inl (fun _ => 0))), (q3, .inl (cZ, 64, .inl (fun _ => 0))), (qo, .inl (cO, 1, .inr (.inl (fun _ => 0))))] := hD
  have hK : va_K (dC, dI) vwCl [(cB, .byte), (cU, .int), (cV, .int), (cZ, .boolean), (cO, .long)] s := hK
  refine lv_astore_n (lv' := [(3, .ref qo), (2, .ref a1), (1, .ref h0), (0, .ref b)]) hx hb dL_law_19 rfl hl (by decide) rfl (fun ls hl => ?_)
  refine lv_iconst (v := 0) hx hb dL_law_20 (by decide) ?_
  refine lv_istore (lv' := [(4, .int 0), (3, .ref qo), (2, .ref a1), (1, .ref h0), (0, .ref b)]) hx hb dL_law_21 hl (by decide) rfl (fun ls hl => ?_)
  refine W.widen (k := 7 + 0) (n := 271 + 6 * 0) (by omega) (by omega) ?_
  exact law_loop hst hL C0 hZ hK 513 0 rfl 0 0 0 0 0 0 0 0 0 0 (fun _ => false, fun _ => 0) (fun _ => 0) (fun _ => 0) (fun _ => 0) (fun _ => 0) (fun _ => 0) nI_0.symm (g_new.mpr (fun _ _ => rfl)) H _ ls hP hD hS (lv_sub hl [0, 4, 3, 2, 1] rfl)
end
section
theorem lw_st {l : Launch} (h : l.flags = flags0) : l.stackTraces = false := by
  unfold Launch.stackTraces
  rw [h]
  decide +kernel
set_option maxHeartbeats 4000000 in
theorem lw_walk (l : Launch) (hst : l.stackTraces = false) (b : Addr) (xs : List Int32) : MetFree l x (headSpec (Jvm.Cond.code x code maxLocals ret :: tables_1) room_1) (lw_P b xs) (fun _ _ _ _ _ => True) lw_Q := by
  refine MetFree.of_bodyS (code := code) (maxLocals := maxLocals) (ret := ret) (by decide) ?_ ?_
  · intro args s m h hn
    obtain ⟨meth, c, h1, h2, h3, h4, h5, h6, -, -⟩ := Cond.code_spec hn (atoms_spec (ws := Jvm.Cond.code x code maxLocals ret :: tables_1) h _ List.mem_cons_self)
    exact ⟨meth, c, h1, h2, h3, h4, h5, h6⟩
  · intro p e s m args below meth c s₁ B hml0 hP _
    obtain ⟨rfl, hx, hbd, hgv⟩ := hP
    obtain ⟨scr, harrAt, hlist, hof, hsmall⟩ := hx
    obtain ⟨hcb, hkn, -, -⟩ := State.arrayAt?_spec harrAt
    have hown : s.vm.findClass R_law = some m.cls := findClass_of_methodNamed B.named
    have hts0 : ∀ c ∈ (Jvm.Cond.code x code maxLocals ret :: tables_1), c.before #[Value.ref b] s = true := atoms_spec (ws := Jvm.Cond.code x code maxLocals ret :: tables_1) B.pre
    have hts : ∀ w ∈ lw_tbl, w.before #[Value.ref b] s = true := k2_hts_sels lw_privs (fun w hw => hts0 w (List.mem_cons_of_mem _ hw)) lw_privs_ok
    have hml : c.maxLocals = 7 := B.maxLocals_eq (hts0 _ List.mem_cons_self)
    have X₀ : Stand p l e room_1 s m #[Value.ref b] below meth c s₁ [] 0 0 := Stand.of_body B
    have hh0 : s₁.heap = s.heap := by rw [B.state]; rfl
    have hsz : scr.slots.size = xs.length := by rw [← Array.length_toList, hlist, List.length_map]
    have hval : ∀ j : Nat, j < xs.length → scr.slots[j]? = some (.int (xs.getD j 0)) := fun j hj => by
      rw [← Array.getElem?_toList, hlist]
      simp [hj]
    have hbl : b < s.heap.size := (Array.getElem?_eq_some_iff.mp hcb).1
    have hX : va_X b xs.length (fun j => xs.getD j 0) s s.heap := ⟨scr, hcb, hof, hkn, hsz, hval⟩
    have K : W p l e room_1 s m #[Value.ref b] below meth c s₁.heap [] 0 0 (lw_Z below #[Value.ref b] s) (entryFrame m ([Value.ref b] : List Value).toArray 7) := by
      rw [hh0]
      exact whole_start l hst hbd ⟨B.exec, B.bytes, B.returns, hml, hown, hts, hX, hbl, B.notSynchronized, hgv⟩
    obtain ⟨t, a1, o, b1, b2, b3⟩ := K s₁ rfl X₀
    exact ⟨t, o, a1, b1, b2, b3⟩
theorem lw_pre_spec {args : Array Value} {s : State} (h : (Jvm.Cond.and given_1 narrow_1).before args s = true) (hr : rest_1_c.before args s = true) : ∃ (b : Addr) (xs : List Int32), lw_P b xs args s := by
  have hs := flat_of_before _ h
  have hq := flat_of_before _ hr
  have hc : (Cond.count 1).before args s = true := hs _ (by decide +kernel)
  have harr : (Cond.arrayOf (.arg 0) .int).before args s = true := hs _ (by decide +kernel)
  have hle : (Cond.le (.length (.arg 0)) (.int 2560)).before args s = true := hs _ (by decide +kernel)
  have hlen : (Cond.isInt (.length (.arg 0))).before args s = true := hq _ (by decide +kernel)
  have hall : (Cond.all (.arg 0) (.isInt (.elem (.arg 0) (.index 0)))).before args s = true := hq _ (by decide +kernel)
  obtain ⟨b, xs, hb, hx⟩ := State.ints_of_pre rfl harr hlen hall
  have hsm : xs.length < 2 ^ 31 := hx.choose_spec.2.2.2
  have hev : (Term.length (.arg 0)).eval args s none [] s = some (.int xs.length.toInt32) := hx.length_eval hb
  have hv := Cond.le_ints hev (show (Term.int 2560).eval args s none [] s = some (.int 2560) from rfl)
  have hd : xs.length.toInt32 ≤ 2560 := by
    simpa [Cond.before, Cond.holds, hv] using hle
  have hN : xs.length ≤ 2560 := (Int32.ofNat_le_ofNat hsm (by decide)).mp (show Int32.ofNat xs.length ≤ Int32.ofNat 2560 from hd)
  exact ⟨b, xs, Cond.one_arg hc (show args[0]? = some (.ref b) from hb), hx, hN, h⟩
theorem lw_comes (l : Launch) (hst : l.stackTraces = false) : Comes l x (Jvm.Cond.code x code maxLocals ret :: tables_1) room_1 (fun tb e args s => Calls_1 tb e args s ∧ rest_1 tb e args s ∧ Pre_1 tb e args s)
    (fun _ _ args s o t => lw_Q args s o t) := by
  intro p e ha hc hk s m args below hf hfit hheap happ hpre
  obtain ⟨b, xs, hP⟩ := lw_pre_spec hpre.2.2 hpre.2.1
  obtain ⟨k, o, h1, h2, h3, hQ⟩ := lw_walk l hst b xs p e ha hc hk s m args below hf ((Spec.applies_iff_loose hf).mp happ).1 hP trivial
  exact ⟨k, o, h1, h2, h3, hQ⟩
theorem lw_frame {s t : State} {o : Outcome} {args : Array Value} (h : Framed s o t [] 1034 8481) :
    Framed s o t (fieldLocs frame_1_writes args s ++ arrayLocs frame_1_arrays args s ++ staticLocs frame_1_statics s) 1034 8481 := h
theorem lw_limb (L : Cond) (hL : ∀ (args : Array Value) (s t : State), L.after args s (.returned (some (.int 1))) t = true) :
    ArmFor flags0 classFile x code maxLocals ret World_1 tables_1 room_1 Calls_1 rest_1 Pre_1
      (fun tb e a s o t => postC L tb e a s o t ∧ Framed s o t (fieldLocs frame_1_writes a s ++ arrayLocs frame_1_arrays a s ++ staticLocs frame_1_statics s) 1034 8481) := by
  intro l hfl _ _ p e ha hc hk s m args below hf hfit hheap happ hpre
  obtain ⟨k, o, h1, h2, h3, rfl, hF⟩ := lw_comes l (lw_st hfl) p e ha hc hk s m args below hf hfit hheap happ hpre
  exact ⟨k, _, h1, h2, h3, hL args s _, lw_frame hF⟩
theorem i_vc : Claimed_1_1 ∧ Claimed_1_2 := ⟨lw_limb limb_1_1 (fun args s t => by simp [limb_1_1, Cond.after, Cond.holds, Cond.value]), lw_limb limb_1_2 (fun args s t => Cond.after_iff.mpr (by
  first | (rw [show limb_1_2 = Cond.eq .result (.int 1) from rfl, Cond.eq_ints (x := 1) (y := 1) rfl rfl]; simp; done) | (simp [limb_1_2, Cond.value, Term.eval]; done)))⟩
end
