def thr (A : Nat → Prop) (U : State) (H : Heap) : Prop := vx_Zq Bundle.tN "UNASSIGNED_STACK" Bundle.steD A U H ∧ vx_Zq Bundle.tN "SUPPRESSED_SENTINEL" Bundle.listD A U H ∧ va_Nw (.castable "java/lang/IllegalArgumentException" "java/lang/IllegalArgumentException") U ∧ va_Nw (.castable "java/lang/IndexOutOfBoundsException" "java/lang/IndexOutOfBoundsException") U ∧ va_Nw (.declares ⟨"java/lang/RuntimeException", "<init>", "()V"⟩) U ∧ va_Nw (.declares ⟨"java/lang/Exception", "<init>", "()V"⟩) U ∧ va_Nw (.declares ⟨"java/lang/Throwable", "<init>", "()V"⟩) U
theorem thr_warm {A : Nat → Prop} {s U : State} {H : Heap} (hW : s.WarmedH U.vm) (h : thr A s H) : thr A U H := ⟨h.1.moved hW.alike, h.2.1.moved hW.alike, va_Nw.warmC hW h.2.2.1, va_Nw.warmC hW h.2.2.2.1, va_Nw.warmD hW h.2.2.2.2.1, va_Nw.warmD hW h.2.2.2.2.2.1, va_Nw.warmD hW h.2.2.2.2.2.2⟩
theorem thr_kept {A : Nat → Prop} {U : State} {H H1 : Heap} (h : thr A U H) (hq : ∀ a : Nat, a < H.size → ¬ A a → H1[a]? = H[a]?) : thr A U H1 := ⟨h.1.kept hq, h.2.1.kept hq, h.2.2⟩
theorem thr_narrow {A B : Nat → Prop} {U : State} {H : Heap} (h : thr A U H) (hAB : ∀ q, B q → A q) : thr B U H := ⟨h.1.narrow hAB, h.2.1.narrow hAB, h.2.2⟩
theorem thr_blind {A : Nat → Prop} {U : State} {g : JFrame} {mk : MethodId} {a : Array Value} (h : thr A U U.heap) : thr A (U.calling g mk a) (U.calling g mk a).heap := thr_warm (s := U) (U := U.calling g mk a) (State.WarmedH.refl U) h
theorem thr_call {A B : Nat → Prop} {s U : State} {H : Heap} {locs : List Loc} (h : thr A s s.heap) (hS : va_S A s.heap H locs) (hAB : ∀ q, B q → A q) (hU : U.heap = H) (hW : s.WarmedH U.vm) : thr B U U.heap := by
  rw [hU]
  exact thr_narrow (thr_warm hW (thr_kept h hS.2.1)) hAB
theorem bI_nar {c : Prop} [Decidable c] : narrow .boolean (.int (bI c)) = .int (bI c) := by
  unfold bI
  split <;> rfl
abbrev c_eok (nx un ek : Int32) (kb : Int64) (n : Int32) : Prop := ek = 0 ∧ ¬ (n - nx) < 0 ∧ ¬ (64 - un) < (n - nx) ∧ ¬ c_from kb (n - nx)
