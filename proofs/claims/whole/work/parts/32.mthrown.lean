set_option maxHeartbeats 4000000 in
set_option maxRecDepth 100000 in
theorem m_thrown (l : Launch) (dC : Nat → ClassId) (dI : Nat → Nat → Nat) (a1 q1 q2 q3 : Nat) (cU cV cZ : ClassId) (nx mn ed th he : Int32) (fU fB fH : Nat → Int32) (sz : Nat)  : Met l yX1_thrown wsX1_thrown ({ frames := 0, cells := 0, slots := 0, locals := 0 }) (va_Pc [.ref a1] (fun U => U.heap.size = sz ∧ va_P (dC, dI) vwCl [(a1, .inr (1, [.ref q1, .ref q2, .ref q3, .int nx, .int mn, .int ed, .int th, .int he])), (q1, .inl (cU, 64, .inl fU)), (q2, .inl (cV, 64, .inl fB)), (q3, .inl (cZ, 64, .inl fH))] U.heap ∧ va_K (dC, dI) vwCl [(cU, .int), (cV, .int), (cZ, .boolean)] U ∧ va_D (fun _ => True) [(a1, .inr (1, [.ref q1, .ref q2, .ref q3, .int nx, .int mn, .int ed, .int th, .int he])), (q1, .inl (cU, 64, .inl fU)), (q2, .inl (cV, 64, .inl fB)), (q3, .inl (cZ, 64, .inl fH))])) (va_Qi (fun (r : Int32) (u0 : Unit) => match u0 with | () => r = th) (fun (u0 : Unit) (t : State) => match u0 with | () => va_P (dC, dI) vwCl [(a1, .inr (1, [.ref q1, .ref q2, .ref q3, .int nx, .int mn, .int ed, .int th, .int he])), (q1, .inl (cU, 64, .inl fU)), (q2, .inl (cV, 64, .inl fB)), (q3, .inl (cZ, 64, .inl fH))] t.heap ∧ va_K (dC, dI) vwCl [(cU, .int), (cV, .int), (cZ, .boolean)] t ∧ va_D (va_A [(a1, .inr (1, [.ref q1, .ref q2, .ref q3, .int nx, .int mn, .int ed, .int th, .int he])), (q1, .inl (cU, 64, .inl fU)), (q2, .inl (cV, 64, .inl fB)), (q3, .inl (cZ, 64, .inl fH))] sz) [(a1, .inr (1, [.ref q1, .ref q2, .ref q3, .int nx, .int mn, .int ed, .int th, .int he])), (q1, .inl (cU, 64, .inl fU)), (q2, .inl (cV, 64, .inl fB)), (q3, .inl (cZ, 64, .inl fH))]) (va_A [(a1, .inr (1, [.ref q1, .ref q2, .ref q3, .int nx, .int mn, .int ed, .int th, .int he])), (q1, .inl (cU, 64, .inl fU)), (q2, .inl (cV, 64, .inl fB)), (q3, .inl (cZ, 64, .inl fH))] sz)) 0 0 (va_A [(a1, .inr (1, [.ref q1, .ref q2, .ref q3, .int nx, .int mn, .int ed, .int th, .int he])), (q1, .inl (cU, 64, .inl fU)), (q2, .inl (cV, 64, .inl fB)), (q3, .inl (cZ, 64, .inl fH))] sz) := by
  refine Met.ofW (cc := cX1_thrown) (maxL := 1) (ret := (some .int)) (by decide) rfl ?_
  intro p e s m args below meth c s₁ B hml hv
  obtain ⟨rfl, hsz, hP, hK, hD0⟩ := hv
  have hx := B.exec
  have hb := B.bytes
  have hr := B.returns
  have hts := atoms_spec (ws := wsX1_thrown) B.pre
  have hown : s.vm.findClass RX1 = some m.cls := findClass_of_methodNamed B.named
  have hlocks := B.notSynchronized
  subst hsz
  have hD := hD0.self (sz := s.heap.size)
  generalize hAe : va_A [(a1, .inr (1, [.ref q1, .ref q2, .ref q3, .int nx, .int mn, .int ed, .int th, .int he])), (q1, .inl (cU, 64, .inl fU)), (q2, .inl (cV, 64, .inl fB)), (q3, .inl (cZ, 64, .inl fH))] s.heap.size = A at hD ⊢
  have hA : ∀ q : Nat, s.heap.size ≤ q → A q := fun q h => by rw [← hAe]; exact Or.inr h
  have hS : va_S A s.heap s.heap [] := va_S.rf
  have hP : va_P (dC, dI) vwCl [(a1, .inr (1, [.ref q1, .ref q2, .ref q3, .int nx, .int mn, .int ed, .int th, .int he])), (q1, .inl (cU, 64, .inl fU)), (q2, .inl (cV, 64, .inl fB)), (q3, .inl (cZ, 64, .inl fH))] s.heap := hP
  have hl := lv_entry ([.ref a1]) (n := 1) (Nat.le_of_ble_eq_true rfl)
  rw [lg_entry_eq]
  generalize (lg_sl ([.ref a1]) ++ List.replicate (1 - (lg_sl ([.ref a1])).length) Slot.unset).toArray = ls at hl ⊢
  have hl : lv_has ls 1 [(0, .ref a1)] := hl
  have hi_1 : ∀ w ∈ u_ws RX1 TX1 8, w ∈ wsX1_thrown := by decide +kernel
  refine lv_aload_n hx hb dX1_thrown_0 rfl (lv_at hl 0 rfl) ?_
  refine va_get (D := (dC, dI)) (ci := 1) (v := .int th) (C := RX1) (T := TX1) (N := 8) hx hb hts hi_1 hown hK hP 0 rfl rfl 6 (by decide) (hts (.fieldLink RX1 20 "SegmentBoxModel" "thrown" "I") (by decide +kernel)) (fun _ h9 => h9) rfl dX1_thrown_1 ?_
  exact W.iret (v := th) hx hb hr (fun t ht hW => ⟨⟨th, (), rfl, rfl, by rw [ht]; exact hP, va_K.moved hW.alike hK, hD⟩, hS.F ht⟩) hS.2.2 dX1_thrown_4
