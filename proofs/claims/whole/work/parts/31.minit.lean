set_option maxHeartbeats 4000000 in
set_option maxRecDepth 100000 in
theorem m_init (l : Launch) (dC : Nat → ClassId) (dI : Nat → Nat → Nat) (a1 : Nat) (sz : Nat)  : Met l yX1_init wsX1_init ({ frames := 1, cells := 3, slots := 192, locals := 12 }) (va_Pc [.ref a1] (fun U => U.heap.size = sz ∧ va_P (dC, dI) vwCl [(a1, .inr (1, [.null, .null, .null, .int 0, .int 0, .int 0, .int 0, .int 0]))] U.heap ∧ va_K (dC, dI) vwCl [] U ∧ va_D (fun _ => True) [(a1, .inr (1, [.null, .null, .null, .int 0, .int 0, .int 0, .int 0, .int 0]))])) (va_Qv (fun (u0 : Nat × Nat × Nat × ClassId × ClassId × ClassId) => match u0 with | (q1, q2, q3, cU, cV, cZ) => True) (fun (u0 : Nat × Nat × Nat × ClassId × ClassId × ClassId) (t : State) => match u0 with | (q1, q2, q3, cU, cV, cZ) => va_P (dC, dI) vwCl [(a1, .inr (1, [.ref q1, .ref q2, .ref q3, .int 0, .int 0, .int 0, .int 0, .int 0])), (q1, .inl (cU, 64, .inl (fun _ => 0))), (q2, .inl (cV, 64, .inl (fun _ => 0))), (q3, .inl (cZ, 64, .inl (fun _ => 0)))] t.heap ∧ va_K (dC, dI) vwCl [(cU, .int), (cV, .int), (cZ, .boolean)] t ∧ va_D (va_A [(a1, .inr (1, [.null, .null, .null, .int 0, .int 0, .int 0, .int 0, .int 0]))] sz) [(a1, .inr (1, [.ref q1, .ref q2, .ref q3, .int 0, .int 0, .int 0, .int 0, .int 0])), (q1, .inl (cU, 64, .inl (fun _ => 0))), (q2, .inl (cV, 64, .inl (fun _ => 0))), (q3, .inl (cZ, 64, .inl (fun _ => 0)))]) (va_A [(a1, .inr (1, [.null, .null, .null, .int 0, .int 0, .int 0, .int 0, .int 0]))] sz)) 3 192 (va_A [(a1, .inr (1, [.null, .null, .null, .int 0, .int 0, .int 0, .int 0, .int 0]))] sz) := by
  refine Met.ofW (cc := cX1_init) (maxL := 1) (ret := none) (by decide) rfl ?_
  intro p e s m args below meth c s₁ B hml hv
  obtain ⟨rfl, hsz, hP, hK, hD0⟩ := hv
  have hx := B.exec
  have hb := B.bytes
  have hr := B.returns
  have hts := atoms_spec (ws := wsX1_init) B.pre
  have hown : s.vm.findClass RX1 = some m.cls := findClass_of_methodNamed B.named
  have hlocks := B.notSynchronized
  have hin : meth.name = "<init>" := (name_of_methodNamed B.named B.method).1
  subst hsz
  have hD := hD0.self (sz := s.heap.size)
  generalize hAe : va_A [(a1, .inr (1, [.null, .null, .null, .int 0, .int 0, .int 0, .int 0, .int 0]))] s.heap.size = A at hD ⊢
  have hA : ∀ q : Nat, s.heap.size ≤ q → A q := fun q h => by rw [← hAe]; exact Or.inr h
  have hS : va_S A s.heap s.heap [] := va_S.rf
  have hP : va_P (dC, dI) vwCl [(a1, .inr (1, [.null, .null, .null, .int 0, .int 0, .int 0, .int 0, .int 0]))] s.heap := hP
  have hl := lv_entry ([.ref a1]) (n := 1) (Nat.le_of_ble_eq_true rfl)
  rw [lg_entry_eq]
  generalize (lg_sl ([.ref a1]) ++ List.replicate (1 - (lg_sl ([.ref a1])).length) Slot.unset).toArray = ls at hl ⊢
  have hl : lv_has ls 1 [(0, .ref a1)] := hl
  have hi_1 : ∀ w ∈ u_ws RX1 TX1 8, w ∈ wsX1_init := by decide +kernel
  refine lv_aload_n hx hb dX1_init_0 rfl (lv_at hl 0 rfl) ?_
  refine W.objInit hx hb hown (hts (.methodLink RX1 1 objectInit) (by decide +kernel)) (hts (.instanceMethod objectInit) (by decide +kernel)) (hts _ (List.mem_cons_of_mem _ (List.mem_append_left _ (List.mem_of_getElem? (i := 2) rfl)))) rfl (by rw [hml]; exact hl.1) rfl dX1_init_1 (Nat.le_of_ble_eq_true rfl) (Nat.le_of_ble_eq_true rfl) ?_
  refine W.eq (g2 := F0 m 4 ls []) rfl ?_
  refine lv_aload_n hx hb dX1_init_4 rfl (lv_at hl 0 rfl) ?_
  refine lv_bipush (v := 64) hx hb dX1_init_5 (by decide) ?_
  refine va_newa (atype := .int) (N' := 64) (a0 := (64, .inl (fun _ => 0))) (ty := .int) (n := 64) hx hb (hts (.arrayClass .int) (by decide +kernel)) rfl hK hP hD hS hA (fun _ => rfl) (by decide) (by decide) (by decide) (Nat.le_of_ble_eq_true rfl) (Nat.le_of_ble_eq_true rfl) dX1_init_7 (fun qa_1 cU H hK hP hD hS => ?_)
  have hP : va_P (dC, dI) vwCl [(a1, .inr (1, [.null, .null, .null, .int 0, .int 0, .int 0, .int 0, .int 0])), (qa_1, .inl (cU, 64, .inl (fun _ => 0)))] H := hP
  have hD : va_D A [(a1, .inr (1, [.null, .null, .null, .int 0, .int 0, .int 0, .int 0, .int 0])), (qa_1, .inl (cU, 64, .inl (fun _ => 0)))] := hD
  have hK : va_K (dC, dI) vwCl [(cU, .int)] s := hK
  refine va_putF (D := (dC, dI)) (ci := 1) (v := .ref qa_1) (ty := .array .int) (C := RX1) (T := TX1) (N := 8) hx hb hts hi_1 tyX1 tyX1_ok nmX1 hown hK hP hD hS 0 rfl rfl 0 (by decide) (hts (.fieldLink RX1 9 "SegmentBoxModel" "unread" "[I") (by decide +kernel)) (fun _ h9 => h9) rfl hin rfl (by decide +kernel) rfl rfl (Nat.le_of_ble_eq_true rfl) dX1_init_9 (fun H locs hP hD hS => ?_)
  have hP : va_P (dC, dI) vwCl [(a1, .inr (1, [.ref qa_1, .null, .null, .int 0, .int 0, .int 0, .int 0, .int 0])), (qa_1, .inl (cU, 64, .inl (fun _ => 0)))] H := hP
  have hD : va_D A [(a1, .inr (1, [.ref qa_1, .null, .null, .int 0, .int 0, .int 0, .int 0, .int 0])), (qa_1, .inl (cU, 64, .inl (fun _ => 0)))] := hD
  refine lv_aload_n hx hb dX1_init_12 rfl (lv_at hl 0 rfl) ?_
  refine lv_bipush (v := 64) hx hb dX1_init_13 (by decide) ?_
  refine va_newa (atype := .int) (N' := 64) (a0 := (64, .inl (fun _ => 0))) (ty := .int) (n := 64) hx hb (hts (.arrayClass .int) (by decide +kernel)) rfl hK hP hD hS hA (fun _ => rfl) (by decide) (by decide) (by decide) (Nat.le_of_ble_eq_true rfl) (Nat.le_of_ble_eq_true rfl) dX1_init_15 (fun qa_2 cV H hK hP hD hS => ?_)
  have hP : va_P (dC, dI) vwCl [(a1, .inr (1, [.ref qa_1, .null, .null, .int 0, .int 0, .int 0, .int 0, .int 0])), (qa_1, .inl (cU, 64, .inl (fun _ => 0))), (qa_2, .inl (cV, 64, .inl (fun _ => 0)))] H := hP
  have hD : va_D A [(a1, .inr (1, [.ref qa_1, .null, .null, .int 0, .int 0, .int 0, .int 0, .int 0])), (qa_1, .inl (cU, 64, .inl (fun _ => 0))), (qa_2, .inl (cV, 64, .inl (fun _ => 0)))] := hD
  have hK : va_K (dC, dI) vwCl [(cU, .int), (cV, .int)] s := hK
  refine va_putF (D := (dC, dI)) (ci := 1) (v := .ref qa_2) (ty := .array .int) (C := RX1) (T := TX1) (N := 8) hx hb hts hi_1 tyX1 tyX1_ok nmX1 hown hK hP hD hS 0 rfl rfl 1 (by decide) (hts (.fieldLink RX1 13 "SegmentBoxModel" "byteAt" "[I") (by decide +kernel)) (fun _ h9 => h9) rfl hin rfl (by decide +kernel) rfl rfl (Nat.le_of_ble_eq_true rfl) dX1_init_17 (fun H locs hP hD hS => ?_)
  have hP : va_P (dC, dI) vwCl [(a1, .inr (1, [.ref qa_1, .ref qa_2, .null, .int 0, .int 0, .int 0, .int 0, .int 0])), (qa_1, .inl (cU, 64, .inl (fun _ => 0))), (qa_2, .inl (cV, 64, .inl (fun _ => 0)))] H := hP
  have hD : va_D A [(a1, .inr (1, [.ref qa_1, .ref qa_2, .null, .int 0, .int 0, .int 0, .int 0, .int 0])), (qa_1, .inl (cU, 64, .inl (fun _ => 0))), (qa_2, .inl (cV, 64, .inl (fun _ => 0)))] := hD
  refine lv_aload_n hx hb dX1_init_20 rfl (lv_at hl 0 rfl) ?_
  refine lv_bipush (v := 64) hx hb dX1_init_21 (by decide) ?_
  refine va_newa (atype := .boolean) (N' := 64) (a0 := (64, .inl (fun _ => 0))) (ty := .boolean) (n := 64) hx hb (hts (.arrayClass .boolean) (by decide +kernel)) rfl hK hP hD hS hA (fun _ => rfl) (by decide) (by decide) (by decide) (Nat.le_of_ble_eq_true rfl) (Nat.le_of_ble_eq_true rfl) dX1_init_23 (fun qa_3 cZ H hK hP hD hS => ?_)
  have hP : va_P (dC, dI) vwCl [(a1, .inr (1, [.ref qa_1, .ref qa_2, .null, .int 0, .int 0, .int 0, .int 0, .int 0])), (qa_1, .inl (cU, 64, .inl (fun _ => 0))), (qa_2, .inl (cV, 64, .inl (fun _ => 0))), (qa_3, .inl (cZ, 64, .inl (fun _ => 0)))] H := hP
  have hD : va_D A [(a1, .inr (1, [.ref qa_1, .ref qa_2, .null, .int 0, .int 0, .int 0, .int 0, .int 0])), (qa_1, .inl (cU, 64, .inl (fun _ => 0))), (qa_2, .inl (cV, 64, .inl (fun _ => 0))), (qa_3, .inl (cZ, 64, .inl (fun _ => 0)))] := hD
  have hK : va_K (dC, dI) vwCl [(cU, .int), (cV, .int), (cZ, .boolean)] s := hK
  refine va_putF (D := (dC, dI)) (ci := 1) (v := .ref qa_3) (ty := .array .boolean) (C := RX1) (T := TX1) (N := 8) hx hb hts hi_1 tyX1 tyX1_ok nmX1 hown hK hP hD hS 0 rfl rfl 2 (by decide) (hts (.fieldLink RX1 16 "SegmentBoxModel" "isHeld" "[Z") (by decide +kernel)) (fun _ h9 => h9) rfl hin rfl (by decide +kernel) rfl rfl (Nat.le_of_ble_eq_true rfl) dX1_init_25 (fun H locs hP hD hS => ?_)
  have hP : va_P (dC, dI) vwCl [(a1, .inr (1, [.ref qa_1, .ref qa_2, .ref qa_3, .int 0, .int 0, .int 0, .int 0, .int 0])), (qa_1, .inl (cU, 64, .inl (fun _ => 0))), (qa_2, .inl (cV, 64, .inl (fun _ => 0))), (qa_3, .inl (cZ, 64, .inl (fun _ => 0)))] H := hP
  have hD : va_D A [(a1, .inr (1, [.ref qa_1, .ref qa_2, .ref qa_3, .int 0, .int 0, .int 0, .int 0, .int 0])), (qa_1, .inl (cU, 64, .inl (fun _ => 0))), (qa_2, .inl (cV, 64, .inl (fun _ => 0))), (qa_3, .inl (cZ, 64, .inl (fun _ => 0)))] := hD
  exact W.vret hx hb hr (fun t ht hW => ⟨⟨(qa_1, qa_2, qa_3, cU, cV, cZ), rfl, trivial, by rw [ht]; exact hP, va_K.moved hW.alike hK, hD⟩, hS.F ht⟩) hS.2.2 dX1_init_28
