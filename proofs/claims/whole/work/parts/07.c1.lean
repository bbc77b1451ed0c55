theorem lcmp0 {x : Int64} (h : lg_cmp x 0 = 0) : x = 0 := by
  unfold lg_cmp at h
  split at h
  · exact absurd h (by decide)
  · split at h
    · assumption
    · exact absurd h (by decide)
theorem lcmp0n {x : Int64} (h : ¬ lg_cmp x 0 = 0) : ¬ x = 0 := fun e => h (by rw [e]; rfl)
set_option maxHeartbeats 4000000 in
set_option maxRecDepth 100000 in
theorem c_window (l : Launch) (dC : Nat → ClassId) (dI : Nat → Nat → Nat) (h0 qb : Nat) (cB : ClassId) (kb : Int64) (nx un ek en : Int32) (fb : Nat → Int32) (sz : Nat)  : Met l yX0_window wsX0_window ({ frames := 0, cells := 0, slots := 0, locals := 0 }) (va_Pc [.ref h0] (fun U => U.heap.size = sz ∧ va_P (dC, dI) vwCl [(h0, .inr (0, [.ref qb, .long kb, .int nx, .int un, .int ek, .int en])), (qb, .inl (cB, 64, .inl fb))] U.heap ∧ va_K (dC, dI) vwCl [(cB, .byte)] U ∧ va_D (fun _ => True) [(h0, .inr (0, [.ref qb, .long kb, .int nx, .int un, .int ek, .int en])), (qb, .inl (cB, 64, .inl fb))])) (va_Qi (fun (r : Int32) (u : Unit) => match u with | () => r = 64 - un) (fun (u : Unit) (t : State) => match u with | () => va_P (dC, dI) vwCl [(h0, .inr (0, [.ref qb, .long kb, .int nx, .int un, .int ek, .int en])), (qb, .inl (cB, 64, .inl fb))] t.heap ∧ va_K (dC, dI) vwCl [(cB, .byte)] t ∧ va_D (va_A [(h0, .inr (0, [.ref qb, .long kb, .int nx, .int un, .int ek, .int en])), (qb, .inl (cB, 64, .inl fb))] sz) [(h0, .inr (0, [.ref qb, .long kb, .int nx, .int un, .int ek, .int en])), (qb, .inl (cB, 64, .inl fb))]) (va_A [(h0, .inr (0, [.ref qb, .long kb, .int nx, .int un, .int ek, .int en])), (qb, .inl (cB, 64, .inl fb))] sz)) 0 0 (va_A [(h0, .inr (0, [.ref qb, .long kb, .int nx, .int un, .int ek, .int en])), (qb, .inl (cB, 64, .inl fb))] sz) := by
  refine Met.ofW (cc := cX0_window) (maxL := 1) (ret := (some .int)) (by decide) rfl ?_
  intro p e s m args below meth c s₁ B hml hv
  obtain ⟨rfl, hsz, hP, hK, hD0⟩ := hv
  have hx := B.exec
  have hb := B.bytes
  have hr := B.returns
  have hts := atoms_spec (ws := wsX0_window) B.pre
  have hown : s.vm.findClass RX0 = some m.cls := findClass_of_methodNamed B.named
  have hlocks := B.notSynchronized
  subst hsz
  have hD := hD0.self (sz := s.heap.size)
  generalize hAe : va_A [(h0, .inr (0, [.ref qb, .long kb, .int nx, .int un, .int ek, .int en])), (qb, .inl (cB, 64, .inl fb))] s.heap.size = A at hD ⊢
  have hA : ∀ q : Nat, s.heap.size ≤ q → A q := fun q h => by rw [← hAe]; exact Or.inr h
  have hS : va_S A s.heap s.heap [] := va_S.rf
  have hP : va_P (dC, dI) vwCl [(h0, .inr (0, [.ref qb, .long kb, .int nx, .int un, .int ek, .int en])), (qb, .inl (cB, 64, .inl fb))] s.heap := hP
  have hl := lv_entry ([.ref h0]) (n := 1) (Nat.le_of_ble_eq_true rfl)
  rw [lg_entry_eq]
  generalize (lg_sl ([.ref h0]) ++ List.replicate (1 - (lg_sl ([.ref h0])).length) Slot.unset).toArray = ls at hl ⊢
  have hl : lv_has ls 1 [(0, .ref h0)] := hl
  have hi_0 : ∀ w ∈ u_ws RX0 TX0 6, w ∈ wsX0_window := by decide +kernel
  refine lv_bipush (v := 64) hx hb dX0_window_0 (by decide) ?_
  refine lv_aload_n hx hb dX0_window_2 rfl (lv_at hl 0 rfl) ?_
  refine va_get (D := (dC, dI)) (ci := 0) (v := .int un) (C := RX0) (T := TX0) (N := 6) hx hb hts hi_0 hown hK hP 0 rfl rfl 3 (by decide) (hts (.fieldLink RX0 21 "SegmentBox" "unread" "I") (by decide +kernel)) (fun _ h9 => h9) rfl dX0_window_3 ?_
  refine lv_isub hx hb dX0_window_6 ?_
  exact W.iret (v := 64 - un) hx hb hr (fun t ht hW => ⟨⟨64 - un, (), rfl, rfl, by rw [ht]; exact hP, va_K.moved hW.alike hK, hD⟩, hS.F ht⟩) hS.2.2 dX0_window_7
set_option maxHeartbeats 4000000 in
set_option maxRecDepth 100000 in
theorem c_slotOf (l : Launch) (dC : Nat → ClassId) (dI : Nat → Nat → Nat) (n : Int32) (sz : Nat)  : Met l yX0_slotOf wsX0_slotOf ({ frames := 0, cells := 0, slots := 0, locals := 0 }) (va_Pc [.int n] (fun U => U.heap.size = sz ∧ va_P (dC, dI) vwCl [] U.heap ∧ va_K (dC, dI) vwCl [] U ∧ va_D (fun _ => True) [])) (va_Qi (fun (r : Int32) (u : Unit) => match u with | () => r = n &&& 63) (fun (u : Unit) (t : State) => match u with | () => va_P (dC, dI) vwCl [] t.heap ∧ va_K (dC, dI) vwCl [] t ∧ va_D (va_A [] sz) []) (va_A [] sz)) 0 0 (va_A [] sz) := by
  refine Met.ofW (cc := cX0_slotOf) (maxL := 1) (ret := (some .int)) (by decide) rfl ?_
  intro p e s m args below meth c s₁ B hml hv
  obtain ⟨rfl, hsz, hP, hK, hD0⟩ := hv
  have hx := B.exec
  have hb := B.bytes
  have hr := B.returns
  have hts := atoms_spec (ws := wsX0_slotOf) B.pre
  have hown : s.vm.findClass RX0 = some m.cls := findClass_of_methodNamed B.named
  have hlocks := B.notSynchronized
  subst hsz
  have hD := hD0.self (sz := s.heap.size)
  generalize hAe : va_A [] s.heap.size = A at hD ⊢
  have hA : ∀ q : Nat, s.heap.size ≤ q → A q := fun q h => by rw [← hAe]; exact Or.inr h
  have hS : va_S A s.heap s.heap [] := va_S.rf
  have hP : va_P (dC, dI) vwCl [] s.heap := hP
  have hl := lv_entry ([.int n]) (n := 1) (Nat.le_of_ble_eq_true rfl)
  rw [lg_entry_eq]
  generalize (lg_sl ([.int n]) ++ List.replicate (1 - (lg_sl ([.int n])).length) Slot.unset).toArray = ls at hl ⊢
  have hl : lv_has ls 1 [(0, .int n)] := hl
  refine lv_iload_n hx hb dX0_slotOf_0 rfl (lv_at hl 0 rfl) ?_
  refine lv_bipush (v := 63) hx hb dX0_slotOf_1 (by decide) ?_
  refine lv_iand hx hb dX0_slotOf_3 ?_
  exact W.iret (v := n &&& 63) hx hb hr (fun t ht hW => ⟨⟨n &&& 63, (), rfl, rfl, by rw [ht]; exact hP, va_K.moved hW.alike hK, hD⟩, hS.F ht⟩) hS.2.2 dX0_slotOf_4
set_option maxHeartbeats 4000000 in
set_option maxRecDepth 100000 in
theorem c_isHeldAhead (l : Launch) (dC : Nat → ClassId) (dI : Nat → Nat → Nat) (h0 qb : Nat) (cB : ClassId) (kb : Int64) (nx un ek en : Int32) (fb : Nat → Int32) (a : Int32) (sz : Nat)  : Met l yX0_isHeldAhead wsX0_isHeldAhead ({ frames := 0, cells := 0, slots := 0, locals := 0 }) (va_Pc [.ref h0, .int a] (fun U => U.heap.size = sz ∧ va_P (dC, dI) vwCl [(h0, .inr (0, [.ref qb, .long kb, .int nx, .int un, .int ek, .int en])), (qb, .inl (cB, 64, .inl fb))] U.heap ∧ va_K (dC, dI) vwCl [(cB, .byte)] U ∧ va_D (fun _ => True) [(h0, .inr (0, [.ref qb, .long kb, .int nx, .int un, .int ek, .int en])), (qb, .inl (cB, 64, .inl fb))])) (va_Qi (fun (r : Int32) (u : Unit) => match u with | () => r = bI (c_held kb a)) (fun (u : Unit) (t : State) => match u with | () => va_P (dC, dI) vwCl [(h0, .inr (0, [.ref qb, .long kb, .int nx, .int un, .int ek, .int en])), (qb, .inl (cB, 64, .inl fb))] t.heap ∧ va_K (dC, dI) vwCl [(cB, .byte)] t ∧ va_D (va_A [(h0, .inr (0, [.ref qb, .long kb, .int nx, .int un, .int ek, .int en])), (qb, .inl (cB, 64, .inl fb))] sz) [(h0, .inr (0, [.ref qb, .long kb, .int nx, .int un, .int ek, .int en])), (qb, .inl (cB, 64, .inl fb))]) (va_A [(h0, .inr (0, [.ref qb, .long kb, .int nx, .int un, .int ek, .int en])), (qb, .inl (cB, 64, .inl fb))] sz)) 0 0 (va_A [(h0, .inr (0, [.ref qb, .long kb, .int nx, .int un, .int ek, .int en])), (qb, .inl (cB, 64, .inl fb))] sz) := by
  refine Met.ofW (cc := cX0_isHeldAhead) (maxL := 2) (ret := (some .boolean)) (by decide) rfl ?_
  intro p e s m args below meth c s₁ B hml hv
  obtain ⟨rfl, hsz, hP, hK, hD0⟩ := hv
  have hx := B.exec
  have hb := B.bytes
  have hr := B.returns
  have hts := atoms_spec (ws := wsX0_isHeldAhead) B.pre
  have hown : s.vm.findClass RX0 = some m.cls := findClass_of_methodNamed B.named
  have hlocks := B.notSynchronized
  subst hsz
  have hD := hD0.self (sz := s.heap.size)
  generalize hAe : va_A [(h0, .inr (0, [.ref qb, .long kb, .int nx, .int un, .int ek, .int en])), (qb, .inl (cB, 64, .inl fb))] s.heap.size = A at hD ⊢
  have hA : ∀ q : Nat, s.heap.size ≤ q → A q := fun q h => by rw [← hAe]; exact Or.inr h
  have hS : va_S A s.heap s.heap [] := va_S.rf
  have hP : va_P (dC, dI) vwCl [(h0, .inr (0, [.ref qb, .long kb, .int nx, .int un, .int ek, .int en])), (qb, .inl (cB, 64, .inl fb))] s.heap := hP
  have hl := lv_entry ([.ref h0, .int a]) (n := 2) (Nat.le_of_ble_eq_true rfl)
  rw [lg_entry_eq]
  generalize (lg_sl ([.ref h0, .int a]) ++ List.replicate (2 - (lg_sl ([.ref h0, .int a])).length) Slot.unset).toArray = ls at hl ⊢
  have hl : lv_has ls 2 [(0, .ref h0), (1, .int a)] := hl
  have hi_0 : ∀ w ∈ u_ws RX0 TX0 6, w ∈ wsX0_isHeldAhead := by decide +kernel
  refine lv_iload_n hx hb dX0_isHeldAhead_0 rfl (lv_at hl 1 rfl) ?_
  refine lv_if_lt (tgt := 27) hx hb dX0_isHeldAhead_1 (by decide) (fun c_1 => ?_) (fun c_1 => ?_)
  · refine lv_iconst (v := 0) hx hb dX0_isHeldAhead_27 (by decide) ?_
    exact W.zret (v := 0) hx hb hr rfl (fun t ht hW => ⟨⟨0, (), rfl, bI_f (fun z => z.1 c_1), by rw [ht]; exact hP, va_K.moved hW.alike hK, hD⟩, hS.F ht⟩) hS.2.2 dX0_isHeldAhead_28
  · refine lv_iload_n hx hb dX0_isHeldAhead_4 rfl (lv_at hl 1 rfl) ?_
    refine lv_bipush (v := 64) hx hb dX0_isHeldAhead_5 (by decide) ?_
    refine lv_icmp_ge (tgt := 27) hx hb dX0_isHeldAhead_7 (by decide) (fun c_7 => ?_) (fun c_7 => ?_)
    · refine lv_iconst (v := 0) hx hb dX0_isHeldAhead_27 (by decide) ?_
      exact W.zret (v := 0) hx hb hr rfl (fun t ht hW => ⟨⟨0, (), rfl, bI_f (fun z => Int32.not_le.mpr z.2.1 c_7), by rw [ht]; exact hP, va_K.moved hW.alike hK, hD⟩, hS.F ht⟩) hS.2.2 dX0_isHeldAhead_28
    · refine lv_aload_n hx hb dX0_isHeldAhead_10 rfl (lv_at hl 0 rfl) ?_
      refine va_get (D := (dC, dI)) (ci := 0) (v := .long kb) (C := RX0) (T := TX0) (N := 6) hx hb hts hi_0 hown hK hP 0 rfl rfl 1 (by decide) (hts (.fieldLink RX0 13 "SegmentBox" "heldBits" "J") (by decide +kernel)) (fun _ h9 => h9) rfl dX0_isHeldAhead_11 ?_
      refine lv_iload_n hx hb dX0_isHeldAhead_14 rfl (lv_at hl 1 rfl) ?_
      refine lv_lushr (v := g_sh kb a) hx hb dX0_isHeldAhead_15 rfl ?_
      refine lv_lconst (v := 1) hx hb dX0_isHeldAhead_16 rfl ?_
      refine lv_land hx hb dX0_isHeldAhead_17 ?_
      refine lv_lconst (v := 0) hx hb dX0_isHeldAhead_18 rfl ?_
      refine W.lcmp hx hb dX0_isHeldAhead_19 ?_
      refine lv_if_eq (tgt := 27) hx hb dX0_isHeldAhead_20 (by decide) (fun c_20 => ?_) (fun c_20 => ?_)
      · refine lv_iconst (v := 0) hx hb dX0_isHeldAhead_27 (by decide) ?_
        exact W.zret (v := 0) hx hb hr rfl (fun t ht hW => ⟨⟨0, (), rfl, bI_f (fun z => z.2.2 (lcmp0 c_20)), by rw [ht]; exact hP, va_K.moved hW.alike hK, hD⟩, hS.F ht⟩) hS.2.2 dX0_isHeldAhead_28
      · refine lv_iconst (v := 1) hx hb dX0_isHeldAhead_23 (by decide) ?_
        refine lv_goto (tgt := 28) hx hb dX0_isHeldAhead_24 (by decide) ?_
        exact W.zret (v := 1) hx hb hr rfl (fun t ht hW => ⟨⟨1, (), rfl, bI_t ⟨c_1, Int32.not_le.mp c_7, lcmp0n c_20⟩, by rw [ht]; exact hP, va_K.moved hW.alike hK, hD⟩, hS.F ht⟩) hS.2.2 dX0_isHeldAhead_28
set_option maxHeartbeats 4000000 in
set_option maxRecDepth 100000 in
theorem c_isHeldFrom (l : Launch) (dC : Nat → ClassId) (dI : Nat → Nat → Nat) (h0 qb : Nat) (cB : ClassId) (kb : Int64) (nx un ek en : Int32) (fb : Nat → Int32) (a : Int32) (sz : Nat)  : Met l yX0_isHeldFrom wsX0_isHeldFrom ({ frames := 0, cells := 0, slots := 0, locals := 0 }) (va_Pc [.ref h0, .int a] (fun U => U.heap.size = sz ∧ va_P (dC, dI) vwCl [(h0, .inr (0, [.ref qb, .long kb, .int nx, .int un, .int ek, .int en])), (qb, .inl (cB, 64, .inl fb))] U.heap ∧ va_K (dC, dI) vwCl [(cB, .byte)] U ∧ va_D (fun _ => True) [(h0, .inr (0, [.ref qb, .long kb, .int nx, .int un, .int ek, .int en])), (qb, .inl (cB, 64, .inl fb))])) (va_Qi (fun (r : Int32) (u : Unit) => match u with | () => r = bI (c_from kb a)) (fun (u : Unit) (t : State) => match u with | () => va_P (dC, dI) vwCl [(h0, .inr (0, [.ref qb, .long kb, .int nx, .int un, .int ek, .int en])), (qb, .inl (cB, 64, .inl fb))] t.heap ∧ va_K (dC, dI) vwCl [(cB, .byte)] t ∧ va_D (va_A [(h0, .inr (0, [.ref qb, .long kb, .int nx, .int un, .int ek, .int en])), (qb, .inl (cB, 64, .inl fb))] sz) [(h0, .inr (0, [.ref qb, .long kb, .int nx, .int un, .int ek, .int en])), (qb, .inl (cB, 64, .inl fb))]) (va_A [(h0, .inr (0, [.ref qb, .long kb, .int nx, .int un, .int ek, .int en])), (qb, .inl (cB, 64, .inl fb))] sz)) 0 0 (va_A [(h0, .inr (0, [.ref qb, .long kb, .int nx, .int un, .int ek, .int en])), (qb, .inl (cB, 64, .inl fb))] sz) := by
  refine Met.ofW (cc := cX0_isHeldFrom) (maxL := 2) (ret := (some .boolean)) (by decide) rfl ?_
  intro p e s m args below meth c s₁ B hml hv
  obtain ⟨rfl, hsz, hP, hK, hD0⟩ := hv
  have hx := B.exec
  have hb := B.bytes
  have hr := B.returns
  have hts := atoms_spec (ws := wsX0_isHeldFrom) B.pre
  have hown : s.vm.findClass RX0 = some m.cls := findClass_of_methodNamed B.named
  have hlocks := B.notSynchronized
  subst hsz
  have hD := hD0.self (sz := s.heap.size)
  generalize hAe : va_A [(h0, .inr (0, [.ref qb, .long kb, .int nx, .int un, .int ek, .int en])), (qb, .inl (cB, 64, .inl fb))] s.heap.size = A at hD ⊢
  have hA : ∀ q : Nat, s.heap.size ≤ q → A q := fun q h => by rw [← hAe]; exact Or.inr h
  have hS : va_S A s.heap s.heap [] := va_S.rf
  have hP : va_P (dC, dI) vwCl [(h0, .inr (0, [.ref qb, .long kb, .int nx, .int un, .int ek, .int en])), (qb, .inl (cB, 64, .inl fb))] s.heap := hP
  have hl := lv_entry ([.ref h0, .int a]) (n := 2) (Nat.le_of_ble_eq_true rfl)
  rw [lg_entry_eq]
  generalize (lg_sl ([.ref h0, .int a]) ++ List.replicate (2 - (lg_sl ([.ref h0, .int a])).length) Slot.unset).toArray = ls at hl ⊢
  have hl : lv_has ls 2 [(0, .ref h0), (1, .int a)] := hl
  have hi_0 : ∀ w ∈ u_ws RX0 TX0 6, w ∈ wsX0_isHeldFrom := by decide +kernel
  refine lv_iload_n hx hb dX0_isHeldFrom_0 rfl (lv_at hl 1 rfl) ?_
  refine lv_if_lt (tgt := 25) hx hb dX0_isHeldFrom_1 (by decide) (fun c_1 => ?_) (fun c_1 => ?_)
  · refine lv_iconst (v := 0) hx hb dX0_isHeldFrom_25 (by decide) ?_
    exact W.zret (v := 0) hx hb hr rfl (fun t ht hW => ⟨⟨0, (), rfl, bI_f (fun z => z.1 c_1), by rw [ht]; exact hP, va_K.moved hW.alike hK, hD⟩, hS.F ht⟩) hS.2.2 dX0_isHeldFrom_26
  · refine lv_iload_n hx hb dX0_isHeldFrom_4 rfl (lv_at hl 1 rfl) ?_
    refine lv_bipush (v := 64) hx hb dX0_isHeldFrom_5 (by decide) ?_
    refine lv_icmp_ge (tgt := 25) hx hb dX0_isHeldFrom_7 (by decide) (fun c_7 => ?_) (fun c_7 => ?_)
    · refine lv_iconst (v := 0) hx hb dX0_isHeldFrom_25 (by decide) ?_
      exact W.zret (v := 0) hx hb hr rfl (fun t ht hW => ⟨⟨0, (), rfl, bI_f (fun z => Int32.not_le.mpr z.2.1 c_7), by rw [ht]; exact hP, va_K.moved hW.alike hK, hD⟩, hS.F ht⟩) hS.2.2 dX0_isHeldFrom_26
    · refine lv_aload_n hx hb dX0_isHeldFrom_10 rfl (lv_at hl 0 rfl) ?_
      refine va_get (D := (dC, dI)) (ci := 0) (v := .long kb) (C := RX0) (T := TX0) (N := 6) hx hb hts hi_0 hown hK hP 0 rfl rfl 1 (by decide) (hts (.fieldLink RX0 13 "SegmentBox" "heldBits" "J") (by decide +kernel)) (fun _ h9 => h9) rfl dX0_isHeldFrom_11 ?_
      refine lv_iload_n hx hb dX0_isHeldFrom_14 rfl (lv_at hl 1 rfl) ?_
      refine lv_lushr (v := g_sh kb a) hx hb dX0_isHeldFrom_15 rfl ?_
      refine lv_lconst (v := 0) hx hb dX0_isHeldFrom_16 rfl ?_
      refine W.lcmp hx hb dX0_isHeldFrom_17 ?_
      refine lv_if_eq (tgt := 25) hx hb dX0_isHeldFrom_18 (by decide) (fun c_18 => ?_) (fun c_18 => ?_)
      · refine lv_iconst (v := 0) hx hb dX0_isHeldFrom_25 (by decide) ?_
        exact W.zret (v := 0) hx hb hr rfl (fun t ht hW => ⟨⟨0, (), rfl, bI_f (fun z => z.2.2 (lcmp0 c_18)), by rw [ht]; exact hP, va_K.moved hW.alike hK, hD⟩, hS.F ht⟩) hS.2.2 dX0_isHeldFrom_26
      · refine lv_iconst (v := 1) hx hb dX0_isHeldFrom_21 (by decide) ?_
        refine lv_goto (tgt := 26) hx hb dX0_isHeldFrom_22 (by decide) ?_
        exact W.zret (v := 1) hx hb hr rfl (fun t ht hW => ⟨⟨1, (), rfl, bI_t ⟨c_1, Int32.not_le.mp c_7, lcmp0n c_18⟩, by rw [ht]; exact hP, va_K.moved hW.alike hK, hD⟩, hS.F ht⟩) hS.2.2 dX0_isHeldFrom_26
set_option maxHeartbeats 4000000 in
set_option maxRecDepth 100000 in
theorem c_isBeforeEnd (l : Launch) (dC : Nat → ClassId) (dI : Nat → Nat → Nat) (h0 qb : Nat) (cB : ClassId) (kb : Int64) (nx un ek en : Int32) (fb : Nat → Int32) (a : Int32) (sz : Nat)  : Met l yX0_isBeforeEnd wsX0_isBeforeEnd ({ frames := 0, cells := 0, slots := 0, locals := 0 }) (va_Pc [.ref h0, .int a] (fun U => U.heap.size = sz ∧ va_P (dC, dI) vwCl [(h0, .inr (0, [.ref qb, .long kb, .int nx, .int un, .int ek, .int en])), (qb, .inl (cB, 64, .inl fb))] U.heap ∧ va_K (dC, dI) vwCl [(cB, .byte)] U ∧ va_D (fun _ => True) [(h0, .inr (0, [.ref qb, .long kb, .int nx, .int un, .int ek, .int en])), (qb, .inl (cB, 64, .inl fb))])) (va_Qi (fun (r : Int32) (u : Unit) => match u with | () => r = bI (c_bef nx ek en a)) (fun (u : Unit) (t : State) => match u with | () => va_P (dC, dI) vwCl [(h0, .inr (0, [.ref qb, .long kb, .int nx, .int un, .int ek, .int en])), (qb, .inl (cB, 64, .inl fb))] t.heap ∧ va_K (dC, dI) vwCl [(cB, .byte)] t ∧ va_D (va_A [(h0, .inr (0, [.ref qb, .long kb, .int nx, .int un, .int ek, .int en])), (qb, .inl (cB, 64, .inl fb))] sz) [(h0, .inr (0, [.ref qb, .long kb, .int nx, .int un, .int ek, .int en])), (qb, .inl (cB, 64, .inl fb))]) (va_A [(h0, .inr (0, [.ref qb, .long kb, .int nx, .int un, .int ek, .int en])), (qb, .inl (cB, 64, .inl fb))] sz)) 0 0 (va_A [(h0, .inr (0, [.ref qb, .long kb, .int nx, .int un, .int ek, .int en])), (qb, .inl (cB, 64, .inl fb))] sz) := by
  refine Met.ofW (cc := cX0_isBeforeEnd) (maxL := 2) (ret := (some .boolean)) (by decide) rfl ?_
  intro p e s m args below meth c s₁ B hml hv
  obtain ⟨rfl, hsz, hP, hK, hD0⟩ := hv
  have hx := B.exec
  have hb := B.bytes
  have hr := B.returns
  have hts := atoms_spec (ws := wsX0_isBeforeEnd) B.pre
  have hown : s.vm.findClass RX0 = some m.cls := findClass_of_methodNamed B.named
  have hlocks := B.notSynchronized
  subst hsz
  have hD := hD0.self (sz := s.heap.size)
  generalize hAe : va_A [(h0, .inr (0, [.ref qb, .long kb, .int nx, .int un, .int ek, .int en])), (qb, .inl (cB, 64, .inl fb))] s.heap.size = A at hD ⊢
  have hA : ∀ q : Nat, s.heap.size ≤ q → A q := fun q h => by rw [← hAe]; exact Or.inr h
  have hS : va_S A s.heap s.heap [] := va_S.rf
  have hP : va_P (dC, dI) vwCl [(h0, .inr (0, [.ref qb, .long kb, .int nx, .int un, .int ek, .int en])), (qb, .inl (cB, 64, .inl fb))] s.heap := hP
  have hl := lv_entry ([.ref h0, .int a]) (n := 2) (Nat.le_of_ble_eq_true rfl)
  rw [lg_entry_eq]
  generalize (lg_sl ([.ref h0, .int a]) ++ List.replicate (2 - (lg_sl ([.ref h0, .int a])).length) Slot.unset).toArray = ls at hl ⊢
  have hl : lv_has ls 2 [(0, .ref h0), (1, .int a)] := hl
  have hi_0 : ∀ w ∈ u_ws RX0 TX0 6, w ∈ wsX0_isBeforeEnd := by decide +kernel
  refine lv_aload_n hx hb dX0_isBeforeEnd_0 rfl (lv_at hl 0 rfl) ?_
  refine va_get (D := (dC, dI)) (ci := 0) (v := .int ek) (C := RX0) (T := TX0) (N := 6) hx hb hts hi_0 hown hK hP 0 rfl rfl 4 (by decide) (hts (.fieldLink RX0 24 "SegmentBox" "endKnown" "Z") (by decide +kernel)) (fun _ h9 => h9) rfl dX0_isBeforeEnd_1 ?_
  refine lv_if_eq (tgt := 20) hx hb dX0_isBeforeEnd_4 (by decide) (fun c_4 => ?_) (fun c_4 => ?_)
  · refine lv_iconst (v := 1) hx hb dX0_isBeforeEnd_20 (by decide) ?_
    refine lv_goto (tgt := 25) hx hb dX0_isBeforeEnd_21 (by decide) ?_
    exact W.zret (v := 1) hx hb hr rfl (fun t ht hW => ⟨⟨1, (), rfl, bI_t (Or.inl c_4), by rw [ht]; exact hP, va_K.moved hW.alike hK, hD⟩, hS.F ht⟩) hS.2.2 dX0_isBeforeEnd_25
  · refine lv_iload_n hx hb dX0_isBeforeEnd_7 rfl (lv_at hl 1 rfl) ?_
    refine lv_aload_n hx hb dX0_isBeforeEnd_8 rfl (lv_at hl 0 rfl) ?_
    refine va_get (D := (dC, dI)) (ci := 0) (v := .int en) (C := RX0) (T := TX0) (N := 6) hx hb hts hi_0 hown hK hP 0 rfl rfl 5 (by decide) (hts (.fieldLink RX0 28 "SegmentBox" "endNumber" "I") (by decide +kernel)) (fun _ h9 => h9) rfl dX0_isBeforeEnd_9 ?_
    refine lv_aload_n hx hb dX0_isBeforeEnd_12 rfl (lv_at hl 0 rfl) ?_
    refine va_get (D := (dC, dI)) (ci := 0) (v := .int nx) (C := RX0) (T := TX0) (N := 6) hx hb hts hi_0 hown hK hP 0 rfl rfl 2 (by decide) (hts (.fieldLink RX0 17 "SegmentBox" "next" "I") (by decide +kernel)) (fun _ h9 => h9) rfl dX0_isBeforeEnd_13 ?_
    refine lv_isub hx hb dX0_isBeforeEnd_16 ?_
    refine lv_icmp_ge (tgt := 24) hx hb dX0_isBeforeEnd_17 (by decide) (fun c_17 => ?_) (fun c_17 => ?_)
    · refine lv_iconst (v := 0) hx hb dX0_isBeforeEnd_24 (by decide) ?_
      exact W.zret (v := 0) hx hb hr rfl (fun t ht hW => ⟨⟨0, (), rfl, bI_f (fun z => z.elim c_4 (fun z => Int32.not_le.mpr z c_17)), by rw [ht]; exact hP, va_K.moved hW.alike hK, hD⟩, hS.F ht⟩) hS.2.2 dX0_isBeforeEnd_25
    · refine lv_iconst (v := 1) hx hb dX0_isBeforeEnd_20 (by decide) ?_
      refine lv_goto (tgt := 25) hx hb dX0_isBeforeEnd_21 (by decide) ?_
      exact W.zret (v := 1) hx hb hr rfl (fun t ht hW => ⟨⟨1, (), rfl, bI_t (Or.inr (Int32.not_le.mp c_17)), by rw [ht]; exact hP, va_K.moved hW.alike hK, hD⟩, hS.F ht⟩) hS.2.2 dX0_isBeforeEnd_25
set_option maxHeartbeats 4000000 in
set_option maxRecDepth 100000 in
theorem c_blockStarts (l : Launch) (dC : Nat → ClassId) (dI : Nat → Nat → Nat) (h0 qb : Nat) (cB : ClassId) (kb : Int64) (nx un ek en : Int32) (fb : Nat → Int32) (sz : Nat)  : Met l yX0_blockStarts wsX0_blockStarts ({ frames := 0, cells := 0, slots := 0, locals := 0 }) (va_Pc [.ref h0] (fun U => U.heap.size = sz ∧ va_P (dC, dI) vwCl [(h0, .inr (0, [.ref qb, .long kb, .int nx, .int un, .int ek, .int en])), (qb, .inl (cB, 64, .inl fb))] U.heap ∧ va_K (dC, dI) vwCl [(cB, .byte)] U ∧ va_D (fun _ => True) [(h0, .inr (0, [.ref qb, .long kb, .int nx, .int un, .int ek, .int en])), (qb, .inl (cB, 64, .inl fb))])) (va_Ql (fun (r : Int64) (u : Unit) => match u with | () => r = c_st kb) (fun (u : Unit) (t : State) => match u with | () => va_P (dC, dI) vwCl [(h0, .inr (0, [.ref qb, .long kb, .int nx, .int un, .int ek, .int en])), (qb, .inl (cB, 64, .inl fb))] t.heap ∧ va_K (dC, dI) vwCl [(cB, .byte)] t ∧ va_D (va_A [(h0, .inr (0, [.ref qb, .long kb, .int nx, .int un, .int ek, .int en])), (qb, .inl (cB, 64, .inl fb))] sz) [(h0, .inr (0, [.ref qb, .long kb, .int nx, .int un, .int ek, .int en])), (qb, .inl (cB, 64, .inl fb))]) (va_A [(h0, .inr (0, [.ref qb, .long kb, .int nx, .int un, .int ek, .int en])), (qb, .inl (cB, 64, .inl fb))] sz)) 0 0 (va_A [(h0, .inr (0, [.ref qb, .long kb, .int nx, .int un, .int ek, .int en])), (qb, .inl (cB, 64, .inl fb))] sz) := by
  refine Met.ofW (cc := cX0_blockStarts) (maxL := 1) (ret := (some .long)) (by decide) rfl ?_
  intro p e s m args below meth c s₁ B hml hv
  obtain ⟨rfl, hsz, hP, hK, hD0⟩ := hv
  have hx := B.exec
  have hb := B.bytes
  have hr := B.returns
  have hts := atoms_spec (ws := wsX0_blockStarts) B.pre
  have hown : s.vm.findClass RX0 = some m.cls := findClass_of_methodNamed B.named
  have hlocks := B.notSynchronized
  subst hsz
  have hD := hD0.self (sz := s.heap.size)
  generalize hAe : va_A [(h0, .inr (0, [.ref qb, .long kb, .int nx, .int un, .int ek, .int en])), (qb, .inl (cB, 64, .inl fb))] s.heap.size = A at hD ⊢
  have hA : ∀ q : Nat, s.heap.size ≤ q → A q := fun q h => by rw [← hAe]; exact Or.inr h
  have hS : va_S A s.heap s.heap [] := va_S.rf
  have hP : va_P (dC, dI) vwCl [(h0, .inr (0, [.ref qb, .long kb, .int nx, .int un, .int ek, .int en])), (qb, .inl (cB, 64, .inl fb))] s.heap := hP
  have hl := lv_entry ([.ref h0]) (n := 1) (Nat.le_of_ble_eq_true rfl)
  rw [lg_entry_eq]
  generalize (lg_sl ([.ref h0]) ++ List.replicate (1 - (lg_sl ([.ref h0])).length) Slot.unset).toArray = ls at hl ⊢
  have hl : lv_has ls 1 [(0, .ref h0)] := hl
  have hi_0 : ∀ w ∈ u_ws RX0 TX0 6, w ∈ wsX0_blockStarts := by decide +kernel
  refine lv_aload_n hx hb dX0_blockStarts_0 rfl (lv_at hl 0 rfl) ?_
  refine va_get (D := (dC, dI)) (ci := 0) (v := .long kb) (C := RX0) (T := TX0) (N := 6) hx hb hts hi_0 hown hK hP 0 rfl rfl 1 (by decide) (hts (.fieldLink RX0 13 "SegmentBox" "heldBits" "J") (by decide +kernel)) (fun _ h9 => h9) rfl dX0_blockStarts_1 ?_
  refine lv_aload_n hx hb dX0_blockStarts_4 rfl (lv_at hl 0 rfl) ?_
  refine va_get (D := (dC, dI)) (ci := 0) (v := .long kb) (C := RX0) (T := TX0) (N := 6) hx hb hts hi_0 hown hK hP 0 rfl rfl 1 (by decide) (hts (.fieldLink RX0 13 "SegmentBox" "heldBits" "J") (by decide +kernel)) (fun _ h9 => h9) rfl dX0_blockStarts_5 ?_
  refine lv_iconst (v := 1) hx hb dX0_blockStarts_8 (by decide) ?_
  refine lv_lshl (v := kb <<< ((1 : Int32).toInt64 &&& 63)) hx hb dX0_blockStarts_9 rfl ?_
  refine W.ldc2 (v := (-1)) hx hb hown (hts (.constantLong RX0 78 (-1)) (by decide +kernel)) rfl dX0_blockStarts_10 ?_
  refine W.eq (g2 := F0 m 13 ls [.long (-1), .long (kb <<< ((1 : Int32).toInt64 &&& 63)), .long kb]) rfl ?_
  refine lv_lxor hx hb dX0_blockStarts_13 ?_
  refine lv_land hx hb dX0_blockStarts_14 ?_
  exact W.lret (v := kb &&& ((kb <<< ((1 : Int32).toInt64 &&& 63)) ^^^ (-1))) hx hb hr (fun t ht hW => ⟨⟨kb &&& ((kb <<< ((1 : Int32).toInt64 &&& 63)) ^^^ (-1)), (), rfl, rfl, by rw [ht]; exact hP, va_K.moved hW.alike hK, hD⟩, hS.F ht⟩) hS.2.2 dX0_blockStarts_15
set_option maxHeartbeats 4000000 in
set_option maxRecDepth 100000 in
theorem c_bitCount (l : Launch) (dC : Nat → ClassId) (dI : Nat → Nat → Nat) (x : Int64) (sz : Nat)  : Met l yJ13_bitCount_95d88 wsJ13_bitCount_95d88 ({ frames := 0, cells := 0, slots := 0, locals := 0 }) (va_Pc [.long x] (fun U => U.heap.size = sz ∧ va_P (dC, dI) vwCl [] U.heap ∧ va_K (dC, dI) vwCl [] U ∧ va_D (fun _ => True) [])) (va_Qi (fun (r : Int32) (u : Unit) => match u with | () => r = g_bc x) (fun (u : Unit) (t : State) => match u with | () => va_P (dC, dI) vwCl [] t.heap ∧ va_K (dC, dI) vwCl [] t ∧ va_D (va_A [] sz) []) (va_A [] sz)) 0 0 (va_A [] sz) := by
  refine Met.ofW (cc := cJ13_bitCount_95d88) (maxL := 2) (ret := (some .int)) (by decide) rfl ?_
  intro p e s m args below meth c s₁ B hml hv
  obtain ⟨rfl, hsz, hP, hK, hD0⟩ := hv
  have hx := B.exec
  have hb := B.bytes
  have hr := B.returns
  have hts := atoms_spec (ws := wsJ13_bitCount_95d88) B.pre
  have hown : s.vm.findClass RJ13 = some m.cls := findClass_of_methodNamed B.named
  have hlocks := B.notSynchronized
  subst hsz
  have hD := hD0.self (sz := s.heap.size)
  generalize hAe : va_A [] s.heap.size = A at hD ⊢
  have hA : ∀ q : Nat, s.heap.size ≤ q → A q := fun q h => by rw [← hAe]; exact Or.inr h
  have hS : va_S A s.heap s.heap [] := va_S.rf
  have hP : va_P (dC, dI) vwCl [] s.heap := hP
  have hl := lv_entry ([.long x]) (n := 2) (Nat.le_of_ble_eq_true rfl)
  rw [lg_entry_eq]
  generalize (lg_sl ([.long x]) ++ List.replicate (2 - (lg_sl ([.long x])).length) Slot.unset).toArray = ls at hl ⊢
  have hl : lv_has ls 2 [(0, .long x)] := hl
  refine lv_lload_n hx hb dJ13_bitCount_95d88_0 rfl (lv_at hl 0 rfl) ?_
  refine lv_lload_n hx hb dJ13_bitCount_95d88_1 rfl (lv_at hl 0 rfl) ?_
  refine lv_iconst (v := 1) hx hb dJ13_bitCount_95d88_2 (by decide) ?_
  refine lv_lushr (v := g_sh x 1) hx hb dJ13_bitCount_95d88_3 rfl ?_
  refine W.ldc2 (v := 6148914691236517205) hx hb hown (hts (.constantLong RJ13 314 (6148914691236517205)) (by decide +kernel)) rfl dJ13_bitCount_95d88_4 ?_
  refine W.eq (g2 := F0 m 7 ls [.long 6148914691236517205, .long (g_sh x 1), .long x]) rfl ?_
  refine lv_land hx hb dJ13_bitCount_95d88_7 ?_
  refine lv_lsub hx hb dJ13_bitCount_95d88_8 ?_
  refine lv_lstore_n (lv' := [(0, .long (x - ((g_sh x 1) &&& 6148914691236517205)))]) hx hb dJ13_bitCount_95d88_9 rfl hl (by decide) rfl (fun ls hl => ?_)
  refine lv_lload_n hx hb dJ13_bitCount_95d88_10 rfl (lv_at hl 0 rfl) ?_
  refine W.ldc2 (v := 3689348814741910323) hx hb hown (hts (.constantLong RJ13 316 (3689348814741910323)) (by decide +kernel)) rfl dJ13_bitCount_95d88_11 ?_
  refine W.eq (g2 := F0 m 14 ls [.long 3689348814741910323, .long (x - ((g_sh x 1) &&& 6148914691236517205))]) rfl ?_
  refine lv_land hx hb dJ13_bitCount_95d88_14 ?_
  refine lv_lload_n hx hb dJ13_bitCount_95d88_15 rfl (lv_at hl 0 rfl) ?_
  refine lv_iconst (v := 2) hx hb dJ13_bitCount_95d88_16 (by decide) ?_
  refine lv_lushr (v := g_sh (x - ((g_sh x 1) &&& 6148914691236517205)) 2) hx hb dJ13_bitCount_95d88_17 rfl ?_
  refine W.ldc2 (v := 3689348814741910323) hx hb hown (hts (.constantLong RJ13 316 (3689348814741910323)) (by decide +kernel)) rfl dJ13_bitCount_95d88_18 ?_
  refine W.eq (g2 := F0 m 21 ls [.long 3689348814741910323, .long (g_sh (x - ((g_sh x 1) &&& 6148914691236517205)) 2), .long ((x - ((g_sh x 1) &&& 6148914691236517205)) &&& 3689348814741910323)]) rfl ?_
  refine lv_land hx hb dJ13_bitCount_95d88_21 ?_
  refine lv_ladd hx hb dJ13_bitCount_95d88_22 ?_
  refine lv_lstore_n (lv' := [(0, .long (((x - ((g_sh x 1) &&& 6148914691236517205)) &&& 3689348814741910323) + ((g_sh (x - ((g_sh x 1) &&& 6148914691236517205)) 2) &&& 3689348814741910323)))]) hx hb dJ13_bitCount_95d88_23 rfl hl (by decide) rfl (fun ls hl => ?_)
  refine lv_lload_n hx hb dJ13_bitCount_95d88_24 rfl (lv_at hl 0 rfl) ?_
  refine lv_lload_n hx hb dJ13_bitCount_95d88_25 rfl (lv_at hl 0 rfl) ?_
  refine lv_iconst (v := 4) hx hb dJ13_bitCount_95d88_26 (by decide) ?_
  refine lv_lushr (v := g_sh (((x - ((g_sh x 1) &&& 6148914691236517205)) &&& 3689348814741910323) + ((g_sh (x - ((g_sh x 1) &&& 6148914691236517205)) 2) &&& 3689348814741910323)) 4) hx hb dJ13_bitCount_95d88_27 rfl ?_
  refine lv_ladd hx hb dJ13_bitCount_95d88_28 ?_
  refine W.ldc2 (v := 1085102592571150095) hx hb hown (hts (.constantLong RJ13 318 (1085102592571150095)) (by decide +kernel)) rfl dJ13_bitCount_95d88_29 ?_
  refine W.eq (g2 := F0 m 32 ls [.long 1085102592571150095, .long ((((x - ((g_sh x 1) &&& 6148914691236517205)) &&& 3689348814741910323) + ((g_sh (x - ((g_sh x 1) &&& 6148914691236517205)) 2) &&& 3689348814741910323)) + (g_sh (((x - ((g_sh x 1) &&& 6148914691236517205)) &&& 3689348814741910323) + ((g_sh (x - ((g_sh x 1) &&& 6148914691236517205)) 2) &&& 3689348814741910323)) 4))]) rfl ?_
  refine lv_land hx hb dJ13_bitCount_95d88_32 ?_
  refine lv_lstore_n (lv' := [(0, .long (((((x - ((g_sh x 1) &&& 6148914691236517205)) &&& 3689348814741910323) + ((g_sh (x - ((g_sh x 1) &&& 6148914691236517205)) 2) &&& 3689348814741910323)) + (g_sh (((x - ((g_sh x 1) &&& 6148914691236517205)) &&& 3689348814741910323) + ((g_sh (x - ((g_sh x 1) &&& 6148914691236517205)) 2) &&& 3689348814741910323)) 4)) &&& 1085102592571150095))]) hx hb dJ13_bitCount_95d88_33 rfl hl (by decide) rfl (fun ls hl => ?_)
  refine lv_lload_n hx hb dJ13_bitCount_95d88_34 rfl (lv_at hl 0 rfl) ?_
  refine lv_lload_n hx hb dJ13_bitCount_95d88_35 rfl (lv_at hl 0 rfl) ?_
  refine lv_bipush (v := 8) hx hb dJ13_bitCount_95d88_36 (by decide) ?_
  refine lv_lushr (v := g_sh (((((x - ((g_sh x 1) &&& 6148914691236517205)) &&& 3689348814741910323) + ((g_sh (x - ((g_sh x 1) &&& 6148914691236517205)) 2) &&& 3689348814741910323)) + (g_sh (((x - ((g_sh x 1) &&& 6148914691236517205)) &&& 3689348814741910323) + ((g_sh (x - ((g_sh x 1) &&& 6148914691236517205)) 2) &&& 3689348814741910323)) 4)) &&& 1085102592571150095) 8) hx hb dJ13_bitCount_95d88_38 rfl ?_
  refine lv_ladd hx hb dJ13_bitCount_95d88_39 ?_
  refine lv_lstore_n (lv' := [(0, .long ((((((x - ((g_sh x 1) &&& 6148914691236517205)) &&& 3689348814741910323) + ((g_sh (x - ((g_sh x 1) &&& 6148914691236517205)) 2) &&& 3689348814741910323)) + (g_sh (((x - ((g_sh x 1) &&& 6148914691236517205)) &&& 3689348814741910323) + ((g_sh (x - ((g_sh x 1) &&& 6148914691236517205)) 2) &&& 3689348814741910323)) 4)) &&& 1085102592571150095) + (g_sh (((((x - ((g_sh x 1) &&& 6148914691236517205)) &&& 3689348814741910323) + ((g_sh (x - ((g_sh x 1) &&& 6148914691236517205)) 2) &&& 3689348814741910323)) + (g_sh (((x - ((g_sh x 1) &&& 6148914691236517205)) &&& 3689348814741910323) + ((g_sh (x - ((g_sh x 1) &&& 6148914691236517205)) 2) &&& 3689348814741910323)) 4)) &&& 1085102592571150095) 8)))]) hx hb dJ13_bitCount_95d88_40 rfl hl (by decide) rfl (fun ls hl => ?_)
  refine lv_lload_n hx hb dJ13_bitCount_95d88_41 rfl (lv_at hl 0 rfl) ?_
  refine lv_lload_n hx hb dJ13_bitCount_95d88_42 rfl (lv_at hl 0 rfl) ?_
  refine lv_bipush (v := 16) hx hb dJ13_bitCount_95d88_43 (by decide) ?_
  refine lv_lushr (v := g_sh ((((((x - ((g_sh x 1) &&& 6148914691236517205)) &&& 3689348814741910323) + ((g_sh (x - ((g_sh x 1) &&& 6148914691236517205)) 2) &&& 3689348814741910323)) + (g_sh (((x - ((g_sh x 1) &&& 6148914691236517205)) &&& 3689348814741910323) + ((g_sh (x - ((g_sh x 1) &&& 6148914691236517205)) 2) &&& 3689348814741910323)) 4)) &&& 1085102592571150095) + (g_sh (((((x - ((g_sh x 1) &&& 6148914691236517205)) &&& 3689348814741910323) + ((g_sh (x - ((g_sh x 1) &&& 6148914691236517205)) 2) &&& 3689348814741910323)) + (g_sh (((x - ((g_sh x 1) &&& 6148914691236517205)) &&& 3689348814741910323) + ((g_sh (x - ((g_sh x 1) &&& 6148914691236517205)) 2) &&& 3689348814741910323)) 4)) &&& 1085102592571150095) 8)) 16) hx hb dJ13_bitCount_95d88_45 rfl ?_
  refine lv_ladd hx hb dJ13_bitCount_95d88_46 ?_
  refine lv_lstore_n (lv' := [(0, .long (((((((x - ((g_sh x 1) &&& 6148914691236517205)) &&& 3689348814741910323) + ((g_sh (x - ((g_sh x 1) &&& 6148914691236517205)) 2) &&& 3689348814741910323)) + (g_sh (((x - ((g_sh x 1) &&& 6148914691236517205)) &&& 3689348814741910323) + ((g_sh (x - ((g_sh x 1) &&& 6148914691236517205)) 2) &&& 3689348814741910323)) 4)) &&& 1085102592571150095) + (g_sh (((((x - ((g_sh x 1) &&& 6148914691236517205)) &&& 3689348814741910323) + ((g_sh (x - ((g_sh x 1) &&& 6148914691236517205)) 2) &&& 3689348814741910323)) + (g_sh (((x - ((g_sh x 1) &&& 6148914691236517205)) &&& 3689348814741910323) + ((g_sh (x - ((g_sh x 1) &&& 6148914691236517205)) 2) &&& 3689348814741910323)) 4)) &&& 1085102592571150095) 8)) + (g_sh ((((((x - ((g_sh x 1) &&& 6148914691236517205)) &&& 3689348814741910323) + ((g_sh (x - ((g_sh x 1) &&& 6148914691236517205)) 2) &&& 3689348814741910323)) + (g_sh (((x - ((g_sh x 1) &&& 6148914691236517205)) &&& 3689348814741910323) + ((g_sh (x - ((g_sh x 1) &&& 6148914691236517205)) 2) &&& 3689348814741910323)) 4)) &&& 1085102592571150095) + (g_sh (((((x - ((g_sh x 1) &&& 6148914691236517205)) &&& 3689348814741910323) + ((g_sh (x - ((g_sh x 1) &&& 6148914691236517205)) 2) &&& 3689348814741910323)) + (g_sh (((x - ((g_sh x 1) &&& 6148914691236517205)) &&& 3689348814741910323) + ((g_sh (x - ((g_sh x 1) &&& 6148914691236517205)) 2) &&& 3689348814741910323)) 4)) &&& 1085102592571150095) 8)) 16)))]) hx hb dJ13_bitCount_95d88_47 rfl hl (by decide) rfl (fun ls hl => ?_)
  refine lv_lload_n hx hb dJ13_bitCount_95d88_48 rfl (lv_at hl 0 rfl) ?_
  refine lv_lload_n hx hb dJ13_bitCount_95d88_49 rfl (lv_at hl 0 rfl) ?_
  refine lv_bipush (v := 32) hx hb dJ13_bitCount_95d88_50 (by decide) ?_
  refine lv_lushr (v := g_sh (((((((x - ((g_sh x 1) &&& 6148914691236517205)) &&& 3689348814741910323) + ((g_sh (x - ((g_sh x 1) &&& 6148914691236517205)) 2) &&& 3689348814741910323)) + (g_sh (((x - ((g_sh x 1) &&& 6148914691236517205)) &&& 3689348814741910323) + ((g_sh (x - ((g_sh x 1) &&& 6148914691236517205)) 2) &&& 3689348814741910323)) 4)) &&& 1085102592571150095) + (g_sh (((((x - ((g_sh x 1) &&& 6148914691236517205)) &&& 3689348814741910323) + ((g_sh (x - ((g_sh x 1) &&& 6148914691236517205)) 2) &&& 3689348814741910323)) + (g_sh (((x - ((g_sh x 1) &&& 6148914691236517205)) &&& 3689348814741910323) + ((g_sh (x - ((g_sh x 1) &&& 6148914691236517205)) 2) &&& 3689348814741910323)) 4)) &&& 1085102592571150095) 8)) + (g_sh ((((((x - ((g_sh x 1) &&& 6148914691236517205)) &&& 3689348814741910323) + ((g_sh (x - ((g_sh x 1) &&& 6148914691236517205)) 2) &&& 3689348814741910323)) + (g_sh (((x - ((g_sh x 1) &&& 6148914691236517205)) &&& 3689348814741910323) + ((g_sh (x - ((g_sh x 1) &&& 6148914691236517205)) 2) &&& 3689348814741910323)) 4)) &&& 1085102592571150095) + (g_sh (((((x - ((g_sh x 1) &&& 6148914691236517205)) &&& 3689348814741910323) + ((g_sh (x - ((g_sh x 1) &&& 6148914691236517205)) 2) &&& 3689348814741910323)) + (g_sh (((x - ((g_sh x 1) &&& 6148914691236517205)) &&& 3689348814741910323) + ((g_sh (x - ((g_sh x 1) &&& 6148914691236517205)) 2) &&& 3689348814741910323)) 4)) &&& 1085102592571150095) 8)) 16)) 32) hx hb dJ13_bitCount_95d88_52 rfl ?_
  refine lv_ladd hx hb dJ13_bitCount_95d88_53 ?_
  refine lv_lstore_n (lv' := [(0, .long ((((((((x - ((g_sh x 1) &&& 6148914691236517205)) &&& 3689348814741910323) + ((g_sh (x - ((g_sh x 1) &&& 6148914691236517205)) 2) &&& 3689348814741910323)) + (g_sh (((x - ((g_sh x 1) &&& 6148914691236517205)) &&& 3689348814741910323) + ((g_sh (x - ((g_sh x 1) &&& 6148914691236517205)) 2) &&& 3689348814741910323)) 4)) &&& 1085102592571150095) + (g_sh (((((x - ((g_sh x 1) &&& 6148914691236517205)) &&& 3689348814741910323) + ((g_sh (x - ((g_sh x 1) &&& 6148914691236517205)) 2) &&& 3689348814741910323)) + (g_sh (((x - ((g_sh x 1) &&& 6148914691236517205)) &&& 3689348814741910323) + ((g_sh (x - ((g_sh x 1) &&& 6148914691236517205)) 2) &&& 3689348814741910323)) 4)) &&& 1085102592571150095) 8)) + (g_sh ((((((x - ((g_sh x 1) &&& 6148914691236517205)) &&& 3689348814741910323) + ((g_sh (x - ((g_sh x 1) &&& 6148914691236517205)) 2) &&& 3689348814741910323)) + (g_sh (((x - ((g_sh x 1) &&& 6148914691236517205)) &&& 3689348814741910323) + ((g_sh (x - ((g_sh x 1) &&& 6148914691236517205)) 2) &&& 3689348814741910323)) 4)) &&& 1085102592571150095) + (g_sh (((((x - ((g_sh x 1) &&& 6148914691236517205)) &&& 3689348814741910323) + ((g_sh (x - ((g_sh x 1) &&& 6148914691236517205)) 2) &&& 3689348814741910323)) + (g_sh (((x - ((g_sh x 1) &&& 6148914691236517205)) &&& 3689348814741910323) + ((g_sh (x - ((g_sh x 1) &&& 6148914691236517205)) 2) &&& 3689348814741910323)) 4)) &&& 1085102592571150095) 8)) 16)) + (g_sh (((((((x - ((g_sh x 1) &&& 6148914691236517205)) &&& 3689348814741910323) + ((g_sh (x - ((g_sh x 1) &&& 6148914691236517205)) 2) &&& 3689348814741910323)) + (g_sh (((x - ((g_sh x 1) &&& 6148914691236517205)) &&& 3689348814741910323) + ((g_sh (x - ((g_sh x 1) &&& 6148914691236517205)) 2) &&& 3689348814741910323)) 4)) &&& 1085102592571150095) + (g_sh (((((x - ((g_sh x 1) &&& 6148914691236517205)) &&& 3689348814741910323) + ((g_sh (x - ((g_sh x 1) &&& 6148914691236517205)) 2) &&& 3689348814741910323)) + (g_sh (((x - ((g_sh x 1) &&& 6148914691236517205)) &&& 3689348814741910323) + ((g_sh (x - ((g_sh x 1) &&& 6148914691236517205)) 2) &&& 3689348814741910323)) 4)) &&& 1085102592571150095) 8)) + (g_sh ((((((x - ((g_sh x 1) &&& 6148914691236517205)) &&& 3689348814741910323) + ((g_sh (x - ((g_sh x 1) &&& 6148914691236517205)) 2) &&& 3689348814741910323)) + (g_sh (((x - ((g_sh x 1) &&& 6148914691236517205)) &&& 3689348814741910323) + ((g_sh (x - ((g_sh x 1) &&& 6148914691236517205)) 2) &&& 3689348814741910323)) 4)) &&& 1085102592571150095) + (g_sh (((((x - ((g_sh x 1) &&& 6148914691236517205)) &&& 3689348814741910323) + ((g_sh (x - ((g_sh x 1) &&& 6148914691236517205)) 2) &&& 3689348814741910323)) + (g_sh (((x - ((g_sh x 1) &&& 6148914691236517205)) &&& 3689348814741910323) + ((g_sh (x - ((g_sh x 1) &&& 6148914691236517205)) 2) &&& 3689348814741910323)) 4)) &&& 1085102592571150095) 8)) 16)) 32)))]) hx hb dJ13_bitCount_95d88_54 rfl hl (by decide) rfl (fun ls hl => ?_)
  refine lv_lload_n hx hb dJ13_bitCount_95d88_55 rfl (lv_at hl 0 rfl) ?_
  refine lv_l2i (v := ((((((((x - ((g_sh x 1) &&& 6148914691236517205)) &&& 3689348814741910323) + ((g_sh (x - ((g_sh x 1) &&& 6148914691236517205)) 2) &&& 3689348814741910323)) + (g_sh (((x - ((g_sh x 1) &&& 6148914691236517205)) &&& 3689348814741910323) + ((g_sh (x - ((g_sh x 1) &&& 6148914691236517205)) 2) &&& 3689348814741910323)) 4)) &&& 1085102592571150095) + (g_sh (((((x - ((g_sh x 1) &&& 6148914691236517205)) &&& 3689348814741910323) + ((g_sh (x - ((g_sh x 1) &&& 6148914691236517205)) 2) &&& 3689348814741910323)) + (g_sh (((x - ((g_sh x 1) &&& 6148914691236517205)) &&& 3689348814741910323) + ((g_sh (x - ((g_sh x 1) &&& 6148914691236517205)) 2) &&& 3689348814741910323)) 4)) &&& 1085102592571150095) 8)) + (g_sh ((((((x - ((g_sh x 1) &&& 6148914691236517205)) &&& 3689348814741910323) + ((g_sh (x - ((g_sh x 1) &&& 6148914691236517205)) 2) &&& 3689348814741910323)) + (g_sh (((x - ((g_sh x 1) &&& 6148914691236517205)) &&& 3689348814741910323) + ((g_sh (x - ((g_sh x 1) &&& 6148914691236517205)) 2) &&& 3689348814741910323)) 4)) &&& 1085102592571150095) + (g_sh (((((x - ((g_sh x 1) &&& 6148914691236517205)) &&& 3689348814741910323) + ((g_sh (x - ((g_sh x 1) &&& 6148914691236517205)) 2) &&& 3689348814741910323)) + (g_sh (((x - ((g_sh x 1) &&& 6148914691236517205)) &&& 3689348814741910323) + ((g_sh (x - ((g_sh x 1) &&& 6148914691236517205)) 2) &&& 3689348814741910323)) 4)) &&& 1085102592571150095) 8)) 16)) + (g_sh (((((((x - ((g_sh x 1) &&& 6148914691236517205)) &&& 3689348814741910323) + ((g_sh (x - ((g_sh x 1) &&& 6148914691236517205)) 2) &&& 3689348814741910323)) + (g_sh (((x - ((g_sh x 1) &&& 6148914691236517205)) &&& 3689348814741910323) + ((g_sh (x - ((g_sh x 1) &&& 6148914691236517205)) 2) &&& 3689348814741910323)) 4)) &&& 1085102592571150095) + (g_sh (((((x - ((g_sh x 1) &&& 6148914691236517205)) &&& 3689348814741910323) + ((g_sh (x - ((g_sh x 1) &&& 6148914691236517205)) 2) &&& 3689348814741910323)) + (g_sh (((x - ((g_sh x 1) &&& 6148914691236517205)) &&& 3689348814741910323) + ((g_sh (x - ((g_sh x 1) &&& 6148914691236517205)) 2) &&& 3689348814741910323)) 4)) &&& 1085102592571150095) 8)) + (g_sh ((((((x - ((g_sh x 1) &&& 6148914691236517205)) &&& 3689348814741910323) + ((g_sh (x - ((g_sh x 1) &&& 6148914691236517205)) 2) &&& 3689348814741910323)) + (g_sh (((x - ((g_sh x 1) &&& 6148914691236517205)) &&& 3689348814741910323) + ((g_sh (x - ((g_sh x 1) &&& 6148914691236517205)) 2) &&& 3689348814741910323)) 4)) &&& 1085102592571150095) + (g_sh (((((x - ((g_sh x 1) &&& 6148914691236517205)) &&& 3689348814741910323) + ((g_sh (x - ((g_sh x 1) &&& 6148914691236517205)) 2) &&& 3689348814741910323)) + (g_sh (((x - ((g_sh x 1) &&& 6148914691236517205)) &&& 3689348814741910323) + ((g_sh (x - ((g_sh x 1) &&& 6148914691236517205)) 2) &&& 3689348814741910323)) 4)) &&& 1085102592571150095) 8)) 16)) 32)).toInt32) hx hb dJ13_bitCount_95d88_56 rfl ?_
  refine lv_bipush (v := 127) hx hb dJ13_bitCount_95d88_57 (by decide) ?_
  refine lv_iand hx hb dJ13_bitCount_95d88_59 ?_
  exact W.iret (v := (((((((((x - ((g_sh x 1) &&& 6148914691236517205)) &&& 3689348814741910323) + ((g_sh (x - ((g_sh x 1) &&& 6148914691236517205)) 2) &&& 3689348814741910323)) + (g_sh (((x - ((g_sh x 1) &&& 6148914691236517205)) &&& 3689348814741910323) + ((g_sh (x - ((g_sh x 1) &&& 6148914691236517205)) 2) &&& 3689348814741910323)) 4)) &&& 1085102592571150095) + (g_sh (((((x - ((g_sh x 1) &&& 6148914691236517205)) &&& 3689348814741910323) + ((g_sh (x - ((g_sh x 1) &&& 6148914691236517205)) 2) &&& 3689348814741910323)) + (g_sh (((x - ((g_sh x 1) &&& 6148914691236517205)) &&& 3689348814741910323) + ((g_sh (x - ((g_sh x 1) &&& 6148914691236517205)) 2) &&& 3689348814741910323)) 4)) &&& 1085102592571150095) 8)) + (g_sh ((((((x - ((g_sh x 1) &&& 6148914691236517205)) &&& 3689348814741910323) + ((g_sh (x - ((g_sh x 1) &&& 6148914691236517205)) 2) &&& 3689348814741910323)) + (g_sh (((x - ((g_sh x 1) &&& 6148914691236517205)) &&& 3689348814741910323) + ((g_sh (x - ((g_sh x 1) &&& 6148914691236517205)) 2) &&& 3689348814741910323)) 4)) &&& 1085102592571150095) + (g_sh (((((x - ((g_sh x 1) &&& 6148914691236517205)) &&& 3689348814741910323) + ((g_sh (x - ((g_sh x 1) &&& 6148914691236517205)) 2) &&& 3689348814741910323)) + (g_sh (((x - ((g_sh x 1) &&& 6148914691236517205)) &&& 3689348814741910323) + ((g_sh (x - ((g_sh x 1) &&& 6148914691236517205)) 2) &&& 3689348814741910323)) 4)) &&& 1085102592571150095) 8)) 16)) + (g_sh (((((((x - ((g_sh x 1) &&& 6148914691236517205)) &&& 3689348814741910323) + ((g_sh (x - ((g_sh x 1) &&& 6148914691236517205)) 2) &&& 3689348814741910323)) + (g_sh (((x - ((g_sh x 1) &&& 6148914691236517205)) &&& 3689348814741910323) + ((g_sh (x - ((g_sh x 1) &&& 6148914691236517205)) 2) &&& 3689348814741910323)) 4)) &&& 1085102592571150095) + (g_sh (((((x - ((g_sh x 1) &&& 6148914691236517205)) &&& 3689348814741910323) + ((g_sh (x - ((g_sh x 1) &&& 6148914691236517205)) 2) &&& 3689348814741910323)) + (g_sh (((x - ((g_sh x 1) &&& 6148914691236517205)) &&& 3689348814741910323) + ((g_sh (x - ((g_sh x 1) &&& 6148914691236517205)) 2) &&& 3689348814741910323)) 4)) &&& 1085102592571150095) 8)) + (g_sh ((((((x - ((g_sh x 1) &&& 6148914691236517205)) &&& 3689348814741910323) + ((g_sh (x - ((g_sh x 1) &&& 6148914691236517205)) 2) &&& 3689348814741910323)) + (g_sh (((x - ((g_sh x 1) &&& 6148914691236517205)) &&& 3689348814741910323) + ((g_sh (x - ((g_sh x 1) &&& 6148914691236517205)) 2) &&& 3689348814741910323)) 4)) &&& 1085102592571150095) + (g_sh (((((x - ((g_sh x 1) &&& 6148914691236517205)) &&& 3689348814741910323) + ((g_sh (x - ((g_sh x 1) &&& 6148914691236517205)) 2) &&& 3689348814741910323)) + (g_sh (((x - ((g_sh x 1) &&& 6148914691236517205)) &&& 3689348814741910323) + ((g_sh (x - ((g_sh x 1) &&& 6148914691236517205)) 2) &&& 3689348814741910323)) 4)) &&& 1085102592571150095) 8)) 16)) 32)).toInt32) &&& 127) hx hb hr (fun t ht hW => ⟨⟨(((((((((x - ((g_sh x 1) &&& 6148914691236517205)) &&& 3689348814741910323) + ((g_sh (x - ((g_sh x 1) &&& 6148914691236517205)) 2) &&& 3689348814741910323)) + (g_sh (((x - ((g_sh x 1) &&& 6148914691236517205)) &&& 3689348814741910323) + ((g_sh (x - ((g_sh x 1) &&& 6148914691236517205)) 2) &&& 3689348814741910323)) 4)) &&& 1085102592571150095) + (g_sh (((((x - ((g_sh x 1) &&& 6148914691236517205)) &&& 3689348814741910323) + ((g_sh (x - ((g_sh x 1) &&& 6148914691236517205)) 2) &&& 3689348814741910323)) + (g_sh (((x - ((g_sh x 1) &&& 6148914691236517205)) &&& 3689348814741910323) + ((g_sh (x - ((g_sh x 1) &&& 6148914691236517205)) 2) &&& 3689348814741910323)) 4)) &&& 1085102592571150095) 8)) + (g_sh ((((((x - ((g_sh x 1) &&& 6148914691236517205)) &&& 3689348814741910323) + ((g_sh (x - ((g_sh x 1) &&& 6148914691236517205)) 2) &&& 3689348814741910323)) + (g_sh (((x - ((g_sh x 1) &&& 6148914691236517205)) &&& 3689348814741910323) + ((g_sh (x - ((g_sh x 1) &&& 6148914691236517205)) 2) &&& 3689348814741910323)) 4)) &&& 1085102592571150095) + (g_sh (((((x - ((g_sh x 1) &&& 6148914691236517205)) &&& 3689348814741910323) + ((g_sh (x - ((g_sh x 1) &&& 6148914691236517205)) 2) &&& 3689348814741910323)) + (g_sh (((x - ((g_sh x 1) &&& 6148914691236517205)) &&& 3689348814741910323) + ((g_sh (x - ((g_sh x 1) &&& 6148914691236517205)) 2) &&& 3689348814741910323)) 4)) &&& 1085102592571150095) 8)) 16)) + (g_sh (((((((x - ((g_sh x 1) &&& 6148914691236517205)) &&& 3689348814741910323) + ((g_sh (x - ((g_sh x 1) &&& 6148914691236517205)) 2) &&& 3689348814741910323)) + (g_sh (((x - ((g_sh x 1) &&& 6148914691236517205)) &&& 3689348814741910323) + ((g_sh (x - ((g_sh x 1) &&& 6148914691236517205)) 2) &&& 3689348814741910323)) 4)) &&& 1085102592571150095) + (g_sh (((((x - ((g_sh x 1) &&& 6148914691236517205)) &&& 3689348814741910323) + ((g_sh (x - ((g_sh x 1) &&& 6148914691236517205)) 2) &&& 3689348814741910323)) + (g_sh (((x - ((g_sh x 1) &&& 6148914691236517205)) &&& 3689348814741910323) + ((g_sh (x - ((g_sh x 1) &&& 6148914691236517205)) 2) &&& 3689348814741910323)) 4)) &&& 1085102592571150095) 8)) + (g_sh ((((((x - ((g_sh x 1) &&& 6148914691236517205)) &&& 3689348814741910323) + ((g_sh (x - ((g_sh x 1) &&& 6148914691236517205)) 2) &&& 3689348814741910323)) + (g_sh (((x - ((g_sh x 1) &&& 6148914691236517205)) &&& 3689348814741910323) + ((g_sh (x - ((g_sh x 1) &&& 6148914691236517205)) 2) &&& 3689348814741910323)) 4)) &&& 1085102592571150095) + (g_sh (((((x - ((g_sh x 1) &&& 6148914691236517205)) &&& 3689348814741910323) + ((g_sh (x - ((g_sh x 1) &&& 6148914691236517205)) 2) &&& 3689348814741910323)) + (g_sh (((x - ((g_sh x 1) &&& 6148914691236517205)) &&& 3689348814741910323) + ((g_sh (x - ((g_sh x 1) &&& 6148914691236517205)) 2) &&& 3689348814741910323)) 4)) &&& 1085102592571150095) 8)) 16)) 32)).toInt32) &&& 127, (), rfl, rfl, by rw [ht]; exact hP, va_K.moved hW.alike hK, hD⟩, hS.F ht⟩) hS.2.2 dJ13_bitCount_95d88_60
