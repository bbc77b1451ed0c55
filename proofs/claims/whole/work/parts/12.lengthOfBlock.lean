set_option maxHeartbeats 4000000 in
set_option maxRecDepth 100000 in
theorem c_lengthOfBlock (l : Launch) (dC : Nat → ClassId) (dI : Nat → Nat → Nat) (h0 qb : Nat) (cB : ClassId) (kb : Int64) (nx un ek en : Int32) (fb : Nat → Int32) (a : Int32) (k0 : Nat) (sz : Nat) (ha : a = nI k0) (hk0 : k0 < 64) : Met l yX0_lengthOfBlock wsX0_lengthOfBlock ({ frames := 1, cells := 0, slots := 0, locals := 21 }) (va_Pc [.ref h0, .int a] (fun U => U.heap.size = sz ∧ va_P (dC, dI) vwCl [(h0, .inr (0, [.ref qb, .long kb, .int nx, .int un, .int ek, .int en])), (qb, .inl (cB, 64, .inl fb))] U.heap ∧ va_K (dC, dI) vwCl [(cB, .byte)] U ∧ va_D (fun _ => True) [(h0, .inr (0, [.ref qb, .long kb, .int nx, .int un, .int ek, .int en])), (qb, .inl (cB, 64, .inl fb))])) (va_Qi (fun (r : Int32) (u : Unit) => match u with | () => ∃ j : Nat, r = nI j ∧ k0 + j ≤ 64 ∧ (∀ i, i < j → sg_b kb (k0 + i) = true) ∧ (k0 + j < 64 → sg_b kb (k0 + j) = false)) (fun (u : Unit) (t : State) => match u with | () => va_P (dC, dI) vwCl [(h0, .inr (0, [.ref qb, .long kb, .int nx, .int un, .int ek, .int en])), (qb, .inl (cB, 64, .inl fb))] t.heap ∧ va_K (dC, dI) vwCl [(cB, .byte)] t ∧ va_D (va_A [(h0, .inr (0, [.ref qb, .long kb, .int nx, .int un, .int ek, .int en])), (qb, .inl (cB, 64, .inl fb))] sz) [(h0, .inr (0, [.ref qb, .long kb, .int nx, .int un, .int ek, .int en])), (qb, .inl (cB, 64, .inl fb))]) (va_A [(h0, .inr (0, [.ref qb, .long kb, .int nx, .int un, .int ek, .int en])), (qb, .inl (cB, 64, .inl fb))] sz)) 0 0 (va_A [(h0, .inr (0, [.ref qb, .long kb, .int nx, .int un, .int ek, .int en])), (qb, .inl (cB, 64, .inl fb))] sz) := by
  refine Met.ofW (cc := cX0_lengthOfBlock) (maxL := 3) (ret := (some .int)) (by decide) rfl ?_
  intro p e s m args below meth c s₁ B hml hv
  obtain ⟨rfl, hsz, hP, hK, hD0⟩ := hv
  have hx := B.exec
  have hb := B.bytes
  have hr := B.returns
  have hts := atoms_spec (ws := wsX0_lengthOfBlock) B.pre
  have hown : s.vm.findClass RX0 = some m.cls := findClass_of_methodNamed B.named
  have hlocks := B.notSynchronized
  subst hsz
  have hD := hD0.self (sz := s.heap.size)
  generalize hAe : va_A [(h0, .inr (0, [.ref qb, .long kb, .int nx, .int un, .int ek, .int en])), (qb, .inl (cB, 64, .inl fb))] s.heap.size = A at hD ⊢
  have hA : ∀ q : Nat, s.heap.size ≤ q → A q := fun q h => by rw [← hAe]; exact Or.inr h
  have hS : va_S A s.heap s.heap [] := va_S.rf
  have hP : va_P (dC, dI) vwCl [(h0, .inr (0, [.ref qb, .long kb, .int nx, .int un, .int ek, .int en])), (qb, .inl (cB, 64, .inl fb))] s.heap := hP
  have hl := lv_entry ([.ref h0, .int a]) (n := 3) (Nat.le_of_ble_eq_true rfl)
  rw [lg_entry_eq]
  generalize (lg_sl ([.ref h0, .int a]) ++ List.replicate (3 - (lg_sl ([.ref h0, .int a])).length) Slot.unset).toArray = ls at hl ⊢
  have hl : lv_has ls 3 [(0, .ref h0), (1, .int a)] := hl
  have hi_0 : ∀ w ∈ u_ws RX0 TX0 6, w ∈ wsX0_lengthOfBlock := by decide +kernel
  have loop : ∀ (n j : Nat) (z9 : Int32), k0 + j + n = 64 → z9 = nI j → (∀ i, i < j → sg_b kb (k0 + i) = true) → ∀ (H : Heap) (locs : List Loc) (ls : Array Slot), va_P (dC, dI) vwCl [(h0, .inr (0, [.ref qb, .long kb, .int nx, .int un, .int ek, .int en])), (qb, .inl (cB, 64, .inl fb))] H → va_D A [(h0, .inr (0, [.ref qb, .long kb, .int nx, .int un, .int ek, .int en])), (qb, .inl (cB, 64, .inl fb))] → va_S A s.heap H locs → lv_has ls 3 [(2, .int z9), (0, .ref h0), (1, .int a)] → W p l e (headSpec wsX0_lengthOfBlock ({ frames := 1, cells := 0, slots := 0, locals := 21 })).room s m ([.ref h0, .int a] : List Value).toArray below meth c H locs 0 0 (MQ below (va_Qi (fun (r : Int32) (u : Unit) => match u with | () => ∃ j : Nat, r = nI j ∧ k0 + j ≤ 64 ∧ (∀ i, i < j → sg_b kb (k0 + i) = true) ∧ (k0 + j < 64 → sg_b kb (k0 + j) = false)) (fun (u : Unit) (t : State) => match u with | () => va_P (dC, dI) vwCl [(h0, .inr (0, [.ref qb, .long kb, .int nx, .int un, .int ek, .int en])), (qb, .inl (cB, 64, .inl fb))] t.heap ∧ va_K (dC, dI) vwCl [(cB, .byte)] t ∧ va_D A [(h0, .inr (0, [.ref qb, .long kb, .int nx, .int un, .int ek, .int en])), (qb, .inl (cB, 64, .inl fb))]) A) ([.ref h0, .int a] : List Value).toArray s 0 0 A) (F0 m 2 ls []) := by
    intro n
    induction n with
    | zero =>
      intro j z9 hj h1 h2 H locs ls hP hD hS hl
      have eaz : a + z9 = nI (k0 + j) := by rw [ha, h1, nI_add]
      refine lv_iload_n hx hb dX0_lengthOfBlock_2 rfl (lv_at hl 0 rfl) ?_
      refine lv_bipush (v := 64) hx hb dX0_lengthOfBlock_3 (by decide) ?_
      refine lv_icmp_ge (tgt := 24) hx hb dX0_lengthOfBlock_5 (by decide) (fun c_5 => ?_) (fun c_5 => ?_)
      · refine lv_iload_n hx hb dX0_lengthOfBlock_24 rfl (lv_at hl 0 rfl) ?_
        exact W.iret (v := z9) hx hb hr (fun t ht hW => ⟨⟨z9, (), rfl, ⟨j, h1, by omega, h2, fun q => by omega⟩, by rw [ht]; exact hP, va_K.moved hW.alike hK, hD⟩, hS.F ht⟩) hS.2.2 dX0_lengthOfBlock_25
      · refine lv_aload_n hx hb dX0_lengthOfBlock_8 rfl (lv_at hl 1 rfl) ?_
        refine lv_iload_n hx hb dX0_lengthOfBlock_9 rfl (lv_at hl 2 rfl) ?_
        refine lv_iload_n hx hb dX0_lengthOfBlock_10 rfl (lv_at hl 0 rfl) ?_
        refine lv_iadd hx hb dX0_lengthOfBlock_11 ?_
        have hPc := hP.sub (ws' := [(h0, .inr (0, [.ref qb, .long kb, .int nx, .int un, .int ek, .int en])), (qb, .inl (cB, 64, .inl fb))]) [0, 1] rfl
        have hDc := hD.sub (ws' := [(h0, .inr (0, [.ref qb, .long kb, .int nx, .int un, .int ek, .int en])), (qb, .inl (cB, 64, .inl fb))]) [0, 1] (by decide) rfl
        have hKc := hK.sub (tys' := [(cB, .byte)]) [0] rfl
        have hFc := va_free (wc := [(h0, .inr (0, [.ref qb, .long kb, .int nx, .int un, .int ek, .int en])), (qb, .inl (cB, 64, .inl fb))]) hD hS hA [0, 1] rfl
        refine va_calli (va_runV (As := [.int (a + z9)]) (rest := []) ⟨hx, hb, hml, hown, hts⟩ (c_isHeldAhead l dC dI h0 qb cB kb nx un ek en fb (a + z9) H.size ) (cwV 1 hts gX0_lengthOfBlock_X0_isHeldAhead rfl rfl rfl (by decide +kernel) ⟨Nat.le_of_ble_eq_true rfl, Nat.le_of_ble_eq_true rfl⟩) ⟨fun a U g mk q => by obtain ⟨q0, q1, qP, qK, qD⟩ := q; exact ⟨q0, q1, qP, va_K.moved (u := U) (U := U.calling g mk a) (Vm.Alike.refl U.vm) qK, qD⟩, va_recv hKc hPc (ci := 0) (q0 := 0) rfl rfl, fun U hU hW => ⟨rfl, by rw [hU], by rw [hU]; exact hPc, va_K.moved hW.alike hKc, hDc.weaken (fun _ _ _ _ => trivial)⟩⟩ rfl rfl hl.1 rfl (lv_room (Nat.le_of_ble_eq_true rfl)) dX0_lengthOfBlock_12 ⟨(Nat.zero_le _), (Nat.zero_le _)⟩) hS (fun q _ h => hFc q h) hFc (fun r_1 u t H1 locs ht hvm hw_2 hB hz1 hk1 hS => ?_)
        obtain ⟨hP1, hK1, hD1⟩ := hB
        rw [ht] at hP1
        have hK1 := va_K.moved hvm.symm hK1
        try dsimp only at hw_2
        obtain ⟨hP, hD⟩ := va_join (wr := []) (w1 := [(h0, .inr (0, [.ref qb, .long kb, .int nx, .int un, .int ek, .int en])), (qb, .inl (cB, 64, .inl fb))]) hP hD [0, 1] [] rfl rfl (by decide) (by decide) hk1 hFc hP1 hD1
        generalize H1 = H at hP hS ⊢
        have hP : va_P (dC, dI) vwCl [(h0, .inr (0, [.ref qb, .long kb, .int nx, .int un, .int ek, .int en])), (qb, .inl (cB, 64, .inl fb))] H := hP
        have hD : va_D A [(h0, .inr (0, [.ref qb, .long kb, .int nx, .int un, .int ek, .int en])), (qb, .inl (cB, 64, .inl fb))] := hD
        subst hw_2
        refine lv_if_eq (tgt := 24) hx hb dX0_lengthOfBlock_15 (by decide) (fun c_15 => ?_) (fun c_15 => ?_)
        · refine lv_iload_n hx hb dX0_lengthOfBlock_24 rfl (lv_at hl 0 rfl) ?_
          exact W.iret (v := z9) hx hb hr (fun t ht hW => ⟨⟨z9, (), rfl, ⟨j, h1, by omega, h2, fun q => by omega⟩, by rw [ht]; exact hP, va_K.moved hW.alike hK, hD⟩, hS.F ht⟩) hS.2.2 dX0_lengthOfBlock_25
        · exact absurd (bI_1.mp c_15).2.1 (by rw [eaz, show k0 + j = 64 by omega]; decide)
    | succ n ih =>
      intro j z9 hj h1 h2 H locs ls hP hD hS hl
      have eaz : a + z9 = nI (k0 + j) := by rw [ha, h1, nI_add]
      refine lv_iload_n hx hb dX0_lengthOfBlock_2 rfl (lv_at hl 0 rfl) ?_
      refine lv_bipush (v := 64) hx hb dX0_lengthOfBlock_3 (by decide) ?_
      refine lv_icmp_ge (tgt := 24) hx hb dX0_lengthOfBlock_5 (by decide) (fun c_5 => ?_) (fun c_5 => ?_)
      · exact absurd ((ge64 h1 (by omega)).mp c_5) (by omega)
      · refine lv_aload_n hx hb dX0_lengthOfBlock_8 rfl (lv_at hl 1 rfl) ?_
        refine lv_iload_n hx hb dX0_lengthOfBlock_9 rfl (lv_at hl 2 rfl) ?_
        refine lv_iload_n hx hb dX0_lengthOfBlock_10 rfl (lv_at hl 0 rfl) ?_
        refine lv_iadd hx hb dX0_lengthOfBlock_11 ?_
        have hPc := hP.sub (ws' := [(h0, .inr (0, [.ref qb, .long kb, .int nx, .int un, .int ek, .int en])), (qb, .inl (cB, 64, .inl fb))]) [0, 1] rfl
        have hDc := hD.sub (ws' := [(h0, .inr (0, [.ref qb, .long kb, .int nx, .int un, .int ek, .int en])), (qb, .inl (cB, 64, .inl fb))]) [0, 1] (by decide) rfl
        have hKc := hK.sub (tys' := [(cB, .byte)]) [0] rfl
        have hFc := va_free (wc := [(h0, .inr (0, [.ref qb, .long kb, .int nx, .int un, .int ek, .int en])), (qb, .inl (cB, 64, .inl fb))]) hD hS hA [0, 1] rfl
        refine va_calli (va_runV (As := [.int (a + z9)]) (rest := []) ⟨hx, hb, hml, hown, hts⟩ (c_isHeldAhead l dC dI h0 qb cB kb nx un ek en fb (a + z9) H.size ) (cwV 1 hts gX0_lengthOfBlock_X0_isHeldAhead rfl rfl rfl (by decide +kernel) ⟨Nat.le_of_ble_eq_true rfl, Nat.le_of_ble_eq_true rfl⟩) ⟨fun a U g mk q => by obtain ⟨q0, q1, qP, qK, qD⟩ := q; exact ⟨q0, q1, qP, va_K.moved (u := U) (U := U.calling g mk a) (Vm.Alike.refl U.vm) qK, qD⟩, va_recv hKc hPc (ci := 0) (q0 := 0) rfl rfl, fun U hU hW => ⟨rfl, by rw [hU], by rw [hU]; exact hPc, va_K.moved hW.alike hKc, hDc.weaken (fun _ _ _ _ => trivial)⟩⟩ rfl rfl hl.1 rfl (lv_room (Nat.le_of_ble_eq_true rfl)) dX0_lengthOfBlock_12 ⟨(Nat.zero_le _), (Nat.zero_le _)⟩) hS (fun q _ h => hFc q h) hFc (fun r_3 u t H1 locs ht hvm hw_4 hB hz1 hk1 hS => ?_)
        obtain ⟨hP1, hK1, hD1⟩ := hB
        rw [ht] at hP1
        have hK1 := va_K.moved hvm.symm hK1
        try dsimp only at hw_4
        obtain ⟨hP, hD⟩ := va_join (wr := []) (w1 := [(h0, .inr (0, [.ref qb, .long kb, .int nx, .int un, .int ek, .int en])), (qb, .inl (cB, 64, .inl fb))]) hP hD [0, 1] [] rfl rfl (by decide) (by decide) hk1 hFc hP1 hD1
        generalize H1 = H at hP hS ⊢
        have hP : va_P (dC, dI) vwCl [(h0, .inr (0, [.ref qb, .long kb, .int nx, .int un, .int ek, .int en])), (qb, .inl (cB, 64, .inl fb))] H := hP
        have hD : va_D A [(h0, .inr (0, [.ref qb, .long kb, .int nx, .int un, .int ek, .int en])), (qb, .inl (cB, 64, .inl fb))] := hD
        subst hw_4
        refine lv_if_eq (tgt := 24) hx hb dX0_lengthOfBlock_15 (by decide) (fun c_15 => ?_) (fun c_15 => ?_)
        · refine lv_iload_n hx hb dX0_lengthOfBlock_24 rfl (lv_at hl 0 rfl) ?_
          exact W.iret (v := z9) hx hb hr (fun t ht hW => ⟨⟨z9, (), rfl, ⟨j, h1, by omega, h2, fun q => by
            have w := bI_0.mp c_15
            rw [eaz, sg_held (by omega)] at w
            simpa using w⟩, by rw [ht]; exact hP, va_K.moved hW.alike hK, hD⟩, hS.F ht⟩) hS.2.2 dX0_lengthOfBlock_25
        · obtain ⟨x_5, ex_5⟩ : ∃ y : Int32, y = z9 + 1 := ⟨_, rfl⟩
          refine lv_iinc (v := x_5) (lv' := [(2, .int x_5), (0, .ref h0), (1, .int a)]) hx hb dX0_lengthOfBlock_18 hl (k := 0) rfl (by rw [ex_5]; rfl) (by decide) rfl (fun ls hl => ?_)
          refine lv_goto (tgt := 2) hx hb dX0_lengthOfBlock_21 (by decide) ?_
          have w := bI_1.mp c_15
          rw [eaz, sg_held (by omega)] at w
          exact ih (j + 1) x_5 (by omega) (by rw [ex_5, h1, nI_succ]) (fun i hi => by
            by_cases q : i = j
            · rw [q]; exact w
            · exact h2 i (by omega)) H locs ls hP hD hS (lv_sub hl [0, 1, 2] rfl)
  refine lv_iconst (v := 0) hx hb dX0_lengthOfBlock_0 (by decide) ?_
  refine lv_istore_n (lv' := [(2, .int 0), (0, .ref h0), (1, .int a)]) hx hb dX0_lengthOfBlock_1 rfl hl (by decide) rfl (fun ls hl => ?_)
  exact loop (64 - k0) 0 0 (by omega) nI_0.symm (fun i hi => absurd hi (by omega)) s.heap [] ls hP hD hS (lv_sub hl [0, 1, 2] rfl)
