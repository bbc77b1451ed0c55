set_option maxHeartbeats 4000000 in
set_option maxRecDepth 100000 in
theorem c_read (l : Launch) (dC : Nat → ClassId) (dI : Nat → Nat → Nat) (h0 qb : Nat) (cB : ClassId) (kb : Int64) (nx un ek en : Int32) (fb : Nat → Int32) (sz : Nat)  : Met l yX0_read wsX0_read ({ frames := 1, cells := 0, slots := 0, locals := 20 }) (va_Pc [.ref h0] (fun U => U.heap.size = sz ∧ va_P (dC, dI) vwCl [(h0, .inr (0, [.ref qb, .long kb, .int nx, .int un, .int ek, .int en])), (qb, .inl (cB, 64, .inl fb))] U.heap ∧ va_K (dC, dI) vwCl [(cB, .byte)] U ∧ va_D (fun _ => True) [(h0, .inr (0, [.ref qb, .long kb, .int nx, .int un, .int ek, .int en])), (qb, .inl (cB, 64, .inl fb))])) (va_Qi (fun (r : Int32) (u : Int32) => match u with | un' => (un = 0 ∧ un' = un ∧ r = (if ¬ ek = 0 ∧ nx = en then -2 else -1)) ∨ (¬ un = 0 ∧ un' = un - 1 ∧ r = fb ((nx - un) &&& 63).toNatClampNeg &&& 255)) (fun (u : Int32) (t : State) => match u with | un' => va_P (dC, dI) vwCl [(h0, .inr (0, [.ref qb, .long kb, .int nx, .int un', .int ek, .int en])), (qb, .inl (cB, 64, .inl fb))] t.heap ∧ va_K (dC, dI) vwCl [(cB, .byte)] t ∧ va_D (va_A [(h0, .inr (0, [.ref qb, .long kb, .int nx, .int un, .int ek, .int en])), (qb, .inl (cB, 64, .inl fb))] sz) [(h0, .inr (0, [.ref qb, .long kb, .int nx, .int un', .int ek, .int en])), (qb, .inl (cB, 64, .inl fb))]) (va_A [(h0, .inr (0, [.ref qb, .long kb, .int nx, .int un, .int ek, .int en])), (qb, .inl (cB, 64, .inl fb))] sz)) 0 0 (va_A [(h0, .inr (0, [.ref qb, .long kb, .int nx, .int un, .int ek, .int en])), (qb, .inl (cB, 64, .inl fb))] sz) := by
  refine Met.ofW (cc := cX0_read) (maxL := 2) (ret := (some .int)) (by decide) rfl ?_
  intro p e s m args below meth c s₁ B hml hv
  obtain ⟨rfl, hsz, hP, hK, hD0⟩ := hv
  have hx := B.exec
  have hb := B.bytes
  have hr := B.returns
  have hts := atoms_spec (ws := wsX0_read) B.pre
  have hown : s.vm.findClass RX0 = some m.cls := findClass_of_methodNamed B.named
  have hlocks := B.notSynchronized
  subst hsz
  have hD := hD0.self (sz := s.heap.size)
  generalize hAe : va_A [(h0, .inr (0, [.ref qb, .long kb, .int nx, .int un, .int ek, .int en])), (qb, .inl (cB, 64, .inl fb))] s.heap.size = A at hD ⊢
  have hA : ∀ q : Nat, s.heap.size ≤ q → A q := fun q h => by rw [← hAe]; exact Or.inr h
  have hS : va_S A s.heap s.heap [] := va_S.rf
  have hP : va_P (dC, dI) vwCl [(h0, .inr (0, [.ref qb, .long kb, .int nx, .int un, .int ek, .int en])), (qb, .inl (cB, 64, .inl fb))] s.heap := hP
  have hl := lv_entry ([.ref h0]) (n := 2) (Nat.le_of_ble_eq_true rfl)
  rw [lg_entry_eq]
  generalize (lg_sl ([.ref h0]) ++ List.replicate (2 - (lg_sl ([.ref h0])).length) Slot.unset).toArray = ls at hl ⊢
  have hl : lv_has ls 2 [(0, .ref h0)] := hl
  have hi_0 : ∀ w ∈ u_ws RX0 TX0 6, w ∈ wsX0_read := by decide +kernel
  refine lv_aload_n hx hb dX0_read_0 rfl (lv_at hl 0 rfl) ?_
  refine va_get (D := (dC, dI)) (ci := 0) (v := .int un) (C := RX0) (T := TX0) (N := 6) hx hb hts hi_0 hown hK hP 0 rfl rfl 3 (by decide) (hts (.fieldLink RX0 21 "SegmentBox" "unread" "I") (by decide +kernel)) (fun _ h9 => h9) rfl dX0_read_1 ?_
  refine lv_if_ne (tgt := 32) hx hb dX0_read_4 (by decide) (fun c_4 => ?_) (fun c_4 => ?_)
  · refine lv_aload_n hx hb dX0_read_32 rfl (lv_at hl 0 rfl) ?_
    refine va_get (D := (dC, dI)) (ci := 0) (v := .ref qb) (C := RX0) (T := TX0) (N := 6) hx hb hts hi_0 hown hK hP 0 rfl rfl 0 (by decide) (hts (.fieldLink RX0 9 "SegmentBox" "bytes" "[B") (by decide +kernel)) (fun _ h9 => h9) rfl dX0_read_33 ?_
    refine lv_aload_n hx hb dX0_read_36 rfl (lv_at hl 0 rfl) ?_
    refine va_get (D := (dC, dI)) (ci := 0) (v := .int nx) (C := RX0) (T := TX0) (N := 6) hx hb hts hi_0 hown hK hP 0 rfl rfl 2 (by decide) (hts (.fieldLink RX0 17 "SegmentBox" "next" "I") (by decide +kernel)) (fun _ h9 => h9) rfl dX0_read_37 ?_
    refine lv_aload_n hx hb dX0_read_40 rfl (lv_at hl 0 rfl) ?_
    refine va_get (D := (dC, dI)) (ci := 0) (v := .int un) (C := RX0) (T := TX0) (N := 6) hx hb hts hi_0 hown hK hP 0 rfl rfl 3 (by decide) (hts (.fieldLink RX0 21 "SegmentBox" "unread" "I") (by decide +kernel)) (fun _ h9 => h9) rfl dX0_read_41 ?_
    refine lv_isub hx hb dX0_read_44 ?_
    have hPc := hP.sub (ws' := []) [] rfl
    have hDc := hD.sub (ws' := []) [] (by decide) rfl
    have hKc := hK.sub (tys' := []) [] rfl
    have hFc := va_free (wc := []) hD hS hA [] rfl
    refine va_calli (va_runS (As := [.int (nx - un)]) (rest := [.ref qb]) ⟨hx, hb, hml, hown, hts⟩ (c_slotOf l dC dI (nx - un) s.heap.size ) (va_cwS 1 hts gX0_read_X0_slotOf rfl rfl rfl (by decide +kernel) ⟨Nat.le_of_ble_eq_true rfl, Nat.le_of_ble_eq_true rfl⟩) ⟨fun a U g mk q => by obtain ⟨q0, q1, qP, qK, qD⟩ := q; exact ⟨q0, q1, qP, va_K.moved (u := U) (U := U.calling g mk a) (Vm.Alike.refl U.vm) qK, qD⟩, fun U hU hW => ⟨rfl, by rw [hU], by rw [hU]; exact hPc, va_K.moved hW.alike hKc, hDc.weaken (fun _ _ _ _ => trivial)⟩⟩ rfl rfl hl.1 rfl (lv_room (Nat.le_of_ble_eq_true rfl)) dX0_read_45 ⟨(Nat.zero_le _), (Nat.zero_le _)⟩) hS (fun q _ h => hFc q h) hFc (fun r_1 u t H1 locs ht hvm hw_2 hB hz1 hk1 hS => ?_)
    obtain ⟨hP1, hK1, hD1⟩ := hB
    rw [ht] at hP1
    have hK1 := va_K.moved hvm.symm hK1
    try dsimp only at hw_2
    obtain ⟨hP, hD⟩ := va_join (wr := [(h0, .inr (0, [.ref qb, .long kb, .int nx, .int un, .int ek, .int en])), (qb, .inl (cB, 64, .inl fb))]) (w1 := []) hP hD [] [0, 1] rfl rfl (by decide) (by decide) hk1 hFc hP1 hD1
    generalize H1 = H at hP hS ⊢
    have hP : va_P (dC, dI) vwCl [(h0, .inr (0, [.ref qb, .long kb, .int nx, .int un, .int ek, .int en])), (qb, .inl (cB, 64, .inl fb))] H := hP
    have hD : va_D A [(h0, .inr (0, [.ref qb, .long kb, .int nx, .int un, .int ek, .int en])), (qb, .inl (cB, 64, .inl fb))] := hD
    subst hw_2
    refine va_bald hx hb hK hP 1 0 rfl rfl (pk_andIn (nx - un) 6 (by decide) (by decide)) dX0_read_48 ?_
    refine lv_sipush (v := 255) hx hb dX0_read_49 (by decide) ?_
    refine lv_iand hx hb dX0_read_52 ?_
    refine lv_istore_n (lv' := [(1, .int ((fb ((nx - un) &&& 63).toNatClampNeg) &&& 255)), (0, .ref h0)]) hx hb dX0_read_53 rfl hl (by decide) rfl (fun ls hl => ?_)
    refine lv_aload_n hx hb dX0_read_54 rfl (lv_at hl 1 rfl) ?_
    refine lv_dup hx hb dX0_read_55 rfl ?_
    refine va_get (D := (dC, dI)) (ci := 0) (v := .int un) (C := RX0) (T := TX0) (N := 6) hx hb hts hi_0 hown hK hP 0 rfl rfl 3 (by decide) (hts (.fieldLink RX0 21 "SegmentBox" "unread" "I") (by decide +kernel)) (fun _ h9 => h9) rfl dX0_read_56 ?_
    refine lv_iconst (v := 1) hx hb dX0_read_59 (by decide) ?_
    refine lv_isub hx hb dX0_read_60 ?_
    refine lv_topi (fun f_3 ef_3 => ?_)
    refine va_put (D := (dC, dI)) (ci := 0) (v := .int f_3) (ty := .int) (C := RX0) (T := TX0) (N := 6) hx hb hts hi_0 tyX0 tyX0_ok nmX0 hown hK hP hD hS 0 rfl rfl 3 (by decide) (hts (.fieldLink RX0 21 "SegmentBox" "unread" "I") (by decide +kernel)) (fun _ h9 => h9) rfl (by decide +kernel) rfl rfl (Nat.le_of_ble_eq_true rfl) dX0_read_61 (fun H locs hP hD hS => ?_)
    have hP : va_P (dC, dI) vwCl [(h0, .inr (0, [.ref qb, .long kb, .int nx, .int f_3, .int ek, .int en])), (qb, .inl (cB, 64, .inl fb))] H := hP
    have hD : va_D A [(h0, .inr (0, [.ref qb, .long kb, .int nx, .int f_3, .int ek, .int en])), (qb, .inl (cB, 64, .inl fb))] := hD
    refine lv_iload_n hx hb dX0_read_64 rfl (lv_at hl 0 rfl) ?_
    exact W.iret (v := (fb ((nx - un) &&& 63).toNatClampNeg) &&& 255) hx hb hr (fun t ht hW => ⟨⟨(fb ((nx - un) &&& 63).toNatClampNeg) &&& 255, f_3, rfl, Or.inr ⟨c_4, ef_3, rfl⟩, by rw [ht]; exact hP, va_K.moved hW.alike hK, hD⟩, hS.F ht⟩) hS.2.2 dX0_read_65
  · refine lv_aload_n hx hb dX0_read_7 rfl (lv_at hl 0 rfl) ?_
    refine va_get (D := (dC, dI)) (ci := 0) (v := .int ek) (C := RX0) (T := TX0) (N := 6) hx hb hts hi_0 hown hK hP 0 rfl rfl 4 (by decide) (hts (.fieldLink RX0 24 "SegmentBox" "endKnown" "Z") (by decide +kernel)) (fun _ h9 => h9) rfl dX0_read_8 ?_
    refine lv_if_eq (tgt := 30) hx hb dX0_read_11 (by decide) (fun c_11 => ?_) (fun c_11 => ?_)
    · refine lv_iconst (v := -1) hx hb dX0_read_30 (by decide) ?_
      exact W.iret (v := (-1)) hx hb hr (fun t ht hW => ⟨⟨(-1), un, rfl, Or.inl ⟨c_4, rfl, (if_neg (fun z => z.1 c_11)).symm⟩, by rw [ht]; exact hP, va_K.moved hW.alike hK, hD⟩, hS.F ht⟩) hS.2.2 dX0_read_31
    · refine lv_aload_n hx hb dX0_read_14 rfl (lv_at hl 0 rfl) ?_
      refine va_get (D := (dC, dI)) (ci := 0) (v := .int nx) (C := RX0) (T := TX0) (N := 6) hx hb hts hi_0 hown hK hP 0 rfl rfl 2 (by decide) (hts (.fieldLink RX0 17 "SegmentBox" "next" "I") (by decide +kernel)) (fun _ h9 => h9) rfl dX0_read_15 ?_
      refine lv_aload_n hx hb dX0_read_18 rfl (lv_at hl 0 rfl) ?_
      refine va_get (D := (dC, dI)) (ci := 0) (v := .int en) (C := RX0) (T := TX0) (N := 6) hx hb hts hi_0 hown hK hP 0 rfl rfl 5 (by decide) (hts (.fieldLink RX0 28 "SegmentBox" "endNumber" "I") (by decide +kernel)) (fun _ h9 => h9) rfl dX0_read_19 ?_
      refine lv_icmp_ne (tgt := 30) hx hb dX0_read_22 (by decide) (fun c_22 => ?_) (fun c_22 => ?_)
      · refine lv_iconst (v := -1) hx hb dX0_read_30 (by decide) ?_
        exact W.iret (v := (-1)) hx hb hr (fun t ht hW => ⟨⟨(-1), un, rfl, Or.inl ⟨c_4, rfl, (if_neg (fun z => c_22 z.2)).symm⟩, by rw [ht]; exact hP, va_K.moved hW.alike hK, hD⟩, hS.F ht⟩) hS.2.2 dX0_read_31
      · refine lv_bipush (v := -2) hx hb dX0_read_25 (by decide) ?_
        refine lv_goto (tgt := 31) hx hb dX0_read_27 (by decide) ?_
        exact W.iret (v := (-2)) hx hb hr (fun t ht hW => ⟨⟨(-2), un, rfl, Or.inl ⟨c_4, rfl, (if_pos ⟨c_11, c_22⟩).symm⟩, by rw [ht]; exact hP, va_K.moved hW.alike hK, hD⟩, hS.F ht⟩) hS.2.2 dX0_read_31
