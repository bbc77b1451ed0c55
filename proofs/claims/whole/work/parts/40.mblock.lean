set_option maxHeartbeats 4000000 in
set_option maxRecDepth 100000 in
theorem m_block (l : Launch) (dC : Nat → ClassId) (dI : Nat → Nat → Nat) (a1 q1 q2 q3 : Nat) (cU cV cZ : ClassId) (nx mn ed th he : Int32) (fU fB fH : Nat → Int32) (i b : Int32) (sz : Nat)  : Met l yX1_block wsX1_block ({ frames := 1, cells := 0, slots := 0, locals := 23 }) (va_Pc [.ref a1, .int i, .int b] (fun U => U.heap.size = sz ∧ va_P (dC, dI) vwCl [(a1, .inr (1, [.ref q1, .ref q2, .ref q3, .int nx, .int mn, .int ed, .int th, .int he])), (q1, .inl (cU, 64, .inl fU)), (q2, .inl (cV, 64, .inl fB)), (q3, .inl (cZ, 64, .inl fH))] U.heap ∧ va_K (dC, dI) vwCl [(cU, .int), (cV, .int), (cZ, .boolean)] U ∧ va_D (fun _ => True) [(a1, .inr (1, [.ref q1, .ref q2, .ref q3, .int nx, .int mn, .int ed, .int th, .int he])), (q1, .inl (cU, 64, .inl fU)), (q2, .inl (cV, 64, .inl fB)), (q3, .inl (cZ, 64, .inl fH))])) (va_Qi (fun (r : Int32) (u0 : Int32) => match u0 with | th' => (th' = 1 ∧ (i < 0 ∨ ∃ i0 : Nat, i = nI i0 ∧ i0 < 2 ^ 31 ∧ sg_c (st (pH fH)) 64 ≤ i0)) ∨ (th' = 0 ∧ ∃ i0 k : Nat, i = nI i0 ∧ i0 < 2 ^ 31 ∧ k < 64 ∧ st (pH fH) k = true ∧ sg_c (st (pH fH)) k = i0 ∧ ((b = 0 ∧ r = nx + nI k) ∨ (¬ b = 0 ∧ ∃ j : Nat, r = nI j ∧ k + j ≤ 64 ∧ (∀ i, i < j → pH fH (k + i) = true) ∧ (k + j < 64 → pH fH (k + j) = false))))) (fun (u0 : Int32) (t : State) => match u0 with | th' => va_P (dC, dI) vwCl [(a1, .inr (1, [.ref q1, .ref q2, .ref q3, .int nx, .int mn, .int ed, .int th', .int he])), (q1, .inl (cU, 64, .inl fU)), (q2, .inl (cV, 64, .inl fB)), (q3, .inl (cZ, 64, .inl fH))] t.heap ∧ va_K (dC, dI) vwCl [(cU, .int), (cV, .int), (cZ, .boolean)] t ∧ va_D (va_A [(a1, .inr (1, [.ref q1, .ref q2, .ref q3, .int nx, .int mn, .int ed, .int th, .int he])), (q1, .inl (cU, 64, .inl fU)), (q2, .inl (cV, 64, .inl fB)), (q3, .inl (cZ, 64, .inl fH))] sz) [(a1, .inr (1, [.ref q1, .ref q2, .ref q3, .int nx, .int mn, .int ed, .int th', .int he])), (q1, .inl (cU, 64, .inl fU)), (q2, .inl (cV, 64, .inl fB)), (q3, .inl (cZ, 64, .inl fH))]) (va_A [(a1, .inr (1, [.ref q1, .ref q2, .ref q3, .int nx, .int mn, .int ed, .int th, .int he])), (q1, .inl (cU, 64, .inl fU)), (q2, .inl (cV, 64, .inl fB)), (q3, .inl (cZ, 64, .inl fH))] sz)) 0 0 (va_A [(a1, .inr (1, [.ref q1, .ref q2, .ref q3, .int nx, .int mn, .int ed, .int th, .int he])), (q1, .inl (cU, 64, .inl fU)), (q2, .inl (cV, 64, .inl fB)), (q3, .inl (cZ, 64, .inl fH))] sz) := by
  refine Met.ofW (cc := cX1_block) (maxL := 5) (ret := (some .int)) (by decide) rfl ?_
  intro p e s m args below meth c s₁ B hml hv
  obtain ⟨rfl, hsz, hP, hK, hD0⟩ := hv
  have hx := B.exec
  have hb := B.bytes
  have hr := B.returns
  have hts := atoms_spec (ws := wsX1_block) B.pre
  have hown : s.vm.findClass RX1 = some m.cls := findClass_of_methodNamed B.named
  have hlocks := B.notSynchronized
  subst hsz
  have hD := hD0.self (sz := s.heap.size)
  generalize hAe : va_A [(a1, .inr (1, [.ref q1, .ref q2, .ref q3, .int nx, .int mn, .int ed, .int th, .int he])), (q1, .inl (cU, 64, .inl fU)), (q2, .inl (cV, 64, .inl fB)), (q3, .inl (cZ, 64, .inl fH))] s.heap.size = A at hD ⊢
  have hA : ∀ q : Nat, s.heap.size ≤ q → A q := fun q h => by rw [← hAe]; exact Or.inr h
  have hS : va_S A s.heap s.heap [] := va_S.rf
  have hP : va_P (dC, dI) vwCl [(a1, .inr (1, [.ref q1, .ref q2, .ref q3, .int nx, .int mn, .int ed, .int th, .int he])), (q1, .inl (cU, 64, .inl fU)), (q2, .inl (cV, 64, .inl fB)), (q3, .inl (cZ, 64, .inl fH))] s.heap := hP
  have hl := lv_entry ([.ref a1, .int i, .int b]) (n := 5) (Nat.le_of_ble_eq_true rfl)
  rw [lg_entry_eq]
  generalize (lg_sl ([.ref a1, .int i, .int b]) ++ List.replicate (5 - (lg_sl ([.ref a1, .int i, .int b])).length) Slot.unset).toArray = ls at hl ⊢
  have hl : lv_has ls 5 [(0, .ref a1), (1, .int i), (2, .int b)] := hl
  have hi_1 : ∀ w ∈ u_ws RX1 TX1 8, w ∈ wsX1_block := by decide +kernel
  refine lv_iload_n hx hb dX1_block_0 rfl (lv_at hl 1 rfl) ?_
  refine lv_if_ge (tgt := 8) hx hb dX1_block_1 (by decide) (fun c_1 => ?_) (fun c_1 => ?_)
  · refine lv_aload_n hx hb dX1_block_8 rfl (lv_at hl 0 rfl) ?_
    refine lv_iload_n hx hb dX1_block_9 rfl (lv_at hl 1 rfl) ?_
    obtain ⟨i0, hi0, hi⟩ := nI_of (Int32.not_lt.mpr c_1)
    have hPc := hP.sub (ws' := [(a1, .inr (1, [.ref q1, .ref q2, .ref q3, .int nx, .int mn, .int ed, .int th, .int he])), (q1, .inl (cU, 64, .inl fU)), (q2, .inl (cV, 64, .inl fB)), (q3, .inl (cZ, 64, .inl fH))]) [0, 1, 2, 3] rfl
    have hDc := hD.sub (ws' := [(a1, .inr (1, [.ref q1, .ref q2, .ref q3, .int nx, .int mn, .int ed, .int th, .int he])), (q1, .inl (cU, 64, .inl fU)), (q2, .inl (cV, 64, .inl fB)), (q3, .inl (cZ, 64, .inl fH))]) [0, 1, 2, 3] (by decide) rfl
    have hKc := hK.sub (tys' := [(cU, .int), (cV, .int), (cZ, .boolean)]) [0, 1, 2] rfl
    have hFc := va_free (wc := [(a1, .inr (1, [.ref q1, .ref q2, .ref q3, .int nx, .int mn, .int ed, .int th, .int he])), (q1, .inl (cU, 64, .inl fU)), (q2, .inl (cV, 64, .inl fB)), (q3, .inl (cZ, 64, .inl fH))]) hD hS hA [0, 1, 2, 3] rfl
    refine va_calli (va_runV (As := [.int i]) (rest := []) ⟨hx, hb, hml, hown, hts⟩ (m_from l dC dI a1 q1 q2 q3 cU cV cZ nx mn ed th he fU fB fH i i0 s.heap.size hi hi0) (cwV 1 hts gX1_block_X1_from rfl rfl rfl (by decide +kernel) ⟨Nat.le_of_ble_eq_true rfl, Nat.le_of_ble_eq_true rfl⟩) ⟨fun a U g mk q => by obtain ⟨q0, q1, qP, qK, qD⟩ := q; exact ⟨q0, q1, qP, va_K.moved (u := U) (U := U.calling g mk a) (Vm.Alike.refl U.vm) qK, qD⟩, va_recv hKc hPc (ci := 1) (q0 := 0) rfl rfl, fun U hU hW => ⟨rfl, by rw [hU], by rw [hU]; exact hPc, va_K.moved hW.alike hKc, hDc.weaken (fun _ _ _ _ => trivial)⟩⟩ rfl rfl hl.1 rfl (lv_room (Nat.le_of_ble_eq_true rfl)) dX1_block_10 ⟨(Nat.zero_le _), (Nat.zero_le _)⟩) hS (fun q _ h => hFc q h) hFc (fun r_1 u t H1 locs ht hvm hw_2 hB hz1 hk1 hS => ?_)
    obtain ⟨hP1, hK1, hD1⟩ := hB
    rw [ht] at hP1
    have hK1 := va_K.moved hvm.symm hK1
    try dsimp only at hw_2
    obtain ⟨hP, hD⟩ := va_join (wr := []) (w1 := [(a1, .inr (1, [.ref q1, .ref q2, .ref q3, .int nx, .int mn, .int ed, .int th, .int he])), (q1, .inl (cU, 64, .inl fU)), (q2, .inl (cV, 64, .inl fB)), (q3, .inl (cZ, 64, .inl fH))]) hP hD [0, 1, 2, 3] [] rfl rfl (by decide) (by decide) hk1 hFc hP1 hD1
    generalize H1 = H at hP hS ⊢
    have hP : va_P (dC, dI) vwCl [(a1, .inr (1, [.ref q1, .ref q2, .ref q3, .int nx, .int mn, .int ed, .int th, .int he])), (q1, .inl (cU, 64, .inl fU)), (q2, .inl (cV, 64, .inl fB)), (q3, .inl (cZ, 64, .inl fH))] H := hP
    have hD : va_D A [(a1, .inr (1, [.ref q1, .ref q2, .ref q3, .int nx, .int mn, .int ed, .int th, .int he])), (q1, .inl (cU, 64, .inl fU)), (q2, .inl (cV, 64, .inl fB)), (q3, .inl (cZ, 64, .inl fH))] := hD
    rcases hw_2 with ⟨k, k1, k2, k3, k4⟩ | ⟨k2, k3⟩
    · subst k2
      refine lv_istore_n (lv' := [(3, .int (nI k)), (0, .ref a1), (1, .int i), (2, .int b)]) hx hb dX1_block_13 rfl hl (by decide) rfl (fun ls hl => ?_)
      refine lv_iconst (v := 0) hx hb dX1_block_14 (by decide) ?_
      refine lv_istore (lv' := [(4, .int 0), (3, .int (nI k)), (0, .ref a1), (1, .int i), (2, .int b)]) hx hb dX1_block_15 hl (by decide) rfl (fun ls hl => ?_)
      refine lv_aload_n hx hb dX1_block_17 rfl (lv_at hl 2 rfl) ?_
      refine lv_iload_n hx hb dX1_block_18 rfl (lv_at hl 1 rfl) ?_
      refine lv_if_ge (tgt := 26) hx hb dX1_block_19 (by decide) (fun c_19 => ?_) (fun c_19 => ?_)
      · refine lv_iconst (v := 0) hx hb dX1_block_26 (by decide) ?_
        refine va_put (D := (dC, dI)) (ci := 1) (v := .int 0) (ty := .int) (C := RX1) (T := TX1) (N := 8) hx hb hts hi_1 tyX1 tyX1_ok nmX1 hown hK hP hD hS 0 rfl rfl 6 (by decide) (hts (.fieldLink RX1 20 "SegmentBoxModel" "thrown" "I") (by decide +kernel)) (fun _ h9 => h9) rfl (by decide +kernel) rfl rfl (Nat.le_of_ble_eq_true rfl) dX1_block_27 (fun H locs hP hD hS => ?_)
        have hP : va_P (dC, dI) vwCl [(a1, .inr (1, [.ref q1, .ref q2, .ref q3, .int nx, .int mn, .int ed, .int 0, .int he])), (q1, .inl (cU, 64, .inl fU)), (q2, .inl (cV, 64, .inl fB)), (q3, .inl (cZ, 64, .inl fH))] H := hP
        have hD : va_D A [(a1, .inr (1, [.ref q1, .ref q2, .ref q3, .int nx, .int mn, .int ed, .int 0, .int he])), (q1, .inl (cU, 64, .inl fU)), (q2, .inl (cV, 64, .inl fB)), (q3, .inl (cZ, 64, .inl fH))] := hD
        refine lv_aload_n hx hb dX1_block_30 rfl (lv_at hl 2 rfl) ?_
        refine va_get (D := (dC, dI)) (ci := 1) (v := .int 0) (C := RX1) (T := TX1) (N := 8) hx hb hts hi_1 hown hK hP 0 rfl rfl 6 (by decide) (hts (.fieldLink RX1 20 "SegmentBoxModel" "thrown" "I") (by decide +kernel)) (fun _ h9 => h9) rfl dX1_block_31 ?_
        refine lv_if_le (tgt := 39) hx hb dX1_block_34 (by decide) (fun c_34 => ?_) (fun c_34 => ?_)
        · have loop : ∀ (cnt j : Nat) (z9 : Int32), k + j + cnt = 64 → z9 = nI j → (∀ i, i < j → pH fH (k + i) = true) → ∀ (H : Heap) (locs : List Loc) (ls : Array Slot), va_P (dC, dI) vwCl [(a1, .inr (1, [.ref q1, .ref q2, .ref q3, .int nx, .int mn, .int ed, .int 0, .int he])), (q1, .inl (cU, 64, .inl fU)), (q2, .inl (cV, 64, .inl fB)), (q3, .inl (cZ, 64, .inl fH))] H → va_D A [(a1, .inr (1, [.ref q1, .ref q2, .ref q3, .int nx, .int mn, .int ed, .int 0, .int he])), (q1, .inl (cU, 64, .inl fU)), (q2, .inl (cV, 64, .inl fB)), (q3, .inl (cZ, 64, .inl fH))] → va_S A s.heap H locs → lv_has ls 5 [(4, .int z9), (3, .int (nI k)), (0, .ref a1), (1, .int i), (2, .int b)] → W p l e (headSpec wsX1_block ({ frames := 1, cells := 0, slots := 0, locals := 23 })).room s m ([.ref a1, .int i, .int b] : List Value).toArray below meth c H locs 0 0 (MQ below (va_Qi (fun (r : Int32) (u0 : Int32) => match u0 with | th' => (th' = 1 ∧ (i < 0 ∨ ∃ i0 : Nat, i = nI i0 ∧ i0 < 2 ^ 31 ∧ sg_c (st (pH fH)) 64 ≤ i0)) ∨ (th' = 0 ∧ ∃ i0 k : Nat, i = nI i0 ∧ i0 < 2 ^ 31 ∧ k < 64 ∧ st (pH fH) k = true ∧ sg_c (st (pH fH)) k = i0 ∧ ((b = 0 ∧ r = nx + nI k) ∨ (¬ b = 0 ∧ ∃ j : Nat, r = nI j ∧ k + j ≤ 64 ∧ (∀ i, i < j → pH fH (k + i) = true) ∧ (k + j < 64 → pH fH (k + j) = false))))) (fun (u0 : Int32) (t : State) => match u0 with | th' => va_P (dC, dI) vwCl [(a1, .inr (1, [.ref q1, .ref q2, .ref q3, .int nx, .int mn, .int ed, .int th', .int he])), (q1, .inl (cU, 64, .inl fU)), (q2, .inl (cV, 64, .inl fB)), (q3, .inl (cZ, 64, .inl fH))] t.heap ∧ va_K (dC, dI) vwCl [(cU, .int), (cV, .int), (cZ, .boolean)] t ∧ va_D A [(a1, .inr (1, [.ref q1, .ref q2, .ref q3, .int nx, .int mn, .int ed, .int th', .int he])), (q1, .inl (cU, 64, .inl fU)), (q2, .inl (cV, 64, .inl fB)), (q3, .inl (cZ, 64, .inl fH))]) A) ([.ref a1, .int i, .int b] : List Value).toArray s 0 0 A) (F0 m 39 ls []) := by
            intro cnt
            induction cnt with
            | zero =>
              intro j z9 hj h1 h2 H locs ls hP hD hS hl
              refine lv_iload_n hx hb dX1_block_39 rfl (lv_at hl 1 rfl) ?_
              refine lv_iload hx hb dX1_block_40 (lv_at hl 0 rfl) ?_
              refine lv_iadd hx hb dX1_block_42 ?_
              refine lv_bipush (v := 64) hx hb dX1_block_43 (by decide) ?_
              refine lv_icmp_ge (tgt := 66) hx hb dX1_block_45 (by decide) (fun c_45 => ?_) (fun c_45 => ?_)
              · refine lv_iload_n hx hb dX1_block_66 rfl (lv_at hl 4 rfl) ?_
                refine lv_if_eq (tgt := 75) hx hb dX1_block_67 (by decide) (fun c_67 => ?_) (fun c_67 => ?_)
                · refine lv_aload_n hx hb dX1_block_75 rfl (lv_at hl 2 rfl) ?_
                  refine va_get (D := (dC, dI)) (ci := 1) (v := .int nx) (C := RX1) (T := TX1) (N := 8) hx hb hts hi_1 hown hK hP 0 rfl rfl 3 (by decide) (hts (.fieldLink RX1 24 "SegmentBoxModel" "next" "I") (by decide +kernel)) (fun _ h9 => h9) rfl dX1_block_76 ?_
                  refine lv_iload_n hx hb dX1_block_79 rfl (lv_at hl 1 rfl) ?_
                  refine lv_iadd hx hb dX1_block_80 ?_
                  exact W.iret (v := nx + (nI k)) hx hb hr (fun t ht hW => ⟨⟨nx + (nI k), 0, rfl, Or.inr ⟨rfl, i0, k, hi, hi0, k1, k3, k4, Or.inl ⟨c_67, rfl⟩⟩, by rw [ht]; exact hP, va_K.moved hW.alike hK, hD⟩, hS.F ht⟩) hS.2.2 dX1_block_81
                · refine lv_iload hx hb dX1_block_70 (lv_at hl 0 rfl) ?_
                  refine lv_goto (tgt := 81) hx hb dX1_block_72 (by decide) ?_
                  exact W.iret (v := z9) hx hb hr (fun t ht hW => ⟨⟨z9, 0, rfl, Or.inr ⟨rfl, i0, k, hi, hi0, k1, k3, k4, Or.inr ⟨c_67, j, h1, by omega, h2, fun q => absurd q (by omega)⟩⟩, by rw [ht]; exact hP, va_K.moved hW.alike hK, hD⟩, hS.F ht⟩) hS.2.2 dX1_block_81
              · exact absurd ((ge64 (show nI k + z9 = nI (k + j) by rw [h1, nI_add]) (by omega)).mpr (by omega)) c_45
            | succ cnt ih =>
              intro j z9 hj h1 h2 H locs ls hP hD hS hl
              refine lv_iload_n hx hb dX1_block_39 rfl (lv_at hl 1 rfl) ?_
              refine lv_iload hx hb dX1_block_40 (lv_at hl 0 rfl) ?_
              refine lv_iadd hx hb dX1_block_42 ?_
              refine lv_bipush (v := 64) hx hb dX1_block_43 (by decide) ?_
              refine lv_icmp_ge (tgt := 66) hx hb dX1_block_45 (by decide) (fun c_45 => ?_) (fun c_45 => ?_)
              · exact absurd ((ge64 (show nI k + z9 = nI (k + j) by rw [h1, nI_add]) (by omega)).mp c_45) (by omega)
              · refine lv_aload_n hx hb dX1_block_48 rfl (lv_at hl 2 rfl) ?_
                refine va_get (D := (dC, dI)) (ci := 1) (v := .ref q3) (C := RX1) (T := TX1) (N := 8) hx hb hts hi_1 hown hK hP 0 rfl rfl 2 (by decide) (hts (.fieldLink RX1 16 "SegmentBoxModel" "isHeld" "[Z") (by decide +kernel)) (fun _ h9 => h9) rfl dX1_block_49 ?_
                refine lv_iload_n hx hb dX1_block_52 rfl (lv_at hl 1 rfl) ?_
                refine lv_iload hx hb dX1_block_53 (lv_at hl 0 rfl) ?_
                refine lv_iadd hx hb dX1_block_55 ?_
                refine va_zald hx hb hK hP 3 2 rfl rfl (inb_of (show nI k + z9 = nI (k + j) by rw [h1, nI_add]) (by omega)) dX1_block_56 ?_
                refine lv_if_eq (tgt := 66) hx hb dX1_block_57 (by decide) (fun c_57 => ?_) (fun c_57 => ?_)
                · refine lv_iload_n hx hb dX1_block_66 rfl (lv_at hl 4 rfl) ?_
                  refine lv_if_eq (tgt := 75) hx hb dX1_block_67 (by decide) (fun c_67 => ?_) (fun c_67 => ?_)
                  · refine lv_aload_n hx hb dX1_block_75 rfl (lv_at hl 2 rfl) ?_
                    refine va_get (D := (dC, dI)) (ci := 1) (v := .int nx) (C := RX1) (T := TX1) (N := 8) hx hb hts hi_1 hown hK hP 0 rfl rfl 3 (by decide) (hts (.fieldLink RX1 24 "SegmentBoxModel" "next" "I") (by decide +kernel)) (fun _ h9 => h9) rfl dX1_block_76 ?_
                    refine lv_iload_n hx hb dX1_block_79 rfl (lv_at hl 1 rfl) ?_
                    refine lv_iadd hx hb dX1_block_80 ?_
                    exact W.iret (v := nx + (nI k)) hx hb hr (fun t ht hW => ⟨⟨nx + (nI k), 0, rfl, Or.inr ⟨rfl, i0, k, hi, hi0, k1, k3, k4, Or.inl ⟨c_67, rfl⟩⟩, by rw [ht]; exact hP, va_K.moved hW.alike hK, hD⟩, hS.F ht⟩) hS.2.2 dX1_block_81
                  · refine lv_iload hx hb dX1_block_70 (lv_at hl 0 rfl) ?_
                    refine lv_goto (tgt := 81) hx hb dX1_block_72 (by decide) ?_
                    exact W.iret (v := z9) hx hb hr (fun t ht hW => ⟨⟨z9, 0, rfl, Or.inr ⟨rfl, i0, k, hi, hi0, k1, k3, k4, Or.inr ⟨c_67, j, h1, by omega, h2, fun q => pH_f (by rw [← cl_of (show nI k + z9 = nI (k + j) by rw [h1, nI_add]) (by omega)]; exact c_57)⟩⟩, by rw [ht]; exact hP, va_K.moved hW.alike hK, hD⟩, hS.F ht⟩) hS.2.2 dX1_block_81
                · obtain ⟨x_3, ex_3⟩ : ∃ y : Int32, y = z9 + 1 := ⟨_, rfl⟩
                  refine lv_iinc (v := x_3) (lv' := [(4, .int x_3), (3, .int (nI k)), (0, .ref a1), (1, .int i), (2, .int b)]) hx hb dX1_block_60 hl (k := 0) rfl (by rw [ex_3]; rfl) (by decide) rfl (fun ls hl => ?_)
                  refine lv_goto (tgt := 39) hx hb dX1_block_63 (by decide) ?_
                  exact ih (j + 1) x_3 (by omega) (by rw [ex_3, h1, nI_succ]) (fun i hi => by
                    by_cases q : i = j
                    · rw [q]; exact pH_t (by rw [← cl_of (show nI k + z9 = nI (k + j) by rw [h1, nI_add]) (by omega)]; exact c_57)
                    · exact h2 i (by omega)) H locs ls hP hD hS (lv_sub hl [0, 1, 2, 3, 4] rfl)
          exact loop (64 - k) 0 0 (by omega) nI_0.symm (fun i hi => absurd hi (by omega)) H _ ls hP hD hS (lv_sub hl [0, 1, 2, 3, 4] rfl)
        · exact absurd (by decide) c_34
      · exact absurd (nI_pos' (by omega)) c_19
    · subst k2
      refine lv_istore_n (lv' := [(3, .int (-1)), (0, .ref a1), (1, .int i), (2, .int b)]) hx hb dX1_block_13 rfl hl (by decide) rfl (fun ls hl => ?_)
      refine lv_iconst (v := 0) hx hb dX1_block_14 (by decide) ?_
      refine lv_istore (lv' := [(4, .int 0), (3, .int (-1)), (0, .ref a1), (1, .int i), (2, .int b)]) hx hb dX1_block_15 hl (by decide) rfl (fun ls hl => ?_)
      refine lv_aload_n hx hb dX1_block_17 rfl (lv_at hl 2 rfl) ?_
      refine lv_iload_n hx hb dX1_block_18 rfl (lv_at hl 1 rfl) ?_
      refine lv_if_ge (tgt := 26) hx hb dX1_block_19 (by decide) (fun c_19 => ?_) (fun c_19 => ?_)
      · exact absurd c_19 (by decide)
      · refine lv_iconst (v := 1) hx hb dX1_block_22 (by decide) ?_
        refine lv_goto (tgt := 27) hx hb dX1_block_23 (by decide) ?_
        refine va_put (D := (dC, dI)) (ci := 1) (v := .int 1) (ty := .int) (C := RX1) (T := TX1) (N := 8) hx hb hts hi_1 tyX1 tyX1_ok nmX1 hown hK hP hD hS 0 rfl rfl 6 (by decide) (hts (.fieldLink RX1 20 "SegmentBoxModel" "thrown" "I") (by decide +kernel)) (fun _ h9 => h9) rfl (by decide +kernel) rfl rfl (Nat.le_of_ble_eq_true rfl) dX1_block_27 (fun H locs hP hD hS => ?_)
        have hP : va_P (dC, dI) vwCl [(a1, .inr (1, [.ref q1, .ref q2, .ref q3, .int nx, .int mn, .int ed, .int 1, .int he])), (q1, .inl (cU, 64, .inl fU)), (q2, .inl (cV, 64, .inl fB)), (q3, .inl (cZ, 64, .inl fH))] H := hP
        have hD : va_D A [(a1, .inr (1, [.ref q1, .ref q2, .ref q3, .int nx, .int mn, .int ed, .int 1, .int he])), (q1, .inl (cU, 64, .inl fU)), (q2, .inl (cV, 64, .inl fB)), (q3, .inl (cZ, 64, .inl fH))] := hD
        refine lv_aload_n hx hb dX1_block_30 rfl (lv_at hl 2 rfl) ?_
        refine va_get (D := (dC, dI)) (ci := 1) (v := .int 1) (C := RX1) (T := TX1) (N := 8) hx hb hts hi_1 hown hK hP 0 rfl rfl 6 (by decide) (hts (.fieldLink RX1 20 "SegmentBoxModel" "thrown" "I") (by decide +kernel)) (fun _ h9 => h9) rfl dX1_block_31 ?_
        refine lv_if_le (tgt := 39) hx hb dX1_block_34 (by decide) (fun c_34 => ?_) (fun c_34 => ?_)
        · exact absurd c_34 (by decide)
        · refine lv_iconst (v := 0) hx hb dX1_block_37 (by decide) ?_
          exact W.iret (v := 0) hx hb hr (fun t ht hW => ⟨⟨0, 1, rfl, Or.inl ⟨rfl, Or.inr ⟨i0, hi, hi0, k3⟩⟩, by rw [ht]; exact hP, va_K.moved hW.alike hK, hD⟩, hS.F ht⟩) hS.2.2 dX1_block_38
  · refine lv_iconst (v := -1) hx hb dX1_block_4 (by decide) ?_
    refine lv_goto (tgt := 13) hx hb dX1_block_5 (by decide) ?_
    refine lv_istore_n (lv' := [(3, .int (-1)), (0, .ref a1), (1, .int i), (2, .int b)]) hx hb dX1_block_13 rfl hl (by decide) rfl (fun ls hl => ?_)
    refine lv_iconst (v := 0) hx hb dX1_block_14 (by decide) ?_
    refine lv_istore (lv' := [(4, .int 0), (3, .int (-1)), (0, .ref a1), (1, .int i), (2, .int b)]) hx hb dX1_block_15 hl (by decide) rfl (fun ls hl => ?_)
    refine lv_aload_n hx hb dX1_block_17 rfl (lv_at hl 2 rfl) ?_
    refine lv_iload_n hx hb dX1_block_18 rfl (lv_at hl 1 rfl) ?_
    refine lv_if_ge (tgt := 26) hx hb dX1_block_19 (by decide) (fun c_19 => ?_) (fun c_19 => ?_)
    · exact absurd c_19 (by decide)
    · refine lv_iconst (v := 1) hx hb dX1_block_22 (by decide) ?_
      refine lv_goto (tgt := 27) hx hb dX1_block_23 (by decide) ?_
      refine va_put (D := (dC, dI)) (ci := 1) (v := .int 1) (ty := .int) (C := RX1) (T := TX1) (N := 8) hx hb hts hi_1 tyX1 tyX1_ok nmX1 hown hK hP hD hS 0 rfl rfl 6 (by decide) (hts (.fieldLink RX1 20 "SegmentBoxModel" "thrown" "I") (by decide +kernel)) (fun _ h9 => h9) rfl (by decide +kernel) rfl rfl (Nat.le_of_ble_eq_true rfl) dX1_block_27 (fun H locs hP hD hS => ?_)
      have hP : va_P (dC, dI) vwCl [(a1, .inr (1, [.ref q1, .ref q2, .ref q3, .int nx, .int mn, .int ed, .int 1, .int he])), (q1, .inl (cU, 64, .inl fU)), (q2, .inl (cV, 64, .inl fB)), (q3, .inl (cZ, 64, .inl fH))] H := hP
      have hD : va_D A [(a1, .inr (1, [.ref q1, .ref q2, .ref q3, .int nx, .int mn, .int ed, .int 1, .int he])), (q1, .inl (cU, 64, .inl fU)), (q2, .inl (cV, 64, .inl fB)), (q3, .inl (cZ, 64, .inl fH))] := hD
      refine lv_aload_n hx hb dX1_block_30 rfl (lv_at hl 2 rfl) ?_
      refine va_get (D := (dC, dI)) (ci := 1) (v := .int 1) (C := RX1) (T := TX1) (N := 8) hx hb hts hi_1 hown hK hP 0 rfl rfl 6 (by decide) (hts (.fieldLink RX1 20 "SegmentBoxModel" "thrown" "I") (by decide +kernel)) (fun _ h9 => h9) rfl dX1_block_31 ?_
      refine lv_if_le (tgt := 39) hx hb dX1_block_34 (by decide) (fun c_34 => ?_) (fun c_34 => ?_)
      · exact absurd c_34 (by decide)
      · refine lv_iconst (v := 0) hx hb dX1_block_37 (by decide) ?_
        exact W.iret (v := 0) hx hb hr (fun t ht hW => ⟨⟨0, 1, rfl, Or.inl ⟨rfl, Or.inl (Int32.not_le.mp c_1)⟩, by rw [ht]; exact hP, va_K.moved hW.alike hK, hD⟩, hS.F ht⟩) hS.2.2 dX1_block_38
