set_option maxHeartbeats 4000000 in
set_option maxRecDepth 100000 in
theorem c_moveOn (l : Launch) (dC : Nat → ClassId) (dI : Nat → Nat → Nat) (h0 qb : Nat) (cB : ClassId) (kb : Int64) (nx un ek en : Int32) (fb : Nat → Int32) (sz : Nat)  : Met l yX0_moveOn wsX0_moveOn ({ frames := 0, cells := 0, slots := 0, locals := 0 }) (va_Pc [.ref h0] (fun U => U.heap.size = sz ∧ va_P (dC, dI) vwCl [(h0, .inr (0, [.ref qb, .long kb, .int nx, .int un, .int ek, .int en])), (qb, .inl (cB, 64, .inl fb))] U.heap ∧ va_K (dC, dI) vwCl [(cB, .byte)] U ∧ va_D (fun _ => True) [(h0, .inr (0, [.ref qb, .long kb, .int nx, .int un, .int ek, .int en])), (qb, .inl (cB, 64, .inl fb))])) (va_Qi (fun (r : Int32) (u : Int64 × Int32 × Int32) => match u with | (kb', nx', un') => ∃ j : Nat, j ≤ 64 ∧ (∀ i, i < j → sg_b kb i = true) ∧ (j < 64 → sg_b kb j = false) ∧ uN kb' = uN kb / 2 ^ j ∧ r = nI j ∧ nx' = nx + nI j ∧ un' = un + nI j) (fun (u : Int64 × Int32 × Int32) (t : State) => match u with | (kb', nx', un') => va_P (dC, dI) vwCl [(h0, .inr (0, [.ref qb, .long kb', .int nx', .int un', .int ek, .int en])), (qb, .inl (cB, 64, .inl fb))] t.heap ∧ va_K (dC, dI) vwCl [(cB, .byte)] t ∧ va_D (va_A [(h0, .inr (0, [.ref qb, .long kb, .int nx, .int un, .int ek, .int en])), (qb, .inl (cB, 64, .inl fb))] sz) [(h0, .inr (0, [.ref qb, .long kb', .int nx', .int un', .int ek, .int en])), (qb, .inl (cB, 64, .inl fb))]) (va_A [(h0, .inr (0, [.ref qb, .long kb, .int nx, .int un, .int ek, .int en])), (qb, .inl (cB, 64, .inl fb))] sz)) 0 0 (va_A [(h0, .inr (0, [.ref qb, .long kb, .int nx, .int un, .int ek, .int en])), (qb, .inl (cB, 64, .inl fb))] sz) := by
  refine Met.ofW (cc := cX0_moveOn) (maxL := 2) (ret := (some .int)) (by decide) rfl ?_
  intro p e s m args below meth c s₁ B hml hv
  obtain ⟨rfl, hsz, hP, hK, hD0⟩ := hv
  have hx := B.exec
  have hb := B.bytes
  have hr := B.returns
  have hts := atoms_spec (ws := wsX0_moveOn) B.pre
  have hown : s.vm.findClass RX0 = some m.cls := findClass_of_methodNamed B.named
  have hlocks := B.notSynchronized
  subst hsz
  have hD := hD0.self (sz := s.heap.size)
  generalize hAe : va_A [(h0, .inr (0, [.ref qb, .long kb, .int nx, .int un, .int ek, .int en])), (qb, .inl (cB, 64, .inl fb))] s.heap.size = A at hD ⊢
  have hA : ∀ q : Nat, s.heap.size ≤ q → A q := fun q h => by rw [← hAe]; exact Or.inr h
  have hS : va_S A s.heap s.heap [] := va_S.rf
  have hP : va_P (dC, dI) vwCl [(h0, .inr (0, [.ref qb, .long kb, .int nx, .int un, .int ek, .int en])), (qb, .inl (cB, 64, .inl fb))] s.heap := hP
  have hl := lv_entry ([.ref h0]) (n := 2) (Nat.le_of_ble_eq_true rfl)
  rw [lg_entry_eq]
  generalize (lg_sl ([.ref h0]) ++ List.replicate (2 - (lg_sl ([.ref h0])).length) Slot.unset).toArray = ls at hl ⊢
  have hl : lv_has ls 2 [(0, .ref h0)] := hl
  have hi_0 : ∀ w ∈ u_ws RX0 TX0 6, w ∈ wsX0_moveOn := by decide +kernel
  have loop : ∀ (n j : Nat) (k9 : Int64) (x9 y9 z9 : Int32), j + n = 64 → (∀ i, i < j → sg_b kb i = true) → uN k9 = uN kb / 2 ^ j → x9 = nx + nI j → y9 = un + nI j → z9 = nI j → ∀ (H : Heap) (locs : List Loc) (ls : Array Slot), va_P (dC, dI) vwCl [(h0, .inr (0, [.ref qb, .long k9, .int x9, .int y9, .int ek, .int en])), (qb, .inl (cB, 64, .inl fb))] H → va_D A [(h0, .inr (0, [.ref qb, .long k9, .int x9, .int y9, .int ek, .int en])), (qb, .inl (cB, 64, .inl fb))] → va_S A s.heap H locs → lv_has ls 2 [(1, .int z9), (0, .ref h0)] → W p l e (headSpec wsX0_moveOn ({ frames := 0, cells := 0, slots := 0, locals := 0 })).room s m ([.ref h0] : List Value).toArray below meth c H locs 0 0 (MQ below (va_Qi (fun (r : Int32) (u : Int64 × Int32 × Int32) => match u with | (kb', nx', un') => ∃ j : Nat, j ≤ 64 ∧ (∀ i, i < j → sg_b kb i = true) ∧ (j < 64 → sg_b kb j = false) ∧ uN kb' = uN kb / 2 ^ j ∧ r = nI j ∧ nx' = nx + nI j ∧ un' = un + nI j) (fun (u : Int64 × Int32 × Int32) (t : State) => match u with | (kb', nx', un') => va_P (dC, dI) vwCl [(h0, .inr (0, [.ref qb, .long kb', .int nx', .int un', .int ek, .int en])), (qb, .inl (cB, 64, .inl fb))] t.heap ∧ va_K (dC, dI) vwCl [(cB, .byte)] t ∧ va_D A [(h0, .inr (0, [.ref qb, .long kb', .int nx', .int un', .int ek, .int en])), (qb, .inl (cB, 64, .inl fb))]) A) ([.ref h0] : List Value).toArray s 0 0 A) (F0 m 2 ls []) := by
    intro n
    induction n with
    | zero =>
      intro j k9 x9 y9 z9 hj h1 h2 h3 h4 h5 H locs ls hP hD hS hl
      refine lv_iload_n hx hb dX0_moveOn_2 rfl (lv_at hl 0 rfl) ?_
      refine lv_bipush (v := 64) hx hb dX0_moveOn_3 (by decide) ?_
      refine lv_icmp_ge (tgt := 55) hx hb dX0_moveOn_5 (by decide) (fun c_5 => ?_) (fun c_5 => ?_)
      · refine lv_iload_n hx hb dX0_moveOn_55 rfl (lv_at hl 0 rfl) ?_
        exact W.iret (v := z9) hx hb hr (fun t ht hW => ⟨⟨z9, (k9, x9, y9), rfl, ⟨j, by omega, h1, fun q => by omega, h2, h5, h3, h4⟩, by rw [ht]; exact hP, va_K.moved hW.alike hK, hD⟩, hS.F ht⟩) hS.2.2 dX0_moveOn_56
      · exact absurd ((ge64 h5 (by omega)).mpr (by omega)) c_5
    | succ n ih =>
      intro j k9 x9 y9 z9 hj h1 h2 h3 h4 h5 H locs ls hP hD hS hl
      refine lv_iload_n hx hb dX0_moveOn_2 rfl (lv_at hl 0 rfl) ?_
      refine lv_bipush (v := 64) hx hb dX0_moveOn_3 (by decide) ?_
      refine lv_icmp_ge (tgt := 55) hx hb dX0_moveOn_5 (by decide) (fun c_5 => ?_) (fun c_5 => ?_)
      · exact absurd ((ge64 h5 (by omega)).mp c_5) (by omega)
      · refine lv_aload_n hx hb dX0_moveOn_8 rfl (lv_at hl 1 rfl) ?_
        refine va_get (D := (dC, dI)) (ci := 0) (v := .long k9) (C := RX0) (T := TX0) (N := 6) hx hb hts hi_0 hown hK hP 0 rfl rfl 1 (by decide) (hts (.fieldLink RX0 13 "SegmentBox" "heldBits" "J") (by decide +kernel)) (fun _ h9 => h9) rfl dX0_moveOn_9 ?_
        refine lv_lconst (v := 1) hx hb dX0_moveOn_12 rfl ?_
        refine lv_land hx hb dX0_moveOn_13 ?_
        refine lv_lconst (v := 0) hx hb dX0_moveOn_14 rfl ?_
        refine W.lcmp hx hb dX0_moveOn_15 ?_
        refine lv_if_eq (tgt := 55) hx hb dX0_moveOn_16 (by decide) (fun c_16 => ?_) (fun c_16 => ?_)
        · refine lv_iload_n hx hb dX0_moveOn_55 rfl (lv_at hl 0 rfl) ?_
          exact W.iret (v := z9) hx hb hr (fun t ht hW => ⟨⟨z9, (k9, x9, y9), rfl, ⟨j, by omega, h1, fun _ => by have q := (sg_b_bit k9).mp (lcmp0 c_16); rw [sg_bj h2] at q; exact q, h2, h5, h3, h4⟩, by rw [ht]; exact hP, va_K.moved hW.alike hK, hD⟩, hS.F ht⟩) hS.2.2 dX0_moveOn_56
        · refine lv_aload_n hx hb dX0_moveOn_19 rfl (lv_at hl 1 rfl) ?_
          refine lv_dup hx hb dX0_moveOn_20 rfl ?_
          refine va_get (D := (dC, dI)) (ci := 0) (v := .long k9) (C := RX0) (T := TX0) (N := 6) hx hb hts hi_0 hown hK hP 0 rfl rfl 1 (by decide) (hts (.fieldLink RX0 13 "SegmentBox" "heldBits" "J") (by decide +kernel)) (fun _ h9 => h9) rfl dX0_moveOn_21 ?_
          refine lv_iconst (v := 1) hx hb dX0_moveOn_24 (by decide) ?_
          refine lv_lushr (v := g_sh k9 1) hx hb dX0_moveOn_25 rfl ?_
          refine lv_topl (fun f_1 ef_1 => ?_)
          refine va_put (D := (dC, dI)) (ci := 0) (v := .long f_1) (ty := .long) (C := RX0) (T := TX0) (N := 6) hx hb hts hi_0 tyX0 tyX0_ok nmX0 hown hK hP hD hS 0 rfl rfl 1 (by decide) (hts (.fieldLink RX0 13 "SegmentBox" "heldBits" "J") (by decide +kernel)) (fun _ h9 => h9) rfl (by decide +kernel) rfl rfl (Nat.le_of_ble_eq_true rfl) dX0_moveOn_26 (fun H locs hP hD hS => ?_)
          have hP : va_P (dC, dI) vwCl [(h0, .inr (0, [.ref qb, .long f_1, .int x9, .int y9, .int ek, .int en])), (qb, .inl (cB, 64, .inl fb))] H := hP
          have hD : va_D A [(h0, .inr (0, [.ref qb, .long f_1, .int x9, .int y9, .int ek, .int en])), (qb, .inl (cB, 64, .inl fb))] := hD
          refine lv_aload_n hx hb dX0_moveOn_29 rfl (lv_at hl 1 rfl) ?_
          refine lv_dup hx hb dX0_moveOn_30 rfl ?_
          refine va_get (D := (dC, dI)) (ci := 0) (v := .int x9) (C := RX0) (T := TX0) (N := 6) hx hb hts hi_0 hown hK hP 0 rfl rfl 2 (by decide) (hts (.fieldLink RX0 17 "SegmentBox" "next" "I") (by decide +kernel)) (fun _ h9 => h9) rfl dX0_moveOn_31 ?_
          refine lv_iconst (v := 1) hx hb dX0_moveOn_34 (by decide) ?_
          refine lv_iadd hx hb dX0_moveOn_35 ?_
          refine lv_topi (fun f_2 ef_2 => ?_)
          refine va_put (D := (dC, dI)) (ci := 0) (v := .int f_2) (ty := .int) (C := RX0) (T := TX0) (N := 6) hx hb hts hi_0 tyX0 tyX0_ok nmX0 hown hK hP hD hS 0 rfl rfl 2 (by decide) (hts (.fieldLink RX0 17 "SegmentBox" "next" "I") (by decide +kernel)) (fun _ h9 => h9) rfl (by decide +kernel) rfl rfl (Nat.le_of_ble_eq_true rfl) dX0_moveOn_36 (fun H locs hP hD hS => ?_)
          have hP : va_P (dC, dI) vwCl [(h0, .inr (0, [.ref qb, .long f_1, .int f_2, .int y9, .int ek, .int en])), (qb, .inl (cB, 64, .inl fb))] H := hP
          have hD : va_D A [(h0, .inr (0, [.ref qb, .long f_1, .int f_2, .int y9, .int ek, .int en])), (qb, .inl (cB, 64, .inl fb))] := hD
          refine lv_aload_n hx hb dX0_moveOn_39 rfl (lv_at hl 1 rfl) ?_
          refine lv_dup hx hb dX0_moveOn_40 rfl ?_
          refine va_get (D := (dC, dI)) (ci := 0) (v := .int y9) (C := RX0) (T := TX0) (N := 6) hx hb hts hi_0 hown hK hP 0 rfl rfl 3 (by decide) (hts (.fieldLink RX0 21 "SegmentBox" "unread" "I") (by decide +kernel)) (fun _ h9 => h9) rfl dX0_moveOn_41 ?_
          refine lv_iconst (v := 1) hx hb dX0_moveOn_44 (by decide) ?_
          refine lv_iadd hx hb dX0_moveOn_45 ?_
          refine lv_topi (fun f_3 ef_3 => ?_)
          refine va_put (D := (dC, dI)) (ci := 0) (v := .int f_3) (ty := .int) (C := RX0) (T := TX0) (N := 6) hx hb hts hi_0 tyX0 tyX0_ok nmX0 hown hK hP hD hS 0 rfl rfl 3 (by decide) (hts (.fieldLink RX0 21 "SegmentBox" "unread" "I") (by decide +kernel)) (fun _ h9 => h9) rfl (by decide +kernel) rfl rfl (Nat.le_of_ble_eq_true rfl) dX0_moveOn_46 (fun H locs hP hD hS => ?_)
          have hP : va_P (dC, dI) vwCl [(h0, .inr (0, [.ref qb, .long f_1, .int f_2, .int f_3, .int ek, .int en])), (qb, .inl (cB, 64, .inl fb))] H := hP
          have hD : va_D A [(h0, .inr (0, [.ref qb, .long f_1, .int f_2, .int f_3, .int ek, .int en])), (qb, .inl (cB, 64, .inl fb))] := hD
          obtain ⟨x_4, ex_4⟩ : ∃ y : Int32, y = z9 + 1 := ⟨_, rfl⟩
          refine lv_iinc (v := x_4) (lv' := [(1, .int x_4), (0, .ref h0)]) hx hb dX0_moveOn_49 hl (k := 0) rfl (by rw [ex_4]; rfl) (by decide) rfl (fun ls hl => ?_)
          refine lv_goto (tgt := 2) hx hb dX0_moveOn_52 (by decide) ?_
          exact ih (j + 1) f_1 f_2 f_3 x_4 (by omega) (fun i hi => by
            by_cases q : i = j
            · rw [q, ← Nat.add_zero j, ← sg_bj h2]; cases w : sg_b k9 0 with
              | true => rfl
              | false => exact absurd (by rw [(sg_b_bit k9).mpr w]; rfl) c_16
            · exact h1 i (by omega)) (by rw [ef_1]; exact sg_div h2) (by rw [ef_2, h3, nI_succ, Int32.add_assoc]) (by rw [ef_3, h4, nI_succ, Int32.add_assoc]) (by rw [ex_4, h5, nI_succ]) H locs ls hP hD hS (lv_sub hl [0, 1] rfl)
  refine lv_iconst (v := 0) hx hb dX0_moveOn_0 (by decide) ?_
  refine lv_istore_n (lv' := [(1, .int 0), (0, .ref h0)]) hx hb dX0_moveOn_1 rfl hl (by decide) rfl (fun ls hl => ?_)
  exact loop 64 0 kb nx un 0 (by omega) (fun i hi => absurd hi (by omega)) (by rw [Nat.pow_zero, Nat.div_one]) (by rw [nI_0, Int32.add_zero]) (by rw [nI_0, Int32.add_zero]) nI_0.symm s.heap [] ls hP hD hS (lv_sub hl [0, 1] rfl)
