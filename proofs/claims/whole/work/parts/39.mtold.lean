set_option maxHeartbeats 4000000 in
set_option maxRecDepth 100000 in
theorem m_told (l : Launch) (dC : Nat → ClassId) (dI : Nat → Nat → Nat) (a1 q1 q2 q3 : Nat) (cU cV cZ : ClassId) (nx mn ed th he : Int32) (fU fB fH : Nat → Int32) (n : Int32) (sz : Nat)  : Met l yX1_told wsX1_told ({ frames := 1, cells := 0, slots := 0, locals := 23 }) (va_Pc [.ref a1, .int n] (fun U => U.heap.size = sz ∧ va_P (dC, dI) vwCl [(a1, .inr (1, [.ref q1, .ref q2, .ref q3, .int nx, .int mn, .int ed, .int th, .int he])), (q1, .inl (cU, 64, .inl fU)), (q2, .inl (cV, 64, .inl fB)), (q3, .inl (cZ, 64, .inl fH))] U.heap ∧ va_K (dC, dI) vwCl [(cU, .int), (cV, .int), (cZ, .boolean)] U ∧ va_D (fun _ => True) [(a1, .inr (1, [.ref q1, .ref q2, .ref q3, .int nx, .int mn, .int ed, .int th, .int he])), (q1, .inl (cU, 64, .inl fU)), (q2, .inl (cV, 64, .inl fB)), (q3, .inl (cZ, 64, .inl fH))])) (va_Qi (fun (r : Int32) (u0 : Int32) => match u0 with | th' => ((n < 0 ∨ 5 < n) ∧ th' = 1) ∨ (th' = 0 ∧ ((n = 0 ∧ r = nx) ∨ (n = 1 ∧ r = 64 - mn) ∨ (n = 2 ∧ r = mn) ∨ (n = 3 ∧ r = nI (sg_c (pH fH) 64)) ∨ (n = 4 ∧ r = nI (sg_c (st (pH fH)) 64)) ∨ (n = 5 ∧ r = (if he = 0 then 0 else 1))))) (fun (u0 : Int32) (t : State) => match u0 with | th' => va_P (dC, dI) vwCl [(a1, .inr (1, [.ref q1, .ref q2, .ref q3, .int nx, .int mn, .int ed, .int th', .int he])), (q1, .inl (cU, 64, .inl fU)), (q2, .inl (cV, 64, .inl fB)), (q3, .inl (cZ, 64, .inl fH))] t.heap ∧ va_K (dC, dI) vwCl [(cU, .int), (cV, .int), (cZ, .boolean)] t ∧ va_D (va_A [(a1, .inr (1, [.ref q1, .ref q2, .ref q3, .int nx, .int mn, .int ed, .int th, .int he])), (q1, .inl (cU, 64, .inl fU)), (q2, .inl (cV, 64, .inl fB)), (q3, .inl (cZ, 64, .inl fH))] sz) [(a1, .inr (1, [.ref q1, .ref q2, .ref q3, .int nx, .int mn, .int ed, .int th', .int he])), (q1, .inl (cU, 64, .inl fU)), (q2, .inl (cV, 64, .inl fB)), (q3, .inl (cZ, 64, .inl fH))]) (va_A [(a1, .inr (1, [.ref q1, .ref q2, .ref q3, .int nx, .int mn, .int ed, .int th, .int he])), (q1, .inl (cU, 64, .inl fU)), (q2, .inl (cV, 64, .inl fB)), (q3, .inl (cZ, 64, .inl fH))] sz)) 0 0 (va_A [(a1, .inr (1, [.ref q1, .ref q2, .ref q3, .int nx, .int mn, .int ed, .int th, .int he])), (q1, .inl (cU, 64, .inl fU)), (q2, .inl (cV, 64, .inl fB)), (q3, .inl (cZ, 64, .inl fH))] sz) := by
  refine Met.ofW (cc := cX1_told) (maxL := 4) (ret := (some .int)) (by decide) rfl ?_
  intro p e s m args below meth c s₁ B hml hv
  obtain ⟨rfl, hsz, hP, hK, hD0⟩ := hv
  have hx := B.exec
  have hb := B.bytes
  have hr := B.returns
  have hts := atoms_spec (ws := wsX1_told) B.pre
  have hown : s.vm.findClass RX1 = some m.cls := findClass_of_methodNamed B.named
  have hlocks := B.notSynchronized
  subst hsz
  have hD := hD0.self (sz := s.heap.size)
  generalize hAe : va_A [(a1, .inr (1, [.ref q1, .ref q2, .ref q3, .int nx, .int mn, .int ed, .int th, .int he])), (q1, .inl (cU, 64, .inl fU)), (q2, .inl (cV, 64, .inl fB)), (q3, .inl (cZ, 64, .inl fH))] s.heap.size = A at hD ⊢
  have hA : ∀ q : Nat, s.heap.size ≤ q → A q := fun q h => by rw [← hAe]; exact Or.inr h
  have hS : va_S A s.heap s.heap [] := va_S.rf
  have hP : va_P (dC, dI) vwCl [(a1, .inr (1, [.ref q1, .ref q2, .ref q3, .int nx, .int mn, .int ed, .int th, .int he])), (q1, .inl (cU, 64, .inl fU)), (q2, .inl (cV, 64, .inl fB)), (q3, .inl (cZ, 64, .inl fH))] s.heap := hP
  have hl := lv_entry ([.ref a1, .int n]) (n := 4) (Nat.le_of_ble_eq_true rfl)
  rw [lg_entry_eq]
  generalize (lg_sl ([.ref a1, .int n]) ++ List.replicate (4 - (lg_sl ([.ref a1, .int n])).length) Slot.unset).toArray = ls at hl ⊢
  have hl : lv_has ls 4 [(0, .ref a1), (1, .int n)] := hl
  have hi_1 : ∀ w ∈ u_ws RX1 TX1 8, w ∈ wsX1_told := by decide +kernel
  refine lv_aload_n hx hb dX1_told_0 rfl (lv_at hl 0 rfl) ?_
  refine lv_iload_n hx hb dX1_told_1 rfl (lv_at hl 1 rfl) ?_
  refine lv_if_lt (tgt := 10) hx hb dX1_told_2 (by decide) (fun c_2 => ?_) (fun c_2 => ?_)
  · refine lv_iconst (v := 1) hx hb dX1_told_10 (by decide) ?_
    refine lv_goto (tgt := 15) hx hb dX1_told_11 (by decide) ?_
    refine va_put (D := (dC, dI)) (ci := 1) (v := .int 1) (ty := .int) (C := RX1) (T := TX1) (N := 8) hx hb hts hi_1 tyX1 tyX1_ok nmX1 hown hK hP hD hS 0 rfl rfl 6 (by decide) (hts (.fieldLink RX1 20 "SegmentBoxModel" "thrown" "I") (by decide +kernel)) (fun _ h9 => h9) rfl (by decide +kernel) rfl rfl (Nat.le_of_ble_eq_true rfl) dX1_told_15 (fun H locs hP hD hS => ?_)
    have hP : va_P (dC, dI) vwCl [(a1, .inr (1, [.ref q1, .ref q2, .ref q3, .int nx, .int mn, .int ed, .int 1, .int he])), (q1, .inl (cU, 64, .inl fU)), (q2, .inl (cV, 64, .inl fB)), (q3, .inl (cZ, 64, .inl fH))] H := hP
    have hD : va_D A [(a1, .inr (1, [.ref q1, .ref q2, .ref q3, .int nx, .int mn, .int ed, .int 1, .int he])), (q1, .inl (cU, 64, .inl fU)), (q2, .inl (cV, 64, .inl fB)), (q3, .inl (cZ, 64, .inl fH))] := hD
    refine lv_aload_n hx hb dX1_told_18 rfl (lv_at hl 0 rfl) ?_
    refine va_get (D := (dC, dI)) (ci := 1) (v := .int 1) (C := RX1) (T := TX1) (N := 8) hx hb hts hi_1 hown hK hP 0 rfl rfl 6 (by decide) (hts (.fieldLink RX1 20 "SegmentBoxModel" "thrown" "I") (by decide +kernel)) (fun _ h9 => h9) rfl dX1_told_19 ?_
    refine lv_if_le (tgt := 27) hx hb dX1_told_22 (by decide) (fun c_22 => ?_) (fun c_22 => ?_)
    · exact absurd c_22 (by decide)
    · refine lv_iconst (v := 0) hx hb dX1_told_25 (by decide) ?_
      exact W.iret (v := 0) hx hb hr (fun t ht hW => ⟨⟨0, 1, rfl, Or.inl ⟨Or.inl c_2, rfl⟩, by rw [ht]; exact hP, va_K.moved hW.alike hK, hD⟩, hS.F ht⟩) hS.2.2 dX1_told_26
  · refine lv_iload_n hx hb dX1_told_5 rfl (lv_at hl 1 rfl) ?_
    refine lv_iconst (v := 5) hx hb dX1_told_6 (by decide) ?_
    refine lv_icmp_le (tgt := 14) hx hb dX1_told_7 (by decide) (fun c_7 => ?_) (fun c_7 => ?_)
    · refine lv_iconst (v := 0) hx hb dX1_told_14 (by decide) ?_
      refine va_put (D := (dC, dI)) (ci := 1) (v := .int 0) (ty := .int) (C := RX1) (T := TX1) (N := 8) hx hb hts hi_1 tyX1 tyX1_ok nmX1 hown hK hP hD hS 0 rfl rfl 6 (by decide) (hts (.fieldLink RX1 20 "SegmentBoxModel" "thrown" "I") (by decide +kernel)) (fun _ h9 => h9) rfl (by decide +kernel) rfl rfl (Nat.le_of_ble_eq_true rfl) dX1_told_15 (fun H locs hP hD hS => ?_)
      have hP : va_P (dC, dI) vwCl [(a1, .inr (1, [.ref q1, .ref q2, .ref q3, .int nx, .int mn, .int ed, .int 0, .int he])), (q1, .inl (cU, 64, .inl fU)), (q2, .inl (cV, 64, .inl fB)), (q3, .inl (cZ, 64, .inl fH))] H := hP
      have hD : va_D A [(a1, .inr (1, [.ref q1, .ref q2, .ref q3, .int nx, .int mn, .int ed, .int 0, .int he])), (q1, .inl (cU, 64, .inl fU)), (q2, .inl (cV, 64, .inl fB)), (q3, .inl (cZ, 64, .inl fH))] := hD
      refine lv_aload_n hx hb dX1_told_18 rfl (lv_at hl 0 rfl) ?_
      refine va_get (D := (dC, dI)) (ci := 1) (v := .int 0) (C := RX1) (T := TX1) (N := 8) hx hb hts hi_1 hown hK hP 0 rfl rfl 6 (by decide) (hts (.fieldLink RX1 20 "SegmentBoxModel" "thrown" "I") (by decide +kernel)) (fun _ h9 => h9) rfl dX1_told_19 ?_
      refine lv_if_le (tgt := 27) hx hb dX1_told_22 (by decide) (fun c_22 => ?_) (fun c_22 => ?_)
      · refine lv_iconst (v := 0) hx hb dX1_told_27 (by decide) ?_
        refine lv_istore_n (lv' := [(2, .int 0), (0, .ref a1), (1, .int n)]) hx hb dX1_told_28 rfl hl (by decide) rfl (fun ls hl => ?_)
        refine lv_iload_n hx hb dX1_told_29 rfl (lv_at hl 2 rfl) ?_
        have c_lo : ¬ n.toInt < 0 := fun z => c_2 (Int32.lt_iff_toInt_lt.mpr z)
        have c_h5 : ¬ 5 < n.toInt := fun z => absurd (Int32.le_iff_toInt_le.mp c_7) (Int.not_le.mpr z)
        have hn6 := sw6 c_lo c_h5
        rcases hn6 with e6 | e6 | e6 | e6 | e6 | e6
        · refine lv_tableIn (off := 34) (tgt := 64) hx hb dX1_told_30 c_lo (by rw [e6]; decide) (by rw [e6]; decide) (by decide) ?_
          refine lv_aload_n hx hb dX1_told_64 rfl (lv_at hl 1 rfl) ?_
          refine va_get (D := (dC, dI)) (ci := 1) (v := .int nx) (C := RX1) (T := TX1) (N := 8) hx hb hts hi_1 hown hK hP 0 rfl rfl 3 (by decide) (hts (.fieldLink RX1 24 "SegmentBoxModel" "next" "I") (by decide +kernel)) (fun _ h9 => h9) rfl dX1_told_65 ?_
          exact W.iret (v := nx) hx hb hr (fun t ht hW => ⟨⟨nx, 0, rfl, Or.inr ⟨rfl, Or.inl ⟨e6, rfl⟩⟩, by rw [ht]; exact hP, va_K.moved hW.alike hK, hD⟩, hS.F ht⟩) hS.2.2 dX1_told_68
        · refine lv_tableIn (off := 39) (tgt := 69) hx hb dX1_told_30 c_lo (by rw [e6]; decide) (by rw [e6]; decide) (by decide) ?_
          refine lv_bipush (v := 64) hx hb dX1_told_69 (by decide) ?_
          refine lv_aload_n hx hb dX1_told_71 rfl (lv_at hl 1 rfl) ?_
          refine va_get (D := (dC, dI)) (ci := 1) (v := .int mn) (C := RX1) (T := TX1) (N := 8) hx hb hts hi_1 hown hK hP 0 rfl rfl 4 (by decide) (hts (.fieldLink RX1 27 "SegmentBoxModel" "many" "I") (by decide +kernel)) (fun _ h9 => h9) rfl dX1_told_72 ?_
          refine lv_isub hx hb dX1_told_75 ?_
          exact W.iret (v := 64 - mn) hx hb hr (fun t ht hW => ⟨⟨64 - mn, 0, rfl, Or.inr ⟨rfl, Or.inr (Or.inl ⟨e6, rfl⟩)⟩, by rw [ht]; exact hP, va_K.moved hW.alike hK, hD⟩, hS.F ht⟩) hS.2.2 dX1_told_76
        · refine lv_tableIn (off := 47) (tgt := 77) hx hb dX1_told_30 c_lo (by rw [e6]; decide) (by rw [e6]; decide) (by decide) ?_
          refine lv_aload_n hx hb dX1_told_77 rfl (lv_at hl 1 rfl) ?_
          refine va_get (D := (dC, dI)) (ci := 1) (v := .int mn) (C := RX1) (T := TX1) (N := 8) hx hb hts hi_1 hown hK hP 0 rfl rfl 4 (by decide) (hts (.fieldLink RX1 27 "SegmentBoxModel" "many" "I") (by decide +kernel)) (fun _ h9 => h9) rfl dX1_told_78 ?_
          exact W.iret (v := mn) hx hb hr (fun t ht hW => ⟨⟨mn, 0, rfl, Or.inr ⟨rfl, Or.inr (Or.inr (Or.inl ⟨e6, rfl⟩))⟩, by rw [ht]; exact hP, va_K.moved hW.alike hK, hD⟩, hS.F ht⟩) hS.2.2 dX1_told_81
        · refine lv_tableIn (off := 52) (tgt := 82) hx hb dX1_told_30 c_lo (by rw [e6]; decide) (by rw [e6]; decide) (by decide) ?_
          have loop : ∀ (cnt k : Nat) (x9 y9 : Int32), k + cnt = 64 → x9 = nI k → y9 = nI (sg_c (pH fH) k) → ∀ (H : Heap) (locs : List Loc) (ls : Array Slot), va_P (dC, dI) vwCl [(a1, .inr (1, [.ref q1, .ref q2, .ref q3, .int nx, .int mn, .int ed, .int 0, .int he])), (q1, .inl (cU, 64, .inl fU)), (q2, .inl (cV, 64, .inl fB)), (q3, .inl (cZ, 64, .inl fH))] H → va_D A [(a1, .inr (1, [.ref q1, .ref q2, .ref q3, .int nx, .int mn, .int ed, .int 0, .int he])), (q1, .inl (cU, 64, .inl fU)), (q2, .inl (cV, 64, .inl fB)), (q3, .inl (cZ, 64, .inl fH))] → va_S A s.heap H locs → lv_has ls 4 [(3, .int x9), (2, .int y9), (0, .ref a1), (1, .int n)] → W p l e (headSpec wsX1_told ({ frames := 1, cells := 0, slots := 0, locals := 23 })).room s m ([.ref a1, .int n] : List Value).toArray below meth c H locs 0 0 (MQ below (va_Qi (fun (r : Int32) (u0 : Int32) => match u0 with | th' => ((n < 0 ∨ 5 < n) ∧ th' = 1) ∨ (th' = 0 ∧ ((n = 0 ∧ r = nx) ∨ (n = 1 ∧ r = 64 - mn) ∨ (n = 2 ∧ r = mn) ∨ (n = 3 ∧ r = nI (sg_c (pH fH) 64)) ∨ (n = 4 ∧ r = nI (sg_c (st (pH fH)) 64)) ∨ (n = 5 ∧ r = (if he = 0 then 0 else 1))))) (fun (u0 : Int32) (t : State) => match u0 with | th' => va_P (dC, dI) vwCl [(a1, .inr (1, [.ref q1, .ref q2, .ref q3, .int nx, .int mn, .int ed, .int th', .int he])), (q1, .inl (cU, 64, .inl fU)), (q2, .inl (cV, 64, .inl fB)), (q3, .inl (cZ, 64, .inl fH))] t.heap ∧ va_K (dC, dI) vwCl [(cU, .int), (cV, .int), (cZ, .boolean)] t ∧ va_D A [(a1, .inr (1, [.ref q1, .ref q2, .ref q3, .int nx, .int mn, .int ed, .int th', .int he])), (q1, .inl (cU, 64, .inl fU)), (q2, .inl (cV, 64, .inl fB)), (q3, .inl (cZ, 64, .inl fH))]) A) ([.ref a1, .int n] : List Value).toArray s 0 0 A) (F0 m 84 ls []) := by
            intro cnt
            induction cnt with
            | zero =>
              intro k x9 y9 hk h1 h2 H locs ls hP hD hS hl
              refine lv_iload_n hx hb dX1_told_84 rfl (lv_at hl 0 rfl) ?_
              refine lv_bipush (v := 64) hx hb dX1_told_85 (by decide) ?_
              refine lv_icmp_ge (tgt := 108) hx hb dX1_told_87 (by decide) (fun c_87 => ?_) (fun c_87 => ?_)
              · refine lv_iload_n hx hb dX1_told_108 rfl (lv_at hl 1 rfl) ?_
                exact W.iret (v := y9) hx hb hr (fun t ht hW => ⟨⟨y9, 0, rfl, Or.inr ⟨rfl, Or.inr (Or.inr (Or.inr (Or.inl ⟨e6, by rw [h2, show k = 64 by omega]⟩)))⟩, by rw [ht]; exact hP, va_K.moved hW.alike hK, hD⟩, hS.F ht⟩) hS.2.2 dX1_told_109
              · exact absurd ((ge64 h1 (by omega)).mpr (by omega)) c_87
            | succ cnt ih =>
              intro k x9 y9 hk h1 h2 H locs ls hP hD hS hl
              refine lv_iload_n hx hb dX1_told_84 rfl (lv_at hl 0 rfl) ?_
              refine lv_bipush (v := 64) hx hb dX1_told_85 (by decide) ?_
              refine lv_icmp_ge (tgt := 108) hx hb dX1_told_87 (by decide) (fun c_87 => ?_) (fun c_87 => ?_)
              · exact absurd ((ge64 h1 (by omega)).mp c_87) (by omega)
              · refine lv_aload_n hx hb dX1_told_90 rfl (lv_at hl 2 rfl) ?_
                refine va_get (D := (dC, dI)) (ci := 1) (v := .ref q3) (C := RX1) (T := TX1) (N := 8) hx hb hts hi_1 hown hK hP 0 rfl rfl 2 (by decide) (hts (.fieldLink RX1 16 "SegmentBoxModel" "isHeld" "[Z") (by decide +kernel)) (fun _ h9 => h9) rfl dX1_told_91 ?_
                refine lv_iload_n hx hb dX1_told_94 rfl (lv_at hl 0 rfl) ?_
                refine va_zald hx hb hK hP 3 2 rfl rfl (inb_of h1 (by omega)) dX1_told_95 ?_
                refine lv_if_eq (tgt := 102) hx hb dX1_told_96 (by decide) (fun c_96 => ?_) (fun c_96 => ?_)
                · obtain ⟨x_1, ex_1⟩ : ∃ y : Int32, y = x9 + 1 := ⟨_, rfl⟩
                  refine lv_iinc (v := x_1) (lv' := [(3, .int x_1), (2, .int y9), (0, .ref a1), (1, .int n)]) hx hb dX1_told_102 hl (k := 0) rfl (by rw [ex_1]; rfl) (by decide) rfl (fun ls hl => ?_)
                  refine lv_goto (tgt := 84) hx hb dX1_told_105 (by decide) ?_
                  have hp : pH fH k = false := pH_f (by rw [← cl_of h1 (by omega)]; exact c_96)
                  exact ih (k + 1) x_1 y9 (by omega) (by rw [ex_1, h1, nI_succ]) (by rw [sg_cn hp]; exact h2) H locs ls hP hD hS (lv_sub hl [0, 1, 2, 3] rfl)
                · obtain ⟨x_2, ex_2⟩ : ∃ y : Int32, y = y9 + 1 := ⟨_, rfl⟩
                  refine lv_iinc (v := x_2) (lv' := [(2, .int x_2), (3, .int x9), (0, .ref a1), (1, .int n)]) hx hb dX1_told_99 hl (k := 1) rfl (by rw [ex_2]; rfl) (by decide) rfl (fun ls hl => ?_)
                  obtain ⟨x_3, ex_3⟩ : ∃ y : Int32, y = x9 + 1 := ⟨_, rfl⟩
                  refine lv_iinc (v := x_3) (lv' := [(3, .int x_3), (2, .int x_2), (0, .ref a1), (1, .int n)]) hx hb dX1_told_102 hl (k := 1) rfl (by rw [ex_3]; rfl) (by decide) rfl (fun ls hl => ?_)
                  refine lv_goto (tgt := 84) hx hb dX1_told_105 (by decide) ?_
                  have hp : pH fH k = true := pH_t (by rw [← cl_of h1 (by omega)]; exact c_96)
                  exact ih (k + 1) x_3 x_2 (by omega) (by rw [ex_3, h1, nI_succ]) (by rw [ex_2, h2, sg_cs hp, nI_succ]) H locs ls hP hD hS (lv_sub hl [0, 1, 2, 3] rfl)
          refine lv_iconst (v := 0) hx hb dX1_told_82 (by decide) ?_
          refine lv_istore_n (lv' := [(3, .int 0), (2, .int 0), (0, .ref a1), (1, .int n)]) hx hb dX1_told_83 rfl hl (by decide) rfl (fun ls hl => ?_)
          exact loop 64 0 0 0 (by omega) nI_0.symm nI_0.symm H _ ls hP hD hS (lv_sub hl [0, 1, 2, 3] rfl)
        · refine lv_tableIn (off := 80) (tgt := 110) hx hb dX1_told_30 c_lo (by rw [e6]; decide) (by rw [e6]; decide) (by decide) ?_
          have hN := sg_c_le (st (pH fH)) 64
          have loop : ∀ (cnt j : Nat) (y9 : Int32), j + cnt = sg_c (st (pH fH)) 64 → y9 = nI j → ∀ (H : Heap) (locs : List Loc) (ls : Array Slot), va_P (dC, dI) vwCl [(a1, .inr (1, [.ref q1, .ref q2, .ref q3, .int nx, .int mn, .int ed, .int 0, .int he])), (q1, .inl (cU, 64, .inl fU)), (q2, .inl (cV, 64, .inl fB)), (q3, .inl (cZ, 64, .inl fH))] H → va_D A [(a1, .inr (1, [.ref q1, .ref q2, .ref q3, .int nx, .int mn, .int ed, .int 0, .int he])), (q1, .inl (cU, 64, .inl fU)), (q2, .inl (cV, 64, .inl fB)), (q3, .inl (cZ, 64, .inl fH))] → va_S A s.heap H locs → lv_has ls 4 [(2, .int y9), (0, .ref a1), (1, .int n)] → W p l e (headSpec wsX1_told ({ frames := 1, cells := 0, slots := 0, locals := 23 })).room s m ([.ref a1, .int n] : List Value).toArray below meth c H locs 0 0 (MQ below (va_Qi (fun (r : Int32) (u0 : Int32) => match u0 with | th' => ((n < 0 ∨ 5 < n) ∧ th' = 1) ∨ (th' = 0 ∧ ((n = 0 ∧ r = nx) ∨ (n = 1 ∧ r = 64 - mn) ∨ (n = 2 ∧ r = mn) ∨ (n = 3 ∧ r = nI (sg_c (pH fH) 64)) ∨ (n = 4 ∧ r = nI (sg_c (st (pH fH)) 64)) ∨ (n = 5 ∧ r = (if he = 0 then 0 else 1))))) (fun (u0 : Int32) (t : State) => match u0 with | th' => va_P (dC, dI) vwCl [(a1, .inr (1, [.ref q1, .ref q2, .ref q3, .int nx, .int mn, .int ed, .int th', .int he])), (q1, .inl (cU, 64, .inl fU)), (q2, .inl (cV, 64, .inl fB)), (q3, .inl (cZ, 64, .inl fH))] t.heap ∧ va_K (dC, dI) vwCl [(cU, .int), (cV, .int), (cZ, .boolean)] t ∧ va_D A [(a1, .inr (1, [.ref q1, .ref q2, .ref q3, .int nx, .int mn, .int ed, .int th', .int he])), (q1, .inl (cU, 64, .inl fU)), (q2, .inl (cV, 64, .inl fB)), (q3, .inl (cZ, 64, .inl fH))]) A) ([.ref a1, .int n] : List Value).toArray s 0 0 A) (F0 m 110 ls []) := by
            intro cnt
            induction cnt with
            | zero =>
              intro j y9 hk h1 H locs ls hP hD hS hl
              refine lv_aload_n hx hb dX1_told_110 rfl (lv_at hl 1 rfl) ?_
              refine lv_iload_n hx hb dX1_told_111 rfl (lv_at hl 0 rfl) ?_
              have hPc := hP.sub (ws' := [(a1, .inr (1, [.ref q1, .ref q2, .ref q3, .int nx, .int mn, .int ed, .int 0, .int he])), (q1, .inl (cU, 64, .inl fU)), (q2, .inl (cV, 64, .inl fB)), (q3, .inl (cZ, 64, .inl fH))]) [0, 1, 2, 3] rfl
              have hDc := hD.sub (ws' := [(a1, .inr (1, [.ref q1, .ref q2, .ref q3, .int nx, .int mn, .int ed, .int 0, .int he])), (q1, .inl (cU, 64, .inl fU)), (q2, .inl (cV, 64, .inl fB)), (q3, .inl (cZ, 64, .inl fH))]) [0, 1, 2, 3] (by decide) rfl
              have hKc := hK.sub (tys' := [(cU, .int), (cV, .int), (cZ, .boolean)]) [0, 1, 2] rfl
              have hFc := va_free (wc := [(a1, .inr (1, [.ref q1, .ref q2, .ref q3, .int nx, .int mn, .int ed, .int 0, .int he])), (q1, .inl (cU, 64, .inl fU)), (q2, .inl (cV, 64, .inl fB)), (q3, .inl (cZ, 64, .inl fH))]) hD hS hA [0, 1, 2, 3] rfl
              refine va_calli (va_runV (As := [.int y9]) (rest := []) ⟨hx, hb, hml, hown, hts⟩ (m_from l dC dI a1 q1 q2 q3 cU cV cZ nx mn ed 0 he fU fB fH y9 j H.size h1 (by omega)) (cwV 1 hts gX1_told_X1_from rfl rfl rfl (by decide +kernel) ⟨Nat.le_of_ble_eq_true rfl, Nat.le_of_ble_eq_true rfl⟩) ⟨fun a U g mk q => by obtain ⟨q0, q1, qP, qK, qD⟩ := q; exact ⟨q0, q1, qP, va_K.moved (u := U) (U := U.calling g mk a) (Vm.Alike.refl U.vm) qK, qD⟩, va_recv hKc hPc (ci := 1) (q0 := 0) rfl rfl, fun U hU hW => ⟨rfl, by rw [hU], by rw [hU]; exact hPc, va_K.moved hW.alike hKc, hDc.weaken (fun _ _ _ _ => trivial)⟩⟩ rfl rfl hl.1 rfl (lv_room (Nat.le_of_ble_eq_true rfl)) dX1_told_112 ⟨(Nat.zero_le _), (Nat.zero_le _)⟩) hS (fun q _ h => hFc q h) hFc (fun r_4 u t H1 locs ht hvm hw_5 hB hz1 hk1 hS => ?_)
              obtain ⟨hP1, hK1, hD1⟩ := hB
              rw [ht] at hP1
              have hK1 := va_K.moved hvm.symm hK1
              try dsimp only at hw_5
              obtain ⟨hP, hD⟩ := va_join (wr := []) (w1 := [(a1, .inr (1, [.ref q1, .ref q2, .ref q3, .int nx, .int mn, .int ed, .int 0, .int he])), (q1, .inl (cU, 64, .inl fU)), (q2, .inl (cV, 64, .inl fB)), (q3, .inl (cZ, 64, .inl fH))]) hP hD [0, 1, 2, 3] [] rfl rfl (by decide) (by decide) hk1 hFc hP1 hD1
              generalize H1 = H at hP hS ⊢
              have hP : va_P (dC, dI) vwCl [(a1, .inr (1, [.ref q1, .ref q2, .ref q3, .int nx, .int mn, .int ed, .int 0, .int he])), (q1, .inl (cU, 64, .inl fU)), (q2, .inl (cV, 64, .inl fB)), (q3, .inl (cZ, 64, .inl fH))] H := hP
              have hD : va_D A [(a1, .inr (1, [.ref q1, .ref q2, .ref q3, .int nx, .int mn, .int ed, .int 0, .int he])), (q1, .inl (cU, 64, .inl fU)), (q2, .inl (cV, 64, .inl fB)), (q3, .inl (cZ, 64, .inl fH))] := hD
              rcases hw_5 with ⟨k, k1, k2, k3, k4⟩ | ⟨k2, k3⟩
              · have hcs := sg_cs k3
                have hcm := sg_c_mono' (st (pH fH)) (show k + 1 ≤ 64 by omega)
                exact absurd hcm (by omega)
              · subst k2
                refine lv_if_lt (tgt := 124) hx hb dX1_told_115 (by decide) (fun c_115 => ?_) (fun c_115 => ?_)
                · refine lv_iload_n hx hb dX1_told_124 rfl (lv_at hl 0 rfl) ?_
                  exact W.iret (v := y9) hx hb hr (fun t ht hW => ⟨⟨y9, 0, rfl, Or.inr ⟨rfl, Or.inr (Or.inr (Or.inr (Or.inr (Or.inl ⟨e6, by rw [h1, show j = sg_c (st (pH fH)) 64 by omega]⟩))))⟩, by rw [ht]; exact hP, va_K.moved hW.alike hK, hD⟩, hS.F ht⟩) hS.2.2 dX1_told_125
                · exact absurd (by decide) c_115
            | succ cnt ih =>
              intro j y9 hk h1 H locs ls hP hD hS hl
              refine lv_aload_n hx hb dX1_told_110 rfl (lv_at hl 1 rfl) ?_
              refine lv_iload_n hx hb dX1_told_111 rfl (lv_at hl 0 rfl) ?_
              have hPc := hP.sub (ws' := [(a1, .inr (1, [.ref q1, .ref q2, .ref q3, .int nx, .int mn, .int ed, .int 0, .int he])), (q1, .inl (cU, 64, .inl fU)), (q2, .inl (cV, 64, .inl fB)), (q3, .inl (cZ, 64, .inl fH))]) [0, 1, 2, 3] rfl
              have hDc := hD.sub (ws' := [(a1, .inr (1, [.ref q1, .ref q2, .ref q3, .int nx, .int mn, .int ed, .int 0, .int he])), (q1, .inl (cU, 64, .inl fU)), (q2, .inl (cV, 64, .inl fB)), (q3, .inl (cZ, 64, .inl fH))]) [0, 1, 2, 3] (by decide) rfl
              have hKc := hK.sub (tys' := [(cU, .int), (cV, .int), (cZ, .boolean)]) [0, 1, 2] rfl
              have hFc := va_free (wc := [(a1, .inr (1, [.ref q1, .ref q2, .ref q3, .int nx, .int mn, .int ed, .int 0, .int he])), (q1, .inl (cU, 64, .inl fU)), (q2, .inl (cV, 64, .inl fB)), (q3, .inl (cZ, 64, .inl fH))]) hD hS hA [0, 1, 2, 3] rfl
              refine va_calli (va_runV (As := [.int y9]) (rest := []) ⟨hx, hb, hml, hown, hts⟩ (m_from l dC dI a1 q1 q2 q3 cU cV cZ nx mn ed 0 he fU fB fH y9 j H.size h1 (by omega)) (cwV 1 hts gX1_told_X1_from rfl rfl rfl (by decide +kernel) ⟨Nat.le_of_ble_eq_true rfl, Nat.le_of_ble_eq_true rfl⟩) ⟨fun a U g mk q => by obtain ⟨q0, q1, qP, qK, qD⟩ := q; exact ⟨q0, q1, qP, va_K.moved (u := U) (U := U.calling g mk a) (Vm.Alike.refl U.vm) qK, qD⟩, va_recv hKc hPc (ci := 1) (q0 := 0) rfl rfl, fun U hU hW => ⟨rfl, by rw [hU], by rw [hU]; exact hPc, va_K.moved hW.alike hKc, hDc.weaken (fun _ _ _ _ => trivial)⟩⟩ rfl rfl hl.1 rfl (lv_room (Nat.le_of_ble_eq_true rfl)) dX1_told_112 ⟨(Nat.zero_le _), (Nat.zero_le _)⟩) hS (fun q _ h => hFc q h) hFc (fun r_6 u t H1 locs ht hvm hw_7 hB hz1 hk1 hS => ?_)
              obtain ⟨hP1, hK1, hD1⟩ := hB
              rw [ht] at hP1
              have hK1 := va_K.moved hvm.symm hK1
              try dsimp only at hw_7
              obtain ⟨hP, hD⟩ := va_join (wr := []) (w1 := [(a1, .inr (1, [.ref q1, .ref q2, .ref q3, .int nx, .int mn, .int ed, .int 0, .int he])), (q1, .inl (cU, 64, .inl fU)), (q2, .inl (cV, 64, .inl fB)), (q3, .inl (cZ, 64, .inl fH))]) hP hD [0, 1, 2, 3] [] rfl rfl (by decide) (by decide) hk1 hFc hP1 hD1
              generalize H1 = H at hP hS ⊢
              have hP : va_P (dC, dI) vwCl [(a1, .inr (1, [.ref q1, .ref q2, .ref q3, .int nx, .int mn, .int ed, .int 0, .int he])), (q1, .inl (cU, 64, .inl fU)), (q2, .inl (cV, 64, .inl fB)), (q3, .inl (cZ, 64, .inl fH))] H := hP
              have hD : va_D A [(a1, .inr (1, [.ref q1, .ref q2, .ref q3, .int nx, .int mn, .int ed, .int 0, .int he])), (q1, .inl (cU, 64, .inl fU)), (q2, .inl (cV, 64, .inl fB)), (q3, .inl (cZ, 64, .inl fH))] := hD
              rcases hw_7 with ⟨k, k1, k2, k3, k4⟩ | ⟨k2, k3⟩
              · have hcs := sg_cs k3
                have hcm := sg_c_mono' (st (pH fH)) (show k + 1 ≤ 64 by omega)
                subst k2
                refine lv_if_lt (tgt := 124) hx hb dX1_told_115 (by decide) (fun c_115 => ?_) (fun c_115 => ?_)
                · exact absurd c_115 (nI_pos (by omega))
                · obtain ⟨x_8, ex_8⟩ : ∃ y : Int32, y = y9 + 1 := ⟨_, rfl⟩
                  refine lv_iinc (v := x_8) (lv' := [(2, .int x_8), (0, .ref a1), (1, .int n)]) hx hb dX1_told_118 hl (k := 0) rfl (by rw [ex_8]; rfl) (by decide) rfl (fun ls hl => ?_)
                  refine lv_goto (tgt := 110) hx hb dX1_told_121 (by decide) ?_
                  exact ih (j + 1) x_8 (by omega) (by rw [ex_8, h1, nI_succ]) H locs ls hP hD hS (lv_sub hl [0, 1, 2] rfl)
              · subst k2
                refine lv_if_lt (tgt := 124) hx hb dX1_told_115 (by decide) (fun c_115 => ?_) (fun c_115 => ?_)
                · refine lv_iload_n hx hb dX1_told_124 rfl (lv_at hl 0 rfl) ?_
                  exact W.iret (v := y9) hx hb hr (fun t ht hW => ⟨⟨y9, 0, rfl, Or.inr ⟨rfl, Or.inr (Or.inr (Or.inr (Or.inr (Or.inl ⟨e6, by rw [h1, show j = sg_c (st (pH fH)) 64 by omega]⟩))))⟩, by rw [ht]; exact hP, va_K.moved hW.alike hK, hD⟩, hS.F ht⟩) hS.2.2 dX1_told_125
                · exact absurd (by decide) c_115
          exact loop (sg_c (st (pH fH)) 64) 0 0 (by omega) nI_0.symm H _ ls hP hD hS (lv_sub hl [0, 1, 2] rfl)
        · refine lv_tableOut (tgt := 126) hx hb dX1_told_30 (Or.inr (by rw [e6]; decide)) (by decide) ?_
          refine lv_aload_n hx hb dX1_told_126 rfl (lv_at hl 1 rfl) ?_
          refine va_get (D := (dC, dI)) (ci := 1) (v := .int he) (C := RX1) (T := TX1) (N := 8) hx hb hts hi_1 hown hK hP 0 rfl rfl 7 (by decide) (hts (.fieldLink RX1 30 "SegmentBoxModel" "hasEnd" "Z") (by decide +kernel)) (fun _ h9 => h9) rfl dX1_told_127 ?_
          refine lv_if_eq (tgt := 137) hx hb dX1_told_130 (by decide) (fun c_130 => ?_) (fun c_130 => ?_)
          · refine lv_iconst (v := 0) hx hb dX1_told_137 (by decide) ?_
            exact W.iret (v := 0) hx hb hr (fun t ht hW => ⟨⟨0, 0, rfl, Or.inr ⟨rfl, Or.inr (Or.inr (Or.inr (Or.inr (Or.inr (⟨e6, (if_pos c_130).symm⟩)))))⟩, by rw [ht]; exact hP, va_K.moved hW.alike hK, hD⟩, hS.F ht⟩) hS.2.2 dX1_told_138
          · refine lv_iconst (v := 1) hx hb dX1_told_133 (by decide) ?_
            refine lv_goto (tgt := 138) hx hb dX1_told_134 (by decide) ?_
            exact W.iret (v := 1) hx hb hr (fun t ht hW => ⟨⟨1, 0, rfl, Or.inr ⟨rfl, Or.inr (Or.inr (Or.inr (Or.inr (Or.inr (⟨e6, (if_neg c_130).symm⟩)))))⟩, by rw [ht]; exact hP, va_K.moved hW.alike hK, hD⟩, hS.F ht⟩) hS.2.2 dX1_told_138
      · exact absurd (by decide) c_22
    · refine lv_iconst (v := 1) hx hb dX1_told_10 (by decide) ?_
      refine lv_goto (tgt := 15) hx hb dX1_told_11 (by decide) ?_
      refine va_put (D := (dC, dI)) (ci := 1) (v := .int 1) (ty := .int) (C := RX1) (T := TX1) (N := 8) hx hb hts hi_1 tyX1 tyX1_ok nmX1 hown hK hP hD hS 0 rfl rfl 6 (by decide) (hts (.fieldLink RX1 20 "SegmentBoxModel" "thrown" "I") (by decide +kernel)) (fun _ h9 => h9) rfl (by decide +kernel) rfl rfl (Nat.le_of_ble_eq_true rfl) dX1_told_15 (fun H locs hP hD hS => ?_)
      have hP : va_P (dC, dI) vwCl [(a1, .inr (1, [.ref q1, .ref q2, .ref q3, .int nx, .int mn, .int ed, .int 1, .int he])), (q1, .inl (cU, 64, .inl fU)), (q2, .inl (cV, 64, .inl fB)), (q3, .inl (cZ, 64, .inl fH))] H := hP
      have hD : va_D A [(a1, .inr (1, [.ref q1, .ref q2, .ref q3, .int nx, .int mn, .int ed, .int 1, .int he])), (q1, .inl (cU, 64, .inl fU)), (q2, .inl (cV, 64, .inl fB)), (q3, .inl (cZ, 64, .inl fH))] := hD
      refine lv_aload_n hx hb dX1_told_18 rfl (lv_at hl 0 rfl) ?_
      refine va_get (D := (dC, dI)) (ci := 1) (v := .int 1) (C := RX1) (T := TX1) (N := 8) hx hb hts hi_1 hown hK hP 0 rfl rfl 6 (by decide) (hts (.fieldLink RX1 20 "SegmentBoxModel" "thrown" "I") (by decide +kernel)) (fun _ h9 => h9) rfl dX1_told_19 ?_
      refine lv_if_le (tgt := 27) hx hb dX1_told_22 (by decide) (fun c_22 => ?_) (fun c_22 => ?_)
      · exact absurd c_22 (by decide)
      · refine lv_iconst (v := 0) hx hb dX1_told_25 (by decide) ?_
        exact W.iret (v := 0) hx hb hr (fun t ht hW => ⟨⟨0, 1, rfl, Or.inl ⟨Or.inr (Int32.not_le.mp c_7), rfl⟩, by rw [ht]; exact hP, va_K.moved hW.alike hK, hD⟩, hS.F ht⟩) hS.2.2 dX1_told_26
