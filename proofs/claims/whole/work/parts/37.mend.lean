set_option maxHeartbeats 4000000 in
set_option maxRecDepth 100000 in
theorem m_end (l : Launch) (dC : Nat → ClassId) (dI : Nat → Nat → Nat) (a1 q1 q2 q3 : Nat) (cU cV cZ : ClassId) (nx mn ed th he : Int32) (fU fB fH : Nat → Int32) (n : Int32) (sz : Nat)  : Met l yX1_end wsX1_end ({ frames := 0, cells := 0, slots := 0, locals := 0 }) (va_Pc [.ref a1, .int n] (fun U => U.heap.size = sz ∧ va_P (dC, dI) vwCl [(a1, .inr (1, [.ref q1, .ref q2, .ref q3, .int nx, .int mn, .int ed, .int th, .int he])), (q1, .inl (cU, 64, .inl fU)), (q2, .inl (cV, 64, .inl fB)), (q3, .inl (cZ, 64, .inl fH))] U.heap ∧ va_K (dC, dI) vwCl [(cU, .int), (cV, .int), (cZ, .boolean)] U ∧ va_D (fun _ => True) [(a1, .inr (1, [.ref q1, .ref q2, .ref q3, .int nx, .int mn, .int ed, .int th, .int he])), (q1, .inl (cU, 64, .inl fU)), (q2, .inl (cV, 64, .inl fB)), (q3, .inl (cZ, 64, .inl fH))])) (va_Qi (fun (r : Int32) (u0 : Int32 × Int32) => match u0 with | (ed', he') => (r = 1 ∧ he' = 1 ∧ ed' = n ∧ m_eok nx mn he fH n) ∨ (r = 0 ∧ he' = he ∧ ed' = ed ∧ ¬ m_eok nx mn he fH n)) (fun (u0 : Int32 × Int32) (t : State) => match u0 with | (ed', he') => va_P (dC, dI) vwCl [(a1, .inr (1, [.ref q1, .ref q2, .ref q3, .int nx, .int mn, .int ed', .int 0, .int he'])), (q1, .inl (cU, 64, .inl fU)), (q2, .inl (cV, 64, .inl fB)), (q3, .inl (cZ, 64, .inl fH))] t.heap ∧ va_K (dC, dI) vwCl [(cU, .int), (cV, .int), (cZ, .boolean)] t ∧ va_D (va_A [(a1, .inr (1, [.ref q1, .ref q2, .ref q3, .int nx, .int mn, .int ed, .int th, .int he])), (q1, .inl (cU, 64, .inl fU)), (q2, .inl (cV, 64, .inl fB)), (q3, .inl (cZ, 64, .inl fH))] sz) [(a1, .inr (1, [.ref q1, .ref q2, .ref q3, .int nx, .int mn, .int ed', .int 0, .int he'])), (q1, .inl (cU, 64, .inl fU)), (q2, .inl (cV, 64, .inl fB)), (q3, .inl (cZ, 64, .inl fH))]) (va_A [(a1, .inr (1, [.ref q1, .ref q2, .ref q3, .int nx, .int mn, .int ed, .int th, .int he])), (q1, .inl (cU, 64, .inl fU)), (q2, .inl (cV, 64, .inl fB)), (q3, .inl (cZ, 64, .inl fH))] sz)) 0 0 (va_A [(a1, .inr (1, [.ref q1, .ref q2, .ref q3, .int nx, .int mn, .int ed, .int th, .int he])), (q1, .inl (cU, 64, .inl fU)), (q2, .inl (cV, 64, .inl fB)), (q3, .inl (cZ, 64, .inl fH))] sz) := by
  refine Met.ofW (cc := cX1_end) (maxL := 4) (ret := (some .boolean)) (by decide) rfl ?_
  intro p e s m args below meth c s₁ B hml hv
  obtain ⟨rfl, hsz, hP, hK, hD0⟩ := hv
  have hx := B.exec
  have hb := B.bytes
  have hr := B.returns
  have hts := atoms_spec (ws := wsX1_end) B.pre
  have hown : s.vm.findClass RX1 = some m.cls := findClass_of_methodNamed B.named
  have hlocks := B.notSynchronized
  subst hsz
  have hD := hD0.self (sz := s.heap.size)
  generalize hAe : va_A [(a1, .inr (1, [.ref q1, .ref q2, .ref q3, .int nx, .int mn, .int ed, .int th, .int he])), (q1, .inl (cU, 64, .inl fU)), (q2, .inl (cV, 64, .inl fB)), (q3, .inl (cZ, 64, .inl fH))] s.heap.size = A at hD ⊢
  have hA : ∀ q : Nat, s.heap.size ≤ q → A q := fun q h => by rw [← hAe]; exact Or.inr h
  have hS : va_S A s.heap s.heap [] := va_S.rf
  have hP : va_P (dC, dI) vwCl [(a1, .inr (1, [.ref q1, .ref q2, .ref q3, .int nx, .int mn, .int ed, .int th, .int he])), (q1, .inl (cU, 64, .inl fU)), (q2, .inl (cV, 64, .inl fB)), (q3, .inl (cZ, 64, .inl fH))] s.heap := hP
  have hl := lv_entry ([.ref a1, .int n]) (n := 4) (Nat.le_of_ble_eq_true rfl)
  rw [lg_entry_eq]
  generalize (lg_sl ([.ref a1, .int n]) ++ List.replicate (4 - (lg_sl ([.ref a1, .int n])).length) Slot.unset).toArray = ls at hl ⊢
  have hl : lv_has ls 4 [(0, .ref a1), (1, .int n)] := hl
  have hi_1 : ∀ w ∈ u_ws RX1 TX1 8, w ∈ wsX1_end := by decide +kernel
  refine lv_aload_n hx hb dX1_end_0 rfl (lv_at hl 0 rfl) ?_
  refine lv_iconst (v := 0) hx hb dX1_end_1 (by decide) ?_
  refine va_put (D := (dC, dI)) (ci := 1) (v := .int 0) (ty := .int) (C := RX1) (T := TX1) (N := 8) hx hb hts hi_1 tyX1 tyX1_ok nmX1 hown hK hP hD hS 0 rfl rfl 6 (by decide) (hts (.fieldLink RX1 20 "SegmentBoxModel" "thrown" "I") (by decide +kernel)) (fun _ h9 => h9) rfl (by decide +kernel) rfl rfl (Nat.le_of_ble_eq_true rfl) dX1_end_2 (fun H locs hP hD hS => ?_)
  have hP : va_P (dC, dI) vwCl [(a1, .inr (1, [.ref q1, .ref q2, .ref q3, .int nx, .int mn, .int ed, .int 0, .int he])), (q1, .inl (cU, 64, .inl fU)), (q2, .inl (cV, 64, .inl fB)), (q3, .inl (cZ, 64, .inl fH))] H := hP
  have hD : va_D A [(a1, .inr (1, [.ref q1, .ref q2, .ref q3, .int nx, .int mn, .int ed, .int 0, .int he])), (q1, .inl (cU, 64, .inl fU)), (q2, .inl (cV, 64, .inl fB)), (q3, .inl (cZ, 64, .inl fH))] := hD
  refine lv_iload_n hx hb dX1_end_5 rfl (lv_at hl 1 rfl) ?_
  refine lv_aload_n hx hb dX1_end_6 rfl (lv_at hl 0 rfl) ?_
  refine va_get (D := (dC, dI)) (ci := 1) (v := .int nx) (C := RX1) (T := TX1) (N := 8) hx hb hts hi_1 hown hK hP 0 rfl rfl 3 (by decide) (hts (.fieldLink RX1 24 "SegmentBoxModel" "next" "I") (by decide +kernel)) (fun _ h9 => h9) rfl dX1_end_7 ?_
  refine lv_isub hx hb dX1_end_10 ?_
  refine lv_istore_n (lv' := [(2, .int (n - nx)), (0, .ref a1), (1, .int n)]) hx hb dX1_end_11 rfl hl (by decide) rfl (fun ls hl => ?_)
  refine lv_aload_n hx hb dX1_end_12 rfl (lv_at hl 1 rfl) ?_
  refine va_get (D := (dC, dI)) (ci := 1) (v := .int he) (C := RX1) (T := TX1) (N := 8) hx hb hts hi_1 hown hK hP 0 rfl rfl 7 (by decide) (hts (.fieldLink RX1 30 "SegmentBoxModel" "hasEnd" "Z") (by decide +kernel)) (fun _ h9 => h9) rfl dX1_end_13 ?_
  refine lv_if_ne (tgt := 34) hx hb dX1_end_16 (by decide) (fun c_16 => ?_) (fun c_16 => ?_)
  · refine lv_iconst (v := 0) hx hb dX1_end_34 (by decide) ?_
    exact W.zret (v := 0) hx hb hr rfl (fun t ht hW => ⟨⟨0, (ed, he), rfl, Or.inr ⟨rfl, rfl, rfl, fun z => c_16 z.1⟩, by rw [ht]; exact hP, va_K.moved hW.alike hK, hD⟩, hS.F ht⟩) hS.2.2 dX1_end_35
  · refine lv_iload_n hx hb dX1_end_19 rfl (lv_at hl 0 rfl) ?_
    refine lv_if_lt (tgt := 34) hx hb dX1_end_20 (by decide) (fun c_20 => ?_) (fun c_20 => ?_)
    · refine lv_iconst (v := 0) hx hb dX1_end_34 (by decide) ?_
      exact W.zret (v := 0) hx hb hr rfl (fun t ht hW => ⟨⟨0, (ed, he), rfl, Or.inr ⟨rfl, rfl, rfl, fun z => z.2.1 c_20⟩, by rw [ht]; exact hP, va_K.moved hW.alike hK, hD⟩, hS.F ht⟩) hS.2.2 dX1_end_35
    · refine lv_iload_n hx hb dX1_end_23 rfl (lv_at hl 0 rfl) ?_
      refine lv_bipush (v := 64) hx hb dX1_end_24 (by decide) ?_
      refine lv_aload_n hx hb dX1_end_26 rfl (lv_at hl 1 rfl) ?_
      refine va_get (D := (dC, dI)) (ci := 1) (v := .int mn) (C := RX1) (T := TX1) (N := 8) hx hb hts hi_1 hown hK hP 0 rfl rfl 4 (by decide) (hts (.fieldLink RX1 27 "SegmentBoxModel" "many" "I") (by decide +kernel)) (fun _ h9 => h9) rfl dX1_end_27 ?_
      refine lv_isub hx hb dX1_end_30 ?_
      refine lv_icmp_le (tgt := 36) hx hb dX1_end_31 (by decide) (fun c_31 => ?_) (fun c_31 => ?_)
      · obtain ⟨d0, hd0, hd⟩ := nI_of c_20
        have loop : ∀ (cnt k : Nat) (x9 : Int32), 64 ≤ k + cnt → k < 2 ^ 31 → x9 = nI k → (∀ i, d0 ≤ i → i < k → fH i = 0) → d0 ≤ k → ∀ (H : Heap) (locs : List Loc) (ls : Array Slot), va_P (dC, dI) vwCl [(a1, .inr (1, [.ref q1, .ref q2, .ref q3, .int nx, .int mn, .int ed, .int 0, .int he])), (q1, .inl (cU, 64, .inl fU)), (q2, .inl (cV, 64, .inl fB)), (q3, .inl (cZ, 64, .inl fH))] H → va_D A [(a1, .inr (1, [.ref q1, .ref q2, .ref q3, .int nx, .int mn, .int ed, .int 0, .int he])), (q1, .inl (cU, 64, .inl fU)), (q2, .inl (cV, 64, .inl fB)), (q3, .inl (cZ, 64, .inl fH))] → va_S A s.heap H locs → lv_has ls 4 [(3, .int x9), (2, .int (n - nx)), (0, .ref a1), (1, .int n)] → W p l e (headSpec wsX1_end ({ frames := 0, cells := 0, slots := 0, locals := 0 })).room s m ([.ref a1, .int n] : List Value).toArray below meth c H locs 0 0 (MQ below (va_Qi (fun (r : Int32) (u0 : Int32 × Int32) => match u0 with | (ed', he') => (r = 1 ∧ he' = 1 ∧ ed' = n ∧ m_eok nx mn he fH n) ∨ (r = 0 ∧ he' = he ∧ ed' = ed ∧ ¬ m_eok nx mn he fH n)) (fun (u0 : Int32 × Int32) (t : State) => match u0 with | (ed', he') => va_P (dC, dI) vwCl [(a1, .inr (1, [.ref q1, .ref q2, .ref q3, .int nx, .int mn, .int ed', .int 0, .int he'])), (q1, .inl (cU, 64, .inl fU)), (q2, .inl (cV, 64, .inl fB)), (q3, .inl (cZ, 64, .inl fH))] t.heap ∧ va_K (dC, dI) vwCl [(cU, .int), (cV, .int), (cZ, .boolean)] t ∧ va_D A [(a1, .inr (1, [.ref q1, .ref q2, .ref q3, .int nx, .int mn, .int ed', .int 0, .int he'])), (q1, .inl (cU, 64, .inl fU)), (q2, .inl (cV, 64, .inl fB)), (q3, .inl (cZ, 64, .inl fH))]) A) ([.ref a1, .int n] : List Value).toArray s 0 0 A) (F0 m 38 ls []) := by
          intro cnt
          induction cnt with
          | zero =>
            intro k x9 hk hk31 h1 h2 h3 H locs ls hP hD hS hl
            refine lv_iload_n hx hb dX1_end_38 rfl (lv_at hl 0 rfl) ?_
            refine lv_bipush (v := 64) hx hb dX1_end_39 (by decide) ?_
            refine lv_icmp_ge (tgt := 61) hx hb dX1_end_41 (by decide) (fun c_41 => ?_) (fun c_41 => ?_)
            · refine lv_aload_n hx hb dX1_end_61 rfl (lv_at hl 2 rfl) ?_
              refine lv_iconst (v := 1) hx hb dX1_end_62 (by decide) ?_
              refine va_put (D := (dC, dI)) (ci := 1) (v := .int 1) (ty := .boolean) (C := RX1) (T := TX1) (N := 8) hx hb hts hi_1 tyX1 tyX1_ok nmX1 hown hK hP hD hS 0 rfl rfl 7 (by decide) (hts (.fieldLink RX1 30 "SegmentBoxModel" "hasEnd" "Z") (by decide +kernel)) (fun _ h9 => h9) rfl (by decide +kernel) rfl rfl (Nat.le_of_ble_eq_true rfl) dX1_end_63 (fun H locs hP hD hS => ?_)
              have hP : va_P (dC, dI) vwCl [(a1, .inr (1, [.ref q1, .ref q2, .ref q3, .int nx, .int mn, .int ed, .int 0, .int 1])), (q1, .inl (cU, 64, .inl fU)), (q2, .inl (cV, 64, .inl fB)), (q3, .inl (cZ, 64, .inl fH))] H := hP
              have hD : va_D A [(a1, .inr (1, [.ref q1, .ref q2, .ref q3, .int nx, .int mn, .int ed, .int 0, .int 1])), (q1, .inl (cU, 64, .inl fU)), (q2, .inl (cV, 64, .inl fB)), (q3, .inl (cZ, 64, .inl fH))] := hD
              refine lv_aload_n hx hb dX1_end_66 rfl (lv_at hl 2 rfl) ?_
              refine lv_iload_n hx hb dX1_end_67 rfl (lv_at hl 3 rfl) ?_
              refine va_put (D := (dC, dI)) (ci := 1) (v := .int n) (ty := .int) (C := RX1) (T := TX1) (N := 8) hx hb hts hi_1 tyX1 tyX1_ok nmX1 hown hK hP hD hS 0 rfl rfl 5 (by decide) (hts (.fieldLink RX1 34 "SegmentBoxModel" "end" "I") (by decide +kernel)) (fun _ h9 => h9) rfl (by decide +kernel) rfl rfl (Nat.le_of_ble_eq_true rfl) dX1_end_68 (fun H locs hP hD hS => ?_)
              have hP : va_P (dC, dI) vwCl [(a1, .inr (1, [.ref q1, .ref q2, .ref q3, .int nx, .int mn, .int n, .int 0, .int 1])), (q1, .inl (cU, 64, .inl fU)), (q2, .inl (cV, 64, .inl fB)), (q3, .inl (cZ, 64, .inl fH))] H := hP
              have hD : va_D A [(a1, .inr (1, [.ref q1, .ref q2, .ref q3, .int nx, .int mn, .int n, .int 0, .int 1])), (q1, .inl (cU, 64, .inl fU)), (q2, .inl (cV, 64, .inl fB)), (q3, .inl (cZ, 64, .inl fH))] := hD
              refine lv_iconst (v := 1) hx hb dX1_end_71 (by decide) ?_
              exact W.zret (v := 1) hx hb hr rfl (fun t ht hW => ⟨⟨1, (n, 1), rfl, Or.inl ⟨rfl, rfl, rfl, c_16, c_20, c_31, fun i hi h6 => h2 i (by rw [hd, nI_clamp hd0] at h6; exact h6) (by have := (ge64 h1 (by omega)).mp c_41; omega)⟩, by rw [ht]; exact hP, va_K.moved hW.alike hK, hD⟩, hS.F ht⟩) hS.2.2 dX1_end_72
            · exact absurd ((ge64 h1 (by omega)).mpr (by omega)) c_41
          | succ cnt ih =>
            intro k x9 hk hk31 h1 h2 h3 H locs ls hP hD hS hl
            have hk9 : ¬ (64 : Int32) ≤ x9 → k < 64 := fun q => Nat.lt_of_not_le (fun z => q ((ge64 h1 (by omega)).mpr z))
            refine lv_iload_n hx hb dX1_end_38 rfl (lv_at hl 0 rfl) ?_
            refine lv_bipush (v := 64) hx hb dX1_end_39 (by decide) ?_
            refine lv_icmp_ge (tgt := 61) hx hb dX1_end_41 (by decide) (fun c_41 => ?_) (fun c_41 => ?_)
            · refine lv_aload_n hx hb dX1_end_61 rfl (lv_at hl 2 rfl) ?_
              refine lv_iconst (v := 1) hx hb dX1_end_62 (by decide) ?_
              refine va_put (D := (dC, dI)) (ci := 1) (v := .int 1) (ty := .boolean) (C := RX1) (T := TX1) (N := 8) hx hb hts hi_1 tyX1 tyX1_ok nmX1 hown hK hP hD hS 0 rfl rfl 7 (by decide) (hts (.fieldLink RX1 30 "SegmentBoxModel" "hasEnd" "Z") (by decide +kernel)) (fun _ h9 => h9) rfl (by decide +kernel) rfl rfl (Nat.le_of_ble_eq_true rfl) dX1_end_63 (fun H locs hP hD hS => ?_)
              have hP : va_P (dC, dI) vwCl [(a1, .inr (1, [.ref q1, .ref q2, .ref q3, .int nx, .int mn, .int ed, .int 0, .int 1])), (q1, .inl (cU, 64, .inl fU)), (q2, .inl (cV, 64, .inl fB)), (q3, .inl (cZ, 64, .inl fH))] H := hP
              have hD : va_D A [(a1, .inr (1, [.ref q1, .ref q2, .ref q3, .int nx, .int mn, .int ed, .int 0, .int 1])), (q1, .inl (cU, 64, .inl fU)), (q2, .inl (cV, 64, .inl fB)), (q3, .inl (cZ, 64, .inl fH))] := hD
              refine lv_aload_n hx hb dX1_end_66 rfl (lv_at hl 2 rfl) ?_
              refine lv_iload_n hx hb dX1_end_67 rfl (lv_at hl 3 rfl) ?_
              refine va_put (D := (dC, dI)) (ci := 1) (v := .int n) (ty := .int) (C := RX1) (T := TX1) (N := 8) hx hb hts hi_1 tyX1 tyX1_ok nmX1 hown hK hP hD hS 0 rfl rfl 5 (by decide) (hts (.fieldLink RX1 34 "SegmentBoxModel" "end" "I") (by decide +kernel)) (fun _ h9 => h9) rfl (by decide +kernel) rfl rfl (Nat.le_of_ble_eq_true rfl) dX1_end_68 (fun H locs hP hD hS => ?_)
              have hP : va_P (dC, dI) vwCl [(a1, .inr (1, [.ref q1, .ref q2, .ref q3, .int nx, .int mn, .int n, .int 0, .int 1])), (q1, .inl (cU, 64, .inl fU)), (q2, .inl (cV, 64, .inl fB)), (q3, .inl (cZ, 64, .inl fH))] H := hP
              have hD : va_D A [(a1, .inr (1, [.ref q1, .ref q2, .ref q3, .int nx, .int mn, .int n, .int 0, .int 1])), (q1, .inl (cU, 64, .inl fU)), (q2, .inl (cV, 64, .inl fB)), (q3, .inl (cZ, 64, .inl fH))] := hD
              refine lv_iconst (v := 1) hx hb dX1_end_71 (by decide) ?_
              exact W.zret (v := 1) hx hb hr rfl (fun t ht hW => ⟨⟨1, (n, 1), rfl, Or.inl ⟨rfl, rfl, rfl, c_16, c_20, c_31, fun i hi h6 => h2 i (by rw [hd, nI_clamp hd0] at h6; exact h6) (by have := (ge64 h1 (by omega)).mp c_41; omega)⟩, by rw [ht]; exact hP, va_K.moved hW.alike hK, hD⟩, hS.F ht⟩) hS.2.2 dX1_end_72
            · refine lv_aload_n hx hb dX1_end_44 rfl (lv_at hl 2 rfl) ?_
              refine va_get (D := (dC, dI)) (ci := 1) (v := .ref q3) (C := RX1) (T := TX1) (N := 8) hx hb hts hi_1 hown hK hP 0 rfl rfl 2 (by decide) (hts (.fieldLink RX1 16 "SegmentBoxModel" "isHeld" "[Z") (by decide +kernel)) (fun _ h9 => h9) rfl dX1_end_45 ?_
              refine lv_iload_n hx hb dX1_end_48 rfl (lv_at hl 0 rfl) ?_
              refine va_zald hx hb hK hP 3 2 rfl rfl (inb_of h1 (hk9 c_41)) dX1_end_49 ?_
              refine lv_if_eq (tgt := 55) hx hb dX1_end_50 (by decide) (fun c_50 => ?_) (fun c_50 => ?_)
              · obtain ⟨x_1, ex_1⟩ : ∃ y : Int32, y = x9 + 1 := ⟨_, rfl⟩
                refine lv_iinc (v := x_1) (lv' := [(3, .int x_1), (2, .int (n - nx)), (0, .ref a1), (1, .int n)]) hx hb dX1_end_55 hl (k := 0) rfl (by rw [ex_1]; rfl) (by decide) rfl (fun ls hl => ?_)
                refine lv_goto (tgt := 38) hx hb dX1_end_58 (by decide) ?_
                have hk8 := hk9 c_41
                exact ih (k + 1) x_1 (by omega) (by omega) (by rw [ex_1, h1, nI_succ]) (fun i h6 h7 => by
                  by_cases q : i = k
                  · rw [q, ← cl_of h1 (by omega)]; exact c_50
                  · exact h2 i h6 (by omega)) (by omega) H locs ls hP hD hS (lv_sub hl [0, 1, 2, 3] rfl)
              · refine lv_iconst (v := 0) hx hb dX1_end_53 (by decide) ?_
                exact W.zret (v := 0) hx hb hr rfl (fun t ht hW => ⟨⟨0, (ed, he), rfl, Or.inr ⟨rfl, rfl, rfl, fun z => c_50 (by rw [cl_of h1 (by omega)]; exact z.2.2.2 k (hk9 c_41) (by rw [hd, nI_clamp hd0]; exact h3))⟩, by rw [ht]; exact hP, va_K.moved hW.alike hK, hD⟩, hS.F ht⟩) hS.2.2 dX1_end_54
        refine lv_iload_n hx hb dX1_end_36 rfl (lv_at hl 0 rfl) ?_
        refine lv_istore_n (lv' := [(3, .int (n - nx)), (2, .int (n - nx)), (0, .ref a1), (1, .int n)]) hx hb dX1_end_37 rfl hl (by decide) rfl (fun ls hl => ?_)
        exact loop 64 d0 (n - nx) (by omega) hd0 hd (fun i h6 h7 => absurd h7 (by omega)) (Nat.le_refl _) H _ ls hP hD hS (lv_sub hl [0, 1, 2, 3] rfl)
      · refine lv_iconst (v := 0) hx hb dX1_end_34 (by decide) ?_
        exact W.zret (v := 0) hx hb hr rfl (fun t ht hW => ⟨⟨0, (ed, he), rfl, Or.inr ⟨rfl, rfl, rfl, fun z => c_31 z.2.2.1⟩, by rw [ht]; exact hP, va_K.moved hW.alike hK, hD⟩, hS.F ht⟩) hS.2.2 dX1_end_35
