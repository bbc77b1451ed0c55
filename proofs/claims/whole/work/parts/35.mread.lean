set_option maxHeartbeats 4000000 in
set_option maxRecDepth 100000 in
theorem m_read (l : Launch) (dC : Nat → ClassId) (dI : Nat → Nat → Nat) (a1 q1 q2 q3 : Nat) (cU cV cZ : ClassId) (nx mn ed th he : Int32) (fU fB fH : Nat → Int32) (u : Nat) (sz : Nat) (hu : mn = nI u) (hu4 : u ≤ 64) : Met l yX1_read wsX1_read ({ frames := 0, cells := 0, slots := 0, locals := 0 }) (va_Pc [.ref a1] (fun U => U.heap.size = sz ∧ va_P (dC, dI) vwCl [(a1, .inr (1, [.ref q1, .ref q2, .ref q3, .int nx, .int mn, .int ed, .int th, .int he])), (q1, .inl (cU, 64, .inl fU)), (q2, .inl (cV, 64, .inl fB)), (q3, .inl (cZ, 64, .inl fH))] U.heap ∧ va_K (dC, dI) vwCl [(cU, .int), (cV, .int), (cZ, .boolean)] U ∧ va_D (fun _ => True) [(a1, .inr (1, [.ref q1, .ref q2, .ref q3, .int nx, .int mn, .int ed, .int th, .int he])), (q1, .inl (cU, 64, .inl fU)), (q2, .inl (cV, 64, .inl fB)), (q3, .inl (cZ, 64, .inl fH))])) (va_Qi (fun (r : Int32) (u0 : Int32 × (Nat → Int32)) => match u0 with | (mn', fU') => (u = 0 ∧ mn' = mn ∧ fU' = fU ∧ r = (if ¬ he = 0 ∧ nx = ed then -2 else -1)) ∨ ∃ u1 : Nat, u = u1 + 1 ∧ mn' = nI u1 ∧ r = fU 0 ∧ ∀ k, k < u1 → fU' k = fU (k + 1)) (fun (u0 : Int32 × (Nat → Int32)) (t : State) => match u0 with | (mn', fU') => va_P (dC, dI) vwCl [(a1, .inr (1, [.ref q1, .ref q2, .ref q3, .int nx, .int mn', .int ed, .int 0, .int he])), (q1, .inl (cU, 64, .inl fU')), (q2, .inl (cV, 64, .inl fB)), (q3, .inl (cZ, 64, .inl fH))] t.heap ∧ va_K (dC, dI) vwCl [(cU, .int), (cV, .int), (cZ, .boolean)] t ∧ va_D (va_A [(a1, .inr (1, [.ref q1, .ref q2, .ref q3, .int nx, .int mn, .int ed, .int th, .int he])), (q1, .inl (cU, 64, .inl fU)), (q2, .inl (cV, 64, .inl fB)), (q3, .inl (cZ, 64, .inl fH))] sz) [(a1, .inr (1, [.ref q1, .ref q2, .ref q3, .int nx, .int mn', .int ed, .int 0, .int he])), (q1, .inl (cU, 64, .inl fU')), (q2, .inl (cV, 64, .inl fB)), (q3, .inl (cZ, 64, .inl fH))]) (va_A [(a1, .inr (1, [.ref q1, .ref q2, .ref q3, .int nx, .int mn, .int ed, .int th, .int he])), (q1, .inl (cU, 64, .inl fU)), (q2, .inl (cV, 64, .inl fB)), (q3, .inl (cZ, 64, .inl fH))] sz)) 0 0 (va_A [(a1, .inr (1, [.ref q1, .ref q2, .ref q3, .int nx, .int mn, .int ed, .int th, .int he])), (q1, .inl (cU, 64, .inl fU)), (q2, .inl (cV, 64, .inl fB)), (q3, .inl (cZ, 64, .inl fH))] sz) := by
  refine Met.ofW (cc := cX1_read) (maxL := 3) (ret := (some .int)) (by decide) rfl ?_
  intro p e s m args below meth c s₁ B hml hv
  obtain ⟨rfl, hsz, hP, hK, hD0⟩ := hv
  have hx := B.exec
  have hb := B.bytes
  have hr := B.returns
  have hts := atoms_spec (ws := wsX1_read) B.pre
  have hown : s.vm.findClass RX1 = some m.cls := findClass_of_methodNamed B.named
  have hlocks := B.notSynchronized
  subst hsz
  have hD := hD0.self (sz := s.heap.size)
  generalize hAe : va_A [(a1, .inr (1, [.ref q1, .ref q2, .ref q3, .int nx, .int mn, .int ed, .int th, .int he])), (q1, .inl (cU, 64, .inl fU)), (q2, .inl (cV, 64, .inl fB)), (q3, .inl (cZ, 64, .inl fH))] s.heap.size = A at hD ⊢
  have hA : ∀ q : Nat, s.heap.size ≤ q → A q := fun q h => by rw [← hAe]; exact Or.inr h
  have hS : va_S A s.heap s.heap [] := va_S.rf
  have hP : va_P (dC, dI) vwCl [(a1, .inr (1, [.ref q1, .ref q2, .ref q3, .int nx, .int mn, .int ed, .int th, .int he])), (q1, .inl (cU, 64, .inl fU)), (q2, .inl (cV, 64, .inl fB)), (q3, .inl (cZ, 64, .inl fH))] s.heap := hP
  have hl := lv_entry ([.ref a1]) (n := 3) (Nat.le_of_ble_eq_true rfl)
  rw [lg_entry_eq]
  generalize (lg_sl ([.ref a1]) ++ List.replicate (3 - (lg_sl ([.ref a1])).length) Slot.unset).toArray = ls at hl ⊢
  have hl : lv_has ls 3 [(0, .ref a1)] := hl
  have hi_1 : ∀ w ∈ u_ws RX1 TX1 8, w ∈ wsX1_read := by decide +kernel
  refine lv_aload_n hx hb dX1_read_0 rfl (lv_at hl 0 rfl) ?_
  refine lv_iconst (v := 0) hx hb dX1_read_1 (by decide) ?_
  refine va_put (D := (dC, dI)) (ci := 1) (v := .int 0) (ty := .int) (C := RX1) (T := TX1) (N := 8) hx hb hts hi_1 tyX1 tyX1_ok nmX1 hown hK hP hD hS 0 rfl rfl 6 (by decide) (hts (.fieldLink RX1 20 "SegmentBoxModel" "thrown" "I") (by decide +kernel)) (fun _ h9 => h9) rfl (by decide +kernel) rfl rfl (Nat.le_of_ble_eq_true rfl) dX1_read_2 (fun H locs hP hD hS => ?_)
  have hP : va_P (dC, dI) vwCl [(a1, .inr (1, [.ref q1, .ref q2, .ref q3, .int nx, .int mn, .int ed, .int 0, .int he])), (q1, .inl (cU, 64, .inl fU)), (q2, .inl (cV, 64, .inl fB)), (q3, .inl (cZ, 64, .inl fH))] H := hP
  have hD : va_D A [(a1, .inr (1, [.ref q1, .ref q2, .ref q3, .int nx, .int mn, .int ed, .int 0, .int he])), (q1, .inl (cU, 64, .inl fU)), (q2, .inl (cV, 64, .inl fB)), (q3, .inl (cZ, 64, .inl fH))] := hD
  refine lv_aload_n hx hb dX1_read_5 rfl (lv_at hl 0 rfl) ?_
  refine va_get (D := (dC, dI)) (ci := 1) (v := .int mn) (C := RX1) (T := TX1) (N := 8) hx hb hts hi_1 hown hK hP 0 rfl rfl 4 (by decide) (hts (.fieldLink RX1 27 "SegmentBoxModel" "many" "I") (by decide +kernel)) (fun _ h9 => h9) rfl dX1_read_6 ?_
  refine lv_if_ne (tgt := 37) hx hb dX1_read_9 (by decide) (fun c_9 => ?_) (fun c_9 => ?_)
  · refine lv_aload_n hx hb dX1_read_37 rfl (lv_at hl 0 rfl) ?_
    refine va_get (D := (dC, dI)) (ci := 1) (v := .ref q1) (C := RX1) (T := TX1) (N := 8) hx hb hts hi_1 hown hK hP 0 rfl rfl 0 (by decide) (hts (.fieldLink RX1 9 "SegmentBoxModel" "unread" "[I") (by decide +kernel)) (fun _ h9 => h9) rfl dX1_read_38 ?_
    refine lv_iconst (v := 0) hx hb dX1_read_41 (by decide) ?_
    refine va_iald hx hb hK hP 1 0 rfl rfl inb_0 dX1_read_42 ?_
    refine lv_istore_n (lv' := [(1, .int (fU (0 : Int32).toNatClampNeg)), (0, .ref a1)]) hx hb dX1_read_43 rfl hl (by decide) rfl (fun ls hl => ?_)
    refine lv_aload_n hx hb dX1_read_44 rfl (lv_at hl 1 rfl) ?_
    refine lv_dup hx hb dX1_read_45 rfl ?_
    refine va_get (D := (dC, dI)) (ci := 1) (v := .int mn) (C := RX1) (T := TX1) (N := 8) hx hb hts hi_1 hown hK hP 0 rfl rfl 4 (by decide) (hts (.fieldLink RX1 27 "SegmentBoxModel" "many" "I") (by decide +kernel)) (fun _ h9 => h9) rfl dX1_read_46 ?_
    refine lv_iconst (v := 1) hx hb dX1_read_49 (by decide) ?_
    refine lv_isub hx hb dX1_read_50 ?_
    refine lv_topi (fun f_1 ef_1 => ?_)
    refine va_put (D := (dC, dI)) (ci := 1) (v := .int f_1) (ty := .int) (C := RX1) (T := TX1) (N := 8) hx hb hts hi_1 tyX1 tyX1_ok nmX1 hown hK hP hD hS 0 rfl rfl 4 (by decide) (hts (.fieldLink RX1 27 "SegmentBoxModel" "many" "I") (by decide +kernel)) (fun _ h9 => h9) rfl (by decide +kernel) rfl rfl (Nat.le_of_ble_eq_true rfl) dX1_read_51 (fun H locs hP hD hS => ?_)
    have hP : va_P (dC, dI) vwCl [(a1, .inr (1, [.ref q1, .ref q2, .ref q3, .int nx, .int f_1, .int ed, .int 0, .int he])), (q1, .inl (cU, 64, .inl fU)), (q2, .inl (cV, 64, .inl fB)), (q3, .inl (cZ, 64, .inl fH))] H := hP
    have hD : va_D A [(a1, .inr (1, [.ref q1, .ref q2, .ref q3, .int nx, .int f_1, .int ed, .int 0, .int he])), (q1, .inl (cU, 64, .inl fU)), (q2, .inl (cV, 64, .inl fB)), (q3, .inl (cZ, 64, .inl fH))] := hD
    obtain ⟨u1, hu1⟩ : ∃ u1, u = u1 + 1 := ⟨u - 1, by
      have : u ≠ 0 := fun z => c_9 (by rw [hu, z]; rfl)
      omega⟩
    have em : f_1 = nI u1 := by rw [ef_1, hu, hu1, nI_pred]
    have loop : ∀ (cnt k : Nat) (x9 : Int32) (f9 : Nat → Int32), k + cnt = u1 → x9 = nI k → (∀ i, i < k → f9 i = fU (i + 1)) → (∀ i, k ≤ i → i < 64 → f9 i = fU i) → ∀ (H : Heap) (locs : List Loc) (ls : Array Slot), va_P (dC, dI) vwCl [(a1, .inr (1, [.ref q1, .ref q2, .ref q3, .int nx, .int f_1, .int ed, .int 0, .int he])), (q1, .inl (cU, 64, .inl f9)), (q2, .inl (cV, 64, .inl fB)), (q3, .inl (cZ, 64, .inl fH))] H → va_D A [(a1, .inr (1, [.ref q1, .ref q2, .ref q3, .int nx, .int f_1, .int ed, .int 0, .int he])), (q1, .inl (cU, 64, .inl f9)), (q2, .inl (cV, 64, .inl fB)), (q3, .inl (cZ, 64, .inl fH))] → va_S A s.heap H locs → lv_has ls 3 [(2, .int x9), (1, .int (fU (0 : Int32).toNatClampNeg)), (0, .ref a1)] → W p l e (headSpec wsX1_read ({ frames := 0, cells := 0, slots := 0, locals := 0 })).room s m ([.ref a1] : List Value).toArray below meth c H locs 0 0 (MQ below (va_Qi (fun (r : Int32) (u0 : Int32 × (Nat → Int32)) => match u0 with | (mn', fU') => (u = 0 ∧ mn' = mn ∧ fU' = fU ∧ r = (if ¬ he = 0 ∧ nx = ed then -2 else -1)) ∨ ∃ u1 : Nat, u = u1 + 1 ∧ mn' = nI u1 ∧ r = fU 0 ∧ ∀ k, k < u1 → fU' k = fU (k + 1)) (fun (u0 : Int32 × (Nat → Int32)) (t : State) => match u0 with | (mn', fU') => va_P (dC, dI) vwCl [(a1, .inr (1, [.ref q1, .ref q2, .ref q3, .int nx, .int mn', .int ed, .int 0, .int he])), (q1, .inl (cU, 64, .inl fU')), (q2, .inl (cV, 64, .inl fB)), (q3, .inl (cZ, 64, .inl fH))] t.heap ∧ va_K (dC, dI) vwCl [(cU, .int), (cV, .int), (cZ, .boolean)] t ∧ va_D A [(a1, .inr (1, [.ref q1, .ref q2, .ref q3, .int nx, .int mn', .int ed, .int 0, .int he])), (q1, .inl (cU, 64, .inl fU')), (q2, .inl (cV, 64, .inl fB)), (q3, .inl (cZ, 64, .inl fH))]) A) ([.ref a1] : List Value).toArray s 0 0 A) (F0 m 56 ls []) := by
      intro cnt
      induction cnt with
      | zero =>
        intro k x9 f9 hk h1 h2 h3 H locs ls hP hD hS hl
        refine lv_iload_n hx hb dX1_read_56 rfl (lv_at hl 0 rfl) ?_
        refine lv_aload_n hx hb dX1_read_57 rfl (lv_at hl 2 rfl) ?_
        refine va_get (D := (dC, dI)) (ci := 1) (v := .int f_1) (C := RX1) (T := TX1) (N := 8) hx hb hts hi_1 hown hK hP 0 rfl rfl 4 (by decide) (hts (.fieldLink RX1 27 "SegmentBoxModel" "many" "I") (by decide +kernel)) (fun _ h9 => h9) rfl dX1_read_58 ?_
        refine lv_icmp_ge (tgt := 84) hx hb dX1_read_61 (by decide) (fun c_61 => ?_) (fun c_61 => ?_)
        · refine lv_iload_n hx hb dX1_read_84 rfl (lv_at hl 1 rfl) ?_
          exact W.iret (v := fU (0 : Int32).toNatClampNeg) hx hb hr (fun t ht hW => ⟨⟨fU (0 : Int32).toNatClampNeg, (f_1, f9), rfl, Or.inr ⟨u1, hu1, em, rfl, fun i hi => h2 i (by omega)⟩, by rw [ht]; exact hP, va_K.moved hW.alike hK, hD⟩, hS.F ht⟩) hS.2.2 dX1_read_85
        · exact absurd (by rw [em, h1]; exact nI_le (by omega) (by omega)) c_61
      | succ cnt ih =>
        intro k x9 f9 hk h1 h2 h3 H locs ls hP hD hS hl
        refine lv_iload_n hx hb dX1_read_56 rfl (lv_at hl 0 rfl) ?_
        refine lv_aload_n hx hb dX1_read_57 rfl (lv_at hl 2 rfl) ?_
        refine va_get (D := (dC, dI)) (ci := 1) (v := .int f_1) (C := RX1) (T := TX1) (N := 8) hx hb hts hi_1 hown hK hP 0 rfl rfl 4 (by decide) (hts (.fieldLink RX1 27 "SegmentBoxModel" "many" "I") (by decide +kernel)) (fun _ h9 => h9) rfl dX1_read_58 ?_
        refine lv_icmp_ge (tgt := 84) hx hb dX1_read_61 (by decide) (fun c_61 => ?_) (fun c_61 => ?_)
        · exact absurd c_61 (by rw [em, h1]; exact nI_ge (by omega) (by omega))
        · refine lv_aload_n hx hb dX1_read_64 rfl (lv_at hl 2 rfl) ?_
          refine va_get (D := (dC, dI)) (ci := 1) (v := .ref q1) (C := RX1) (T := TX1) (N := 8) hx hb hts hi_1 hown hK hP 0 rfl rfl 0 (by decide) (hts (.fieldLink RX1 9 "SegmentBoxModel" "unread" "[I") (by decide +kernel)) (fun _ h9 => h9) rfl dX1_read_65 ?_
          refine lv_iload_n hx hb dX1_read_68 rfl (lv_at hl 0 rfl) ?_
          refine lv_aload_n hx hb dX1_read_69 rfl (lv_at hl 2 rfl) ?_
          refine va_get (D := (dC, dI)) (ci := 1) (v := .ref q1) (C := RX1) (T := TX1) (N := 8) hx hb hts hi_1 hown hK hP 0 rfl rfl 0 (by decide) (hts (.fieldLink RX1 9 "SegmentBoxModel" "unread" "[I") (by decide +kernel)) (fun _ h9 => h9) rfl dX1_read_70 ?_
          refine lv_iload_n hx hb dX1_read_73 rfl (lv_at hl 0 rfl) ?_
          refine lv_iconst (v := 1) hx hb dX1_read_74 (by decide) ?_
          refine lv_iadd hx hb dX1_read_75 ?_
          refine va_iald hx hb hK hP 1 0 rfl rfl (inb_of (show x9 + 1 = nI (k + 1) by rw [h1, nI_succ]) (by omega)) dX1_read_76 ?_
          refine va_iast hx hb hK hP hD hS 1 0 rfl rfl (inb_of h1 (by omega)) dX1_read_77 (fun H locs hP hD hS => ?_)
          have hP : va_P (dC, dI) vwCl [(a1, .inr (1, [.ref q1, .ref q2, .ref q3, .int nx, .int f_1, .int ed, .int 0, .int he])), (q1, .inl (cU, 64, .inl (upd f9 x9.toNatClampNeg (f9 (x9 + 1).toNatClampNeg)))), (q2, .inl (cV, 64, .inl fB)), (q3, .inl (cZ, 64, .inl fH))] H := hP
          have hD : va_D A [(a1, .inr (1, [.ref q1, .ref q2, .ref q3, .int nx, .int f_1, .int ed, .int 0, .int he])), (q1, .inl (cU, 64, .inl (upd f9 x9.toNatClampNeg (f9 (x9 + 1).toNatClampNeg)))), (q2, .inl (cV, 64, .inl fB)), (q3, .inl (cZ, 64, .inl fH))] := hD
          obtain ⟨x_2, ex_2⟩ : ∃ y : Int32, y = x9 + 1 := ⟨_, rfl⟩
          refine lv_iinc (v := x_2) (lv' := [(2, .int x_2), (1, .int (fU (0 : Int32).toNatClampNeg)), (0, .ref a1)]) hx hb dX1_read_78 hl (k := 0) rfl (by rw [ex_2]; rfl) (by decide) rfl (fun ls hl => ?_)
          refine lv_goto (tgt := 56) hx hb dX1_read_81 (by decide) ?_
          have ek : x9.toNatClampNeg = k := cl_of h1 (by omega)
          have ek1 : (x9 + 1).toNatClampNeg = k + 1 := cl_of (show x9 + 1 = nI (k + 1) by rw [h1, nI_succ]) (by omega)
          exact ih (k + 1) x_2 _ (by omega) (by rw [ex_2, h1, nI_succ]) (fun i hi => by
            rw [ek, ek1]
            by_cases q : i = k
            · rw [q, pk_us]; exact h3 (k + 1) (by omega) (by omega)
            · rw [pk_un q]; exact h2 i (by omega)) (fun i h6 h7 => by rw [ek, pk_un (by omega)]; exact h3 i (by omega) h7) H locs ls hP hD hS (lv_sub hl [0, 1, 2] rfl)
    refine lv_iconst (v := 0) hx hb dX1_read_54 (by decide) ?_
    refine lv_istore_n (lv' := [(2, .int 0), (1, .int (fU (0 : Int32).toNatClampNeg)), (0, .ref a1)]) hx hb dX1_read_55 rfl hl (by decide) rfl (fun ls hl => ?_)
    exact loop u1 0 0 fU (by omega) nI_0.symm (fun i hi => absurd hi (by omega)) (fun i _ _ => rfl) H _ ls hP hD hS (lv_sub hl [0, 1, 2] rfl)
  · refine lv_aload_n hx hb dX1_read_12 rfl (lv_at hl 0 rfl) ?_
    refine va_get (D := (dC, dI)) (ci := 1) (v := .int he) (C := RX1) (T := TX1) (N := 8) hx hb hts hi_1 hown hK hP 0 rfl rfl 7 (by decide) (hts (.fieldLink RX1 30 "SegmentBoxModel" "hasEnd" "Z") (by decide +kernel)) (fun _ h9 => h9) rfl dX1_read_13 ?_
    refine lv_if_eq (tgt := 35) hx hb dX1_read_16 (by decide) (fun c_16 => ?_) (fun c_16 => ?_)
    · refine lv_iconst (v := -1) hx hb dX1_read_35 (by decide) ?_
      exact W.iret (v := (-1)) hx hb hr (fun t ht hW => ⟨⟨(-1), (mn, fU), rfl, Or.inl ⟨by rw [hu] at c_9; exact (nI_eq (b := 0) (by omega) (by decide)).mp c_9, rfl, rfl, (if_neg (fun z => z.1 c_16)).symm⟩, by rw [ht]; exact hP, va_K.moved hW.alike hK, hD⟩, hS.F ht⟩) hS.2.2 dX1_read_36
    · refine lv_aload_n hx hb dX1_read_19 rfl (lv_at hl 0 rfl) ?_
      refine va_get (D := (dC, dI)) (ci := 1) (v := .int nx) (C := RX1) (T := TX1) (N := 8) hx hb hts hi_1 hown hK hP 0 rfl rfl 3 (by decide) (hts (.fieldLink RX1 24 "SegmentBoxModel" "next" "I") (by decide +kernel)) (fun _ h9 => h9) rfl dX1_read_20 ?_
      refine lv_aload_n hx hb dX1_read_23 rfl (lv_at hl 0 rfl) ?_
      refine va_get (D := (dC, dI)) (ci := 1) (v := .int ed) (C := RX1) (T := TX1) (N := 8) hx hb hts hi_1 hown hK hP 0 rfl rfl 5 (by decide) (hts (.fieldLink RX1 34 "SegmentBoxModel" "end" "I") (by decide +kernel)) (fun _ h9 => h9) rfl dX1_read_24 ?_
      refine lv_icmp_ne (tgt := 35) hx hb dX1_read_27 (by decide) (fun c_27 => ?_) (fun c_27 => ?_)
      · refine lv_iconst (v := -1) hx hb dX1_read_35 (by decide) ?_
        exact W.iret (v := (-1)) hx hb hr (fun t ht hW => ⟨⟨(-1), (mn, fU), rfl, Or.inl ⟨by rw [hu] at c_9; exact (nI_eq (b := 0) (by omega) (by decide)).mp c_9, rfl, rfl, (if_neg (fun z => c_27 z.2)).symm⟩, by rw [ht]; exact hP, va_K.moved hW.alike hK, hD⟩, hS.F ht⟩) hS.2.2 dX1_read_36
      · refine lv_bipush (v := -2) hx hb dX1_read_30 (by decide) ?_
        refine lv_goto (tgt := 36) hx hb dX1_read_32 (by decide) ?_
        exact W.iret (v := (-2)) hx hb hr (fun t ht hW => ⟨⟨(-2), (mn, fU), rfl, Or.inl ⟨by rw [hu] at c_9; exact (nI_eq (b := 0) (by omega) (by decide)).mp c_9, rfl, rfl, (if_pos ⟨c_16, c_27⟩).symm⟩, by rw [ht]; exact hP, va_K.moved hW.alike hK, hD⟩, hS.F ht⟩) hS.2.2 dX1_read_36
