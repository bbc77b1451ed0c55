set_option maxHeartbeats 4000000 in
set_option maxRecDepth 100000 in
theorem m_up (l : Launch) (dC : Nat → ClassId) (dI : Nat → Nat → Nat) (a1 q1 q2 q3 : Nat) (cU cV cZ : ClassId) (nx mn ed th he : Int32) (fU fB fH : Nat → Int32) (u : Nat) (sz : Nat) (hu : mn = nI u) (hlt : u < 64) (hz : ∀ k, k < 64 → fH k = 0 ∨ fH k = 1) : Met l yX1_up wsX1_up ({ frames := 0, cells := 0, slots := 0, locals := 0 }) (va_Pc [.ref a1] (fun U => U.heap.size = sz ∧ va_P (dC, dI) vwCl [(a1, .inr (1, [.ref q1, .ref q2, .ref q3, .int nx, .int mn, .int ed, .int th, .int he])), (q1, .inl (cU, 64, .inl fU)), (q2, .inl (cV, 64, .inl fB)), (q3, .inl (cZ, 64, .inl fH))] U.heap ∧ va_K (dC, dI) vwCl [(cU, .int), (cV, .int), (cZ, .boolean)] U ∧ va_D (fun _ => True) [(a1, .inr (1, [.ref q1, .ref q2, .ref q3, .int nx, .int mn, .int ed, .int th, .int he])), (q1, .inl (cU, 64, .inl fU)), (q2, .inl (cV, 64, .inl fB)), (q3, .inl (cZ, 64, .inl fH))])) (va_Qv (fun (u0 : Int32 × Int32 × (Nat → Int32) × (Nat → Int32) × (Nat → Int32)) => match u0 with | (nx', mn', fU', fB', fH') => nx' = nx + 1 ∧ mn' = nI (u + 1) ∧ fU' = upd fU u (fB 0) ∧ (∀ k, k < 63 → fB' k = fB (k + 1)) ∧ (∀ k, k < 63 → fH' k = fH (k + 1)) ∧ fH' 63 = 0) (fun (u0 : Int32 × Int32 × (Nat → Int32) × (Nat → Int32) × (Nat → Int32)) (t : State) => match u0 with | (nx', mn', fU', fB', fH') => va_P (dC, dI) vwCl [(a1, .inr (1, [.ref q1, .ref q2, .ref q3, .int nx', .int mn', .int ed, .int th, .int he])), (q1, .inl (cU, 64, .inl fU')), (q2, .inl (cV, 64, .inl fB')), (q3, .inl (cZ, 64, .inl fH'))] t.heap ∧ va_K (dC, dI) vwCl [(cU, .int), (cV, .int), (cZ, .boolean)] t ∧ va_D (va_A [(a1, .inr (1, [.ref q1, .ref q2, .ref q3, .int nx, .int mn, .int ed, .int th, .int he])), (q1, .inl (cU, 64, .inl fU)), (q2, .inl (cV, 64, .inl fB)), (q3, .inl (cZ, 64, .inl fH))] sz) [(a1, .inr (1, [.ref q1, .ref q2, .ref q3, .int nx', .int mn', .int ed, .int th, .int he])), (q1, .inl (cU, 64, .inl fU')), (q2, .inl (cV, 64, .inl fB')), (q3, .inl (cZ, 64, .inl fH'))]) (va_A [(a1, .inr (1, [.ref q1, .ref q2, .ref q3, .int nx, .int mn, .int ed, .int th, .int he])), (q1, .inl (cU, 64, .inl fU)), (q2, .inl (cV, 64, .inl fB)), (q3, .inl (cZ, 64, .inl fH))] sz)) 0 0 (va_A [(a1, .inr (1, [.ref q1, .ref q2, .ref q3, .int nx, .int mn, .int ed, .int th, .int he])), (q1, .inl (cU, 64, .inl fU)), (q2, .inl (cV, 64, .inl fB)), (q3, .inl (cZ, 64, .inl fH))] sz) := by
  refine Met.ofW (cc := cX1_up) (maxL := 2) (ret := none) (by decide) rfl ?_
  intro p e s m args below meth c s₁ B hml hv
  obtain ⟨rfl, hsz, hP, hK, hD0⟩ := hv
  have hx := B.exec
  have hb := B.bytes
  have hr := B.returns
  have hts := atoms_spec (ws := wsX1_up) B.pre
  have hown : s.vm.findClass RX1 = some m.cls := findClass_of_methodNamed B.named
  have hlocks := B.notSynchronized
  subst hsz
  have hD := hD0.self (sz := s.heap.size)
  generalize hAe : va_A [(a1, .inr (1, [.ref q1, .ref q2, .ref q3, .int nx, .int mn, .int ed, .int th, .int he])), (q1, .inl (cU, 64, .inl fU)), (q2, .inl (cV, 64, .inl fB)), (q3, .inl (cZ, 64, .inl fH))] s.heap.size = A at hD ⊢
  have hA : ∀ q : Nat, s.heap.size ≤ q → A q := fun q h => by rw [← hAe]; exact Or.inr h
  have hS : va_S A s.heap s.heap [] := va_S.rf
  have hP : va_P (dC, dI) vwCl [(a1, .inr (1, [.ref q1, .ref q2, .ref q3, .int nx, .int mn, .int ed, .int th, .int he])), (q1, .inl (cU, 64, .inl fU)), (q2, .inl (cV, 64, .inl fB)), (q3, .inl (cZ, 64, .inl fH))] s.heap := hP
  have hl := lv_entry ([.ref a1]) (n := 2) (Nat.le_of_ble_eq_true rfl)
  rw [lg_entry_eq]
  generalize (lg_sl ([.ref a1]) ++ List.replicate (2 - (lg_sl ([.ref a1])).length) Slot.unset).toArray = ls at hl ⊢
  have hl : lv_has ls 2 [(0, .ref a1)] := hl
  have hi_1 : ∀ w ∈ u_ws RX1 TX1 8, w ∈ wsX1_up := by decide +kernel
  obtain ⟨nx', enx⟩ : ∃ y : Int32, y = nx + 1 := ⟨_, rfl⟩
  obtain ⟨mn', emn⟩ : ∃ y : Int32, y = mn + 1 := ⟨_, rfl⟩
  have loop : ∀ (cnt k : Nat) (x9 : Int32) (f8 f9 : Nat → Int32), k + cnt = 63 → x9 = nI k → (∀ i, i < k → f8 i = fB (i + 1)) → (∀ i, i < k → f9 i = fH (i + 1)) → (∀ i, k ≤ i → i < 64 → f8 i = fB i) → (∀ i, k ≤ i → i < 64 → f9 i = fH i) → ∀ (H : Heap) (locs : List Loc) (ls : Array Slot), va_P (dC, dI) vwCl [(a1, .inr (1, [.ref q1, .ref q2, .ref q3, .int nx', .int mn', .int ed, .int th, .int he])), (q1, .inl (cU, 64, .inl (upd fU mn.toNatClampNeg (fB (0 : Int32).toNatClampNeg)))), (q2, .inl (cV, 64, .inl f8)), (q3, .inl (cZ, 64, .inl f9))] H → va_D A [(a1, .inr (1, [.ref q1, .ref q2, .ref q3, .int nx', .int mn', .int ed, .int th, .int he])), (q1, .inl (cU, 64, .inl (upd fU mn.toNatClampNeg (fB (0 : Int32).toNatClampNeg)))), (q2, .inl (cV, 64, .inl f8)), (q3, .inl (cZ, 64, .inl f9))] → va_S A s.heap H locs → lv_has ls 2 [(1, .int x9), (0, .ref a1)] → W p l e (headSpec wsX1_up ({ frames := 0, cells := 0, slots := 0, locals := 0 })).room s m ([.ref a1] : List Value).toArray below meth c H locs 0 0 (MQ below (va_Qv (fun (u0 : Int32 × Int32 × (Nat → Int32) × (Nat → Int32) × (Nat → Int32)) => match u0 with | (nx', mn', fU', fB', fH') => nx' = nx + 1 ∧ mn' = nI (u + 1) ∧ fU' = upd fU u (fB 0) ∧ (∀ k, k < 63 → fB' k = fB (k + 1)) ∧ (∀ k, k < 63 → fH' k = fH (k + 1)) ∧ fH' 63 = 0) (fun (u0 : Int32 × Int32 × (Nat → Int32) × (Nat → Int32) × (Nat → Int32)) (t : State) => match u0 with | (nx', mn', fU', fB', fH') => va_P (dC, dI) vwCl [(a1, .inr (1, [.ref q1, .ref q2, .ref q3, .int nx', .int mn', .int ed, .int th, .int he])), (q1, .inl (cU, 64, .inl fU')), (q2, .inl (cV, 64, .inl fB')), (q3, .inl (cZ, 64, .inl fH'))] t.heap ∧ va_K (dC, dI) vwCl [(cU, .int), (cV, .int), (cZ, .boolean)] t ∧ va_D A [(a1, .inr (1, [.ref q1, .ref q2, .ref q3, .int nx', .int mn', .int ed, .int th, .int he])), (q1, .inl (cU, 64, .inl fU')), (q2, .inl (cV, 64, .inl fB')), (q3, .inl (cZ, 64, .inl fH'))]) A) ([.ref a1] : List Value).toArray s 0 0 A) (F0 m 37 ls []) := by
    intro cnt
    induction cnt with
    | zero =>
      intro k x9 f8 f9 hk h1 h2 h3 h4 h5 H locs ls hP hD hS hl
      refine lv_iload_n hx hb dX1_up_37 rfl (lv_at hl 0 rfl) ?_
      refine lv_iconst (v := 1) hx hb dX1_up_38 (by decide) ?_
      refine lv_iadd hx hb dX1_up_39 ?_
      refine lv_bipush (v := 64) hx hb dX1_up_40 (by decide) ?_
      refine lv_icmp_ge (tgt := 79) hx hb dX1_up_42 (by decide) (fun c_42 => ?_) (fun c_42 => ?_)
      · refine lv_aload_n hx hb dX1_up_79 rfl (lv_at hl 1 rfl) ?_
        refine va_get (D := (dC, dI)) (ci := 1) (v := .ref q3) (C := RX1) (T := TX1) (N := 8) hx hb hts hi_1 hown hK hP 0 rfl rfl 2 (by decide) (hts (.fieldLink RX1 16 "SegmentBoxModel" "isHeld" "[Z") (by decide +kernel)) (fun _ h9 => h9) rfl dX1_up_80 ?_
        refine lv_bipush (v := 63) hx hb dX1_up_83 (by decide) ?_
        refine lv_iconst (v := 0) hx hb dX1_up_85 (by decide) ?_
        refine va_zast hx hb hK hP hD hS 3 2 rfl rfl (inb_of (k := 63) rfl (by decide)) dX1_up_86 (fun H locs hP hD hS => ?_)
        have hP : va_P (dC, dI) vwCl [(a1, .inr (1, [.ref q1, .ref q2, .ref q3, .int nx', .int mn', .int ed, .int th, .int he])), (q1, .inl (cU, 64, .inl (upd fU mn.toNatClampNeg (fB (0 : Int32).toNatClampNeg)))), (q2, .inl (cV, 64, .inl f8)), (q3, .inl (cZ, 64, .inl (upd f9 (63 : Int32).toNatClampNeg (vp_nar .boolean 0))))] H := hP
        have hD : va_D A [(a1, .inr (1, [.ref q1, .ref q2, .ref q3, .int nx', .int mn', .int ed, .int th, .int he])), (q1, .inl (cU, 64, .inl (upd fU mn.toNatClampNeg (fB (0 : Int32).toNatClampNeg)))), (q2, .inl (cV, 64, .inl f8)), (q3, .inl (cZ, 64, .inl (upd f9 (63 : Int32).toNatClampNeg (vp_nar .boolean 0))))] := hD
        exact W.vret hx hb hr (fun t ht hW => ⟨⟨(nx', mn', upd fU mn.toNatClampNeg (fB (0 : Int32).toNatClampNeg), f8, upd f9 (63 : Int32).toNatClampNeg (vp_nar .boolean 0)), rfl, ⟨enx, by rw [emn, hu, nI_succ], by rw [cl_of hu (by omega)]; rfl, fun i hi => h2 i (by omega), fun i hi => by rw [show (63 : Int32).toNatClampNeg = 63 from by decide, pk_un (by omega)]; exact h3 i (by omega), by rw [show (63 : Int32).toNatClampNeg = 63 from by decide, pk_us]; rfl⟩, by rw [ht]; exact hP, va_K.moved hW.alike hK, hD⟩, hS.F ht⟩) hS.2.2 dX1_up_87
      · exact absurd ((ge64 (show x9 + 1 = nI (k + 1) by rw [h1, nI_succ]) (by omega)).mpr (by omega)) c_42
    | succ cnt ih =>
      intro k x9 f8 f9 hk h1 h2 h3 h4 h5 H locs ls hP hD hS hl
      refine lv_iload_n hx hb dX1_up_37 rfl (lv_at hl 0 rfl) ?_
      refine lv_iconst (v := 1) hx hb dX1_up_38 (by decide) ?_
      refine lv_iadd hx hb dX1_up_39 ?_
      refine lv_bipush (v := 64) hx hb dX1_up_40 (by decide) ?_
      refine lv_icmp_ge (tgt := 79) hx hb dX1_up_42 (by decide) (fun c_42 => ?_) (fun c_42 => ?_)
      · exact absurd ((ge64 (show x9 + 1 = nI (k + 1) by rw [h1, nI_succ]) (by omega)).mp c_42) (by omega)
      · refine lv_aload_n hx hb dX1_up_45 rfl (lv_at hl 1 rfl) ?_
        refine va_get (D := (dC, dI)) (ci := 1) (v := .ref q3) (C := RX1) (T := TX1) (N := 8) hx hb hts hi_1 hown hK hP 0 rfl rfl 2 (by decide) (hts (.fieldLink RX1 16 "SegmentBoxModel" "isHeld" "[Z") (by decide +kernel)) (fun _ h9 => h9) rfl dX1_up_46 ?_
        refine lv_iload_n hx hb dX1_up_49 rfl (lv_at hl 0 rfl) ?_
        refine lv_aload_n hx hb dX1_up_50 rfl (lv_at hl 1 rfl) ?_
        refine va_get (D := (dC, dI)) (ci := 1) (v := .ref q3) (C := RX1) (T := TX1) (N := 8) hx hb hts hi_1 hown hK hP 0 rfl rfl 2 (by decide) (hts (.fieldLink RX1 16 "SegmentBoxModel" "isHeld" "[Z") (by decide +kernel)) (fun _ h9 => h9) rfl dX1_up_51 ?_
        refine lv_iload_n hx hb dX1_up_54 rfl (lv_at hl 0 rfl) ?_
        refine lv_iconst (v := 1) hx hb dX1_up_55 (by decide) ?_
        refine lv_iadd hx hb dX1_up_56 ?_
        refine va_zald hx hb hK hP 3 2 rfl rfl (inb_of (show x9 + 1 = nI (k + 1) by rw [h1, nI_succ]) (by omega)) dX1_up_57 ?_
        refine va_zast hx hb hK hP hD hS 3 2 rfl rfl (inb_of h1 (by omega)) dX1_up_58 (fun H locs hP hD hS => ?_)
        have hP : va_P (dC, dI) vwCl [(a1, .inr (1, [.ref q1, .ref q2, .ref q3, .int nx', .int mn', .int ed, .int th, .int he])), (q1, .inl (cU, 64, .inl (upd fU mn.toNatClampNeg (fB (0 : Int32).toNatClampNeg)))), (q2, .inl (cV, 64, .inl f8)), (q3, .inl (cZ, 64, .inl (upd f9 x9.toNatClampNeg (vp_nar .boolean (f9 (x9 + 1).toNatClampNeg)))))] H := hP
        have hD : va_D A [(a1, .inr (1, [.ref q1, .ref q2, .ref q3, .int nx', .int mn', .int ed, .int th, .int he])), (q1, .inl (cU, 64, .inl (upd fU mn.toNatClampNeg (fB (0 : Int32).toNatClampNeg)))), (q2, .inl (cV, 64, .inl f8)), (q3, .inl (cZ, 64, .inl (upd f9 x9.toNatClampNeg (vp_nar .boolean (f9 (x9 + 1).toNatClampNeg)))))] := hD
        refine lv_aload_n hx hb dX1_up_59 rfl (lv_at hl 1 rfl) ?_
        refine va_get (D := (dC, dI)) (ci := 1) (v := .ref q2) (C := RX1) (T := TX1) (N := 8) hx hb hts hi_1 hown hK hP 0 rfl rfl 1 (by decide) (hts (.fieldLink RX1 13 "SegmentBoxModel" "byteAt" "[I") (by decide +kernel)) (fun _ h9 => h9) rfl dX1_up_60 ?_
        refine lv_iload_n hx hb dX1_up_63 rfl (lv_at hl 0 rfl) ?_
        refine lv_aload_n hx hb dX1_up_64 rfl (lv_at hl 1 rfl) ?_
        refine va_get (D := (dC, dI)) (ci := 1) (v := .ref q2) (C := RX1) (T := TX1) (N := 8) hx hb hts hi_1 hown hK hP 0 rfl rfl 1 (by decide) (hts (.fieldLink RX1 13 "SegmentBoxModel" "byteAt" "[I") (by decide +kernel)) (fun _ h9 => h9) rfl dX1_up_65 ?_
        refine lv_iload_n hx hb dX1_up_68 rfl (lv_at hl 0 rfl) ?_
        refine lv_iconst (v := 1) hx hb dX1_up_69 (by decide) ?_
        refine lv_iadd hx hb dX1_up_70 ?_
        refine va_iald hx hb hK hP 2 1 rfl rfl (inb_of (show x9 + 1 = nI (k + 1) by rw [h1, nI_succ]) (by omega)) dX1_up_71 ?_
        refine va_iast hx hb hK hP hD hS 2 1 rfl rfl (inb_of h1 (by omega)) dX1_up_72 (fun H locs hP hD hS => ?_)
        have hP : va_P (dC, dI) vwCl [(a1, .inr (1, [.ref q1, .ref q2, .ref q3, .int nx', .int mn', .int ed, .int th, .int he])), (q1, .inl (cU, 64, .inl (upd fU mn.toNatClampNeg (fB (0 : Int32).toNatClampNeg)))), (q2, .inl (cV, 64, .inl (upd f8 x9.toNatClampNeg (f8 (x9 + 1).toNatClampNeg)))), (q3, .inl (cZ, 64, .inl (upd f9 x9.toNatClampNeg (vp_nar .boolean (f9 (x9 + 1).toNatClampNeg)))))] H := hP
        have hD : va_D A [(a1, .inr (1, [.ref q1, .ref q2, .ref q3, .int nx', .int mn', .int ed, .int th, .int he])), (q1, .inl (cU, 64, .inl (upd fU mn.toNatClampNeg (fB (0 : Int32).toNatClampNeg)))), (q2, .inl (cV, 64, .inl (upd f8 x9.toNatClampNeg (f8 (x9 + 1).toNatClampNeg)))), (q3, .inl (cZ, 64, .inl (upd f9 x9.toNatClampNeg (vp_nar .boolean (f9 (x9 + 1).toNatClampNeg)))))] := hD
        obtain ⟨x_1, ex_1⟩ : ∃ y : Int32, y = x9 + 1 := ⟨_, rfl⟩
        refine lv_iinc (v := x_1) (lv' := [(1, .int x_1), (0, .ref a1)]) hx hb dX1_up_73 hl (k := 0) rfl (by rw [ex_1]; rfl) (by decide) rfl (fun ls hl => ?_)
        refine lv_goto (tgt := 37) hx hb dX1_up_76 (by decide) ?_
        have ek : x9.toNatClampNeg = k := cl_of h1 (by omega)
        have ek1 : (x9 + 1).toNatClampNeg = k + 1 := cl_of (show x9 + 1 = nI (k + 1) by rw [h1, nI_succ]) (by omega)
        exact ih (k + 1) x_1 _ _ (by omega) (by rw [ex_1, h1, nI_succ]) (fun i hi => by
          rw [ek, ek1]
          by_cases q : i = k
          · rw [q, pk_us]; exact h4 (k + 1) (by omega) (by omega)
          · rw [pk_un q]; exact h2 i (by omega)) (fun i hi => by
          rw [ek, ek1, h5 (k + 1) (by omega) (by omega), nar_b (hz (k + 1) (by omega))]
          by_cases q : i = k
          · rw [q, pk_us]
          · rw [pk_un q]; exact h3 i (by omega)) (fun i h6 h7 => by rw [ek, ek1, pk_un (by omega)]; exact h4 i (by omega) h7) (fun i h6 h7 => by rw [ek, pk_un (by omega)]; exact h5 i (by omega) h7) H locs ls hP hD hS (lv_sub hl [0, 1] rfl)
  refine lv_aload_n hx hb dX1_up_0 rfl (lv_at hl 0 rfl) ?_
  refine va_get (D := (dC, dI)) (ci := 1) (v := .ref q1) (C := RX1) (T := TX1) (N := 8) hx hb hts hi_1 hown hK hP 0 rfl rfl 0 (by decide) (hts (.fieldLink RX1 9 "SegmentBoxModel" "unread" "[I") (by decide +kernel)) (fun _ h9 => h9) rfl dX1_up_1 ?_
  refine lv_aload_n hx hb dX1_up_4 rfl (lv_at hl 0 rfl) ?_
  refine va_get (D := (dC, dI)) (ci := 1) (v := .int mn) (C := RX1) (T := TX1) (N := 8) hx hb hts hi_1 hown hK hP 0 rfl rfl 4 (by decide) (hts (.fieldLink RX1 27 "SegmentBoxModel" "many" "I") (by decide +kernel)) (fun _ h9 => h9) rfl dX1_up_5 ?_
  refine lv_aload_n hx hb dX1_up_8 rfl (lv_at hl 0 rfl) ?_
  refine va_get (D := (dC, dI)) (ci := 1) (v := .ref q2) (C := RX1) (T := TX1) (N := 8) hx hb hts hi_1 hown hK hP 0 rfl rfl 1 (by decide) (hts (.fieldLink RX1 13 "SegmentBoxModel" "byteAt" "[I") (by decide +kernel)) (fun _ h9 => h9) rfl dX1_up_9 ?_
  refine lv_iconst (v := 0) hx hb dX1_up_12 (by decide) ?_
  refine va_iald hx hb hK hP 2 1 rfl rfl inb_0 dX1_up_13 ?_
  refine va_iast hx hb hK hP hD hS 1 0 rfl rfl (inb_of hu hlt) dX1_up_14 (fun H locs hP hD hS => ?_)
  have hP : va_P (dC, dI) vwCl [(a1, .inr (1, [.ref q1, .ref q2, .ref q3, .int nx, .int mn, .int ed, .int th, .int he])), (q1, .inl (cU, 64, .inl (upd fU mn.toNatClampNeg (fB (0 : Int32).toNatClampNeg)))), (q2, .inl (cV, 64, .inl fB)), (q3, .inl (cZ, 64, .inl fH))] H := hP
  have hD : va_D A [(a1, .inr (1, [.ref q1, .ref q2, .ref q3, .int nx, .int mn, .int ed, .int th, .int he])), (q1, .inl (cU, 64, .inl (upd fU mn.toNatClampNeg (fB (0 : Int32).toNatClampNeg)))), (q2, .inl (cV, 64, .inl fB)), (q3, .inl (cZ, 64, .inl fH))] := hD
  refine lv_aload_n hx hb dX1_up_15 rfl (lv_at hl 0 rfl) ?_
  refine lv_dup hx hb dX1_up_16 rfl ?_
  refine va_get (D := (dC, dI)) (ci := 1) (v := .int mn) (C := RX1) (T := TX1) (N := 8) hx hb hts hi_1 hown hK hP 0 rfl rfl 4 (by decide) (hts (.fieldLink RX1 27 "SegmentBoxModel" "many" "I") (by decide +kernel)) (fun _ h9 => h9) rfl dX1_up_17 ?_
  refine lv_iconst (v := 1) hx hb dX1_up_20 (by decide) ?_
  refine lv_iadd hx hb dX1_up_21 ?_
  refine lv_topi (fun f_2 ef_2 => ?_)
  refine va_put (D := (dC, dI)) (ci := 1) (v := .int f_2) (ty := .int) (C := RX1) (T := TX1) (N := 8) hx hb hts hi_1 tyX1 tyX1_ok nmX1 hown hK hP hD hS 0 rfl rfl 4 (by decide) (hts (.fieldLink RX1 27 "SegmentBoxModel" "many" "I") (by decide +kernel)) (fun _ h9 => h9) rfl (by decide +kernel) rfl rfl (Nat.le_of_ble_eq_true rfl) dX1_up_22 (fun H locs hP hD hS => ?_)
  have hP : va_P (dC, dI) vwCl [(a1, .inr (1, [.ref q1, .ref q2, .ref q3, .int nx, .int f_2, .int ed, .int th, .int he])), (q1, .inl (cU, 64, .inl (upd fU mn.toNatClampNeg (fB (0 : Int32).toNatClampNeg)))), (q2, .inl (cV, 64, .inl fB)), (q3, .inl (cZ, 64, .inl fH))] H := hP
  have hD : va_D A [(a1, .inr (1, [.ref q1, .ref q2, .ref q3, .int nx, .int f_2, .int ed, .int th, .int he])), (q1, .inl (cU, 64, .inl (upd fU mn.toNatClampNeg (fB (0 : Int32).toNatClampNeg)))), (q2, .inl (cV, 64, .inl fB)), (q3, .inl (cZ, 64, .inl fH))] := hD
  refine lv_aload_n hx hb dX1_up_25 rfl (lv_at hl 0 rfl) ?_
  refine lv_dup hx hb dX1_up_26 rfl ?_
  refine va_get (D := (dC, dI)) (ci := 1) (v := .int nx) (C := RX1) (T := TX1) (N := 8) hx hb hts hi_1 hown hK hP 0 rfl rfl 3 (by decide) (hts (.fieldLink RX1 24 "SegmentBoxModel" "next" "I") (by decide +kernel)) (fun _ h9 => h9) rfl dX1_up_27 ?_
  refine lv_iconst (v := 1) hx hb dX1_up_30 (by decide) ?_
  refine lv_iadd hx hb dX1_up_31 ?_
  refine lv_topi (fun f_3 ef_3 => ?_)
  refine va_put (D := (dC, dI)) (ci := 1) (v := .int f_3) (ty := .int) (C := RX1) (T := TX1) (N := 8) hx hb hts hi_1 tyX1 tyX1_ok nmX1 hown hK hP hD hS 0 rfl rfl 3 (by decide) (hts (.fieldLink RX1 24 "SegmentBoxModel" "next" "I") (by decide +kernel)) (fun _ h9 => h9) rfl (by decide +kernel) rfl rfl (Nat.le_of_ble_eq_true rfl) dX1_up_32 (fun H locs hP hD hS => ?_)
  have hP : va_P (dC, dI) vwCl [(a1, .inr (1, [.ref q1, .ref q2, .ref q3, .int f_3, .int f_2, .int ed, .int th, .int he])), (q1, .inl (cU, 64, .inl (upd fU mn.toNatClampNeg (fB (0 : Int32).toNatClampNeg)))), (q2, .inl (cV, 64, .inl fB)), (q3, .inl (cZ, 64, .inl fH))] H := hP
  have hD : va_D A [(a1, .inr (1, [.ref q1, .ref q2, .ref q3, .int f_3, .int f_2, .int ed, .int th, .int he])), (q1, .inl (cU, 64, .inl (upd fU mn.toNatClampNeg (fB (0 : Int32).toNatClampNeg)))), (q2, .inl (cV, 64, .inl fB)), (q3, .inl (cZ, 64, .inl fH))] := hD
  refine lv_iconst (v := 0) hx hb dX1_up_35 (by decide) ?_
  refine lv_istore_n (lv' := [(1, .int 0), (0, .ref a1)]) hx hb dX1_up_36 rfl hl (by decide) rfl (fun ls hl => ?_)
  have en1 : f_3 = nx' := by rw [ef_3, enx]
  have em1 : f_2 = mn' := by rw [ef_2, emn]
  subst en1
  subst em1
  exact loop 63 0 0 fB fH (by omega) nI_0.symm (fun i hi => absurd hi (by omega)) (fun i hi => absurd hi (by omega)) (fun i _ _ => rfl) (fun i _ _ => rfl) H _ ls hP hD hS (lv_sub hl [0, 1] rfl)
