set_option maxHeartbeats 4000000 in
set_option maxRecDepth 100000 in
theorem m_segment (l : Launch) (dC : Nat → ClassId) (dI : Nat → Nat → Nat) (a1 q1 q2 q3 : Nat) (cU cV cZ : ClassId) (nx mn ed th he : Int32) (fU fB fH : Nat → Int32) (bs : Int32) (u e9 : Nat) (S : aS) (n : Int32) (v : Int64) (k : Int32) (sz : Nat) (hIV : IV u e9 he S.1) (hnr : S.1 u = false) (hMR : MRa u S fU fB fH) (hnx : nx = bs + nI u) (hmn : mn = nI u) (hed : he = 0 ∨ ed = bs + nI e9) : Met l yX1_segment wsX1_segment ({ frames := 1, cells := 0, slots := 0, locals := 21 }) (va_Pc [.ref a1, .int n, .long v, .int k] (fun U => U.heap.size = sz ∧ va_P (dC, dI) vwCl [(a1, .inr (1, [.ref q1, .ref q2, .ref q3, .int nx, .int mn, .int ed, .int th, .int he])), (q1, .inl (cU, 64, .inl fU)), (q2, .inl (cV, 64, .inl fB)), (q3, .inl (cZ, 64, .inl fH))] U.heap ∧ va_K (dC, dI) vwCl [(cU, .int), (cV, .int), (cZ, .boolean)] U ∧ va_D (fun _ => True) [(a1, .inr (1, [.ref q1, .ref q2, .ref q3, .int nx, .int mn, .int ed, .int th, .int he])), (q1, .inl (cU, 64, .inl fU)), (q2, .inl (cV, 64, .inl fB)), (q3, .inl (cZ, 64, .inl fH))])) (va_Qi (fun (r : Int32) (u0 : Int32 × Int32 × Int32 × (Nat → Int32) × (Nat → Int32) × (Nat → Int32)) => match u0 with | (nx', mn', th', fU', fB', fH') => ((k < 0 ∨ 8 < k) ∧ th' = 1 ∧ nx' = nx ∧ mn' = mn ∧ fU' = fU ∧ fB' = fB ∧ fH' = fH) ∨ ∃ i u' : Nat, i ≤ 8 ∧ k = nI i ∧ th' = 0 ∧ u ≤ u' ∧ r = nI u' - nI u ∧ nx' = bs + nI u' ∧ mn' = nI u' ∧ IV u' e9 he (a_sg bs he e9 n v i S).1 ∧ (a_sg bs he e9 n v i S).1 u' = false ∧ MRa u' (a_sg bs he e9 n v i S) fU' fB' fH') (fun (u0 : Int32 × Int32 × Int32 × (Nat → Int32) × (Nat → Int32) × (Nat → Int32)) (t : State) => match u0 with | (nx', mn', th', fU', fB', fH') => va_P (dC, dI) vwCl [(a1, .inr (1, [.ref q1, .ref q2, .ref q3, .int nx', .int mn', .int ed, .int th', .int he])), (q1, .inl (cU, 64, .inl fU')), (q2, .inl (cV, 64, .inl fB')), (q3, .inl (cZ, 64, .inl fH'))] t.heap ∧ va_K (dC, dI) vwCl [(cU, .int), (cV, .int), (cZ, .boolean)] t ∧ va_D (va_A [(a1, .inr (1, [.ref q1, .ref q2, .ref q3, .int nx, .int mn, .int ed, .int th, .int he])), (q1, .inl (cU, 64, .inl fU)), (q2, .inl (cV, 64, .inl fB)), (q3, .inl (cZ, 64, .inl fH))] sz) [(a1, .inr (1, [.ref q1, .ref q2, .ref q3, .int nx', .int mn', .int ed, .int th', .int he])), (q1, .inl (cU, 64, .inl fU')), (q2, .inl (cV, 64, .inl fB')), (q3, .inl (cZ, 64, .inl fH'))]) (va_A [(a1, .inr (1, [.ref q1, .ref q2, .ref q3, .int nx, .int mn, .int ed, .int th, .int he])), (q1, .inl (cU, 64, .inl fU)), (q2, .inl (cV, 64, .inl fB)), (q3, .inl (cZ, 64, .inl fH))] sz)) 0 0 (va_A [(a1, .inr (1, [.ref q1, .ref q2, .ref q3, .int nx, .int mn, .int ed, .int th, .int he])), (q1, .inl (cU, 64, .inl fU)), (q2, .inl (cV, 64, .inl fB)), (q3, .inl (cZ, 64, .inl fH))] sz) := by
  refine Met.ofW (cc := cX1_segment) (maxL := 8) (ret := (some .int)) (by decide) rfl ?_
  intro p e s m args below meth c s₁ B hml hv
  obtain ⟨rfl, hsz, hP, hK, hD0⟩ := hv
  have hx := B.exec
  have hb := B.bytes
  have hr := B.returns
  have hts := atoms_spec (ws := wsX1_segment) B.pre
  have hown : s.vm.findClass RX1 = some m.cls := findClass_of_methodNamed B.named
  have hlocks := B.notSynchronized
  subst hsz
  have hD := hD0.self (sz := s.heap.size)
  generalize hAe : va_A [(a1, .inr (1, [.ref q1, .ref q2, .ref q3, .int nx, .int mn, .int ed, .int th, .int he])), (q1, .inl (cU, 64, .inl fU)), (q2, .inl (cV, 64, .inl fB)), (q3, .inl (cZ, 64, .inl fH))] s.heap.size = A at hD ⊢
  have hA : ∀ q : Nat, s.heap.size ≤ q → A q := fun q h => by rw [← hAe]; exact Or.inr h
  have hS : va_S A s.heap s.heap [] := va_S.rf
  have hP : va_P (dC, dI) vwCl [(a1, .inr (1, [.ref q1, .ref q2, .ref q3, .int nx, .int mn, .int ed, .int th, .int he])), (q1, .inl (cU, 64, .inl fU)), (q2, .inl (cV, 64, .inl fB)), (q3, .inl (cZ, 64, .inl fH))] s.heap := hP
  have hl := lv_entry ([.ref a1, .int n, .long v, .int k]) (n := 8) (Nat.le_of_ble_eq_true rfl)
  rw [lg_entry_eq]
  generalize (lg_sl ([.ref a1, .int n, .long v, .int k]) ++ List.replicate (8 - (lg_sl ([.ref a1, .int n, .long v, .int k])).length) Slot.unset).toArray = ls at hl ⊢
  have hl : lv_has ls 8 [(0, .ref a1), (1, .int n), (2, .long v), (4, .int k)] := hl
  have hi_1 : ∀ w ∈ u_ws RX1 TX1 8, w ∈ wsX1_segment := by decide +kernel
  refine lv_aload_n hx hb dX1_segment_0 rfl (lv_at hl 0 rfl) ?_
  refine lv_iload hx hb dX1_segment_1 (lv_at hl 3 rfl) ?_
  refine lv_if_lt (tgt := 13) hx hb dX1_segment_3 (by decide) (fun c_3 => ?_) (fun c_3 => ?_)
  · refine lv_iconst (v := 1) hx hb dX1_segment_13 (by decide) ?_
    refine lv_goto (tgt := 18) hx hb dX1_segment_14 (by decide) ?_
    refine va_put (D := (dC, dI)) (ci := 1) (v := .int 1) (ty := .int) (C := RX1) (T := TX1) (N := 8) hx hb hts hi_1 tyX1 tyX1_ok nmX1 hown hK hP hD hS 0 rfl rfl 6 (by decide) (hts (.fieldLink RX1 20 "SegmentBoxModel" "thrown" "I") (by decide +kernel)) (fun _ h9 => h9) rfl (by decide +kernel) rfl rfl (Nat.le_of_ble_eq_true rfl) dX1_segment_18 (fun H locs hP hD hS => ?_)
    have hP : va_P (dC, dI) vwCl [(a1, .inr (1, [.ref q1, .ref q2, .ref q3, .int nx, .int mn, .int ed, .int 1, .int he])), (q1, .inl (cU, 64, .inl fU)), (q2, .inl (cV, 64, .inl fB)), (q3, .inl (cZ, 64, .inl fH))] H := hP
    have hD : va_D A [(a1, .inr (1, [.ref q1, .ref q2, .ref q3, .int nx, .int mn, .int ed, .int 1, .int he])), (q1, .inl (cU, 64, .inl fU)), (q2, .inl (cV, 64, .inl fB)), (q3, .inl (cZ, 64, .inl fH))] := hD
    refine lv_aload_n hx hb dX1_segment_21 rfl (lv_at hl 0 rfl) ?_
    refine va_get (D := (dC, dI)) (ci := 1) (v := .int 1) (C := RX1) (T := TX1) (N := 8) hx hb hts hi_1 hown hK hP 0 rfl rfl 6 (by decide) (hts (.fieldLink RX1 20 "SegmentBoxModel" "thrown" "I") (by decide +kernel)) (fun _ h9 => h9) rfl dX1_segment_22 ?_
    refine lv_if_le (tgt := 30) hx hb dX1_segment_25 (by decide) (fun c_25 => ?_) (fun c_25 => ?_)
    · exact absurd c_25 (by decide)
    · refine lv_iconst (v := 0) hx hb dX1_segment_28 (by decide) ?_
      exact W.iret (v := 0) hx hb hr (fun t ht hW => ⟨⟨0, (nx, mn, 1, fU, fB, fH), rfl, Or.inl ⟨Or.inl c_3, rfl, rfl, rfl, rfl, rfl, rfl⟩, by rw [ht]; exact hP, va_K.moved hW.alike hK, hD⟩, hS.F ht⟩) hS.2.2 dX1_segment_29
  · refine lv_iload hx hb dX1_segment_6 (lv_at hl 3 rfl) ?_
    refine lv_bipush (v := 8) hx hb dX1_segment_8 (by decide) ?_
    refine lv_icmp_le (tgt := 17) hx hb dX1_segment_10 (by decide) (fun c_10 => ?_) (fun c_10 => ?_)
    · refine lv_iconst (v := 0) hx hb dX1_segment_17 (by decide) ?_
      refine va_put (D := (dC, dI)) (ci := 1) (v := .int 0) (ty := .int) (C := RX1) (T := TX1) (N := 8) hx hb hts hi_1 tyX1 tyX1_ok nmX1 hown hK hP hD hS 0 rfl rfl 6 (by decide) (hts (.fieldLink RX1 20 "SegmentBoxModel" "thrown" "I") (by decide +kernel)) (fun _ h9 => h9) rfl (by decide +kernel) rfl rfl (Nat.le_of_ble_eq_true rfl) dX1_segment_18 (fun H locs hP hD hS => ?_)
      have hP : va_P (dC, dI) vwCl [(a1, .inr (1, [.ref q1, .ref q2, .ref q3, .int nx, .int mn, .int ed, .int 0, .int he])), (q1, .inl (cU, 64, .inl fU)), (q2, .inl (cV, 64, .inl fB)), (q3, .inl (cZ, 64, .inl fH))] H := hP
      have hD : va_D A [(a1, .inr (1, [.ref q1, .ref q2, .ref q3, .int nx, .int mn, .int ed, .int 0, .int he])), (q1, .inl (cU, 64, .inl fU)), (q2, .inl (cV, 64, .inl fB)), (q3, .inl (cZ, 64, .inl fH))] := hD
      refine lv_aload_n hx hb dX1_segment_21 rfl (lv_at hl 0 rfl) ?_
      refine va_get (D := (dC, dI)) (ci := 1) (v := .int 0) (C := RX1) (T := TX1) (N := 8) hx hb hts hi_1 hown hK hP 0 rfl rfl 6 (by decide) (hts (.fieldLink RX1 20 "SegmentBoxModel" "thrown" "I") (by decide +kernel)) (fun _ h9 => h9) rfl dX1_segment_22 ?_
      refine lv_if_le (tgt := 30) hx hb dX1_segment_25 (by decide) (fun c_25 => ?_) (fun c_25 => ?_)
      · refine lv_aload_n hx hb dX1_segment_30 rfl (lv_at hl 0 rfl) ?_
        refine va_get (D := (dC, dI)) (ci := 1) (v := .int mn) (C := RX1) (T := TX1) (N := 8) hx hb hts hi_1 hown hK hP 0 rfl rfl 4 (by decide) (hts (.fieldLink RX1 27 "SegmentBoxModel" "many" "I") (by decide +kernel)) (fun _ h9 => h9) rfl dX1_segment_31 ?_
        refine lv_istore (lv' := [(5, .int mn), (0, .ref a1), (1, .int n), (2, .long v), (4, .int k)]) hx hb dX1_segment_34 hl (by decide) rfl (fun ls hl => ?_)
        obtain ⟨i0, hi0, hk⟩ : ∃ i0 : Nat, i0 ≤ 8 ∧ k = nI i0 := nI_of2 (M := 8) (n := 8) (by decide) c_3 c_10
        have hu4 : u ≤ 64 := hIV.1
        have loop : ∀ (cnt j : Nat) (x9 : Int32) (u9 : Nat) (nx9 mn9 : Int32) (g1 g2 g3 : Nat → Int32), j + cnt = i0 → x9 = nI j → u ≤ u9 → IV u9 e9 he (a_sg bs he e9 n v j S).1 → (a_sg bs he e9 n v j S).1 u9 = false → MRa u9 (a_sg bs he e9 n v j S) g1 g2 g3 → nx9 = bs + nI u9 → mn9 = nI u9 → ∀ (H : Heap) (locs : List Loc) (ls : Array Slot), va_P (dC, dI) vwCl [(a1, .inr (1, [.ref q1, .ref q2, .ref q3, .int nx9, .int mn9, .int ed, .int 0, .int he])), (q1, .inl (cU, 64, .inl g1)), (q2, .inl (cV, 64, .inl g2)), (q3, .inl (cZ, 64, .inl g3))] H → va_D A [(a1, .inr (1, [.ref q1, .ref q2, .ref q3, .int nx9, .int mn9, .int ed, .int 0, .int he])), (q1, .inl (cU, 64, .inl g1)), (q2, .inl (cV, 64, .inl g2)), (q3, .inl (cZ, 64, .inl g3))] → va_S A s.heap H locs → lv_has ls 8 [(6, .int x9), (5, .int mn), (0, .ref a1), (1, .int n), (2, .long v), (4, .int k)] → W p l e (headSpec wsX1_segment ({ frames := 1, cells := 0, slots := 0, locals := 21 })).room s m ([.ref a1, .int n, .long v, .int k] : List Value).toArray below meth c H locs 0 0 (MQ below (va_Qi (fun (r : Int32) (u0 : Int32 × Int32 × Int32 × (Nat → Int32) × (Nat → Int32) × (Nat → Int32)) => match u0 with | (nx', mn', th', fU', fB', fH') => ((k < 0 ∨ 8 < k) ∧ th' = 1 ∧ nx' = nx ∧ mn' = mn ∧ fU' = fU ∧ fB' = fB ∧ fH' = fH) ∨ ∃ i u' : Nat, i ≤ 8 ∧ k = nI i ∧ th' = 0 ∧ u ≤ u' ∧ r = nI u' - nI u ∧ nx' = bs + nI u' ∧ mn' = nI u' ∧ IV u' e9 he (a_sg bs he e9 n v i S).1 ∧ (a_sg bs he e9 n v i S).1 u' = false ∧ MRa u' (a_sg bs he e9 n v i S) fU' fB' fH') (fun (u0 : Int32 × Int32 × Int32 × (Nat → Int32) × (Nat → Int32) × (Nat → Int32)) (t : State) => match u0 with | (nx', mn', th', fU', fB', fH') => va_P (dC, dI) vwCl [(a1, .inr (1, [.ref q1, .ref q2, .ref q3, .int nx', .int mn', .int ed, .int th', .int he])), (q1, .inl (cU, 64, .inl fU')), (q2, .inl (cV, 64, .inl fB')), (q3, .inl (cZ, 64, .inl fH'))] t.heap ∧ va_K (dC, dI) vwCl [(cU, .int), (cV, .int), (cZ, .boolean)] t ∧ va_D A [(a1, .inr (1, [.ref q1, .ref q2, .ref q3, .int nx', .int mn', .int ed, .int th', .int he])), (q1, .inl (cU, 64, .inl fU')), (q2, .inl (cV, 64, .inl fB')), (q3, .inl (cZ, 64, .inl fH'))]) A) ([.ref a1, .int n, .long v, .int k] : List Value).toArray s 0 0 A) (F0 m 39 ls []) := by
          intro cnt
          induction cnt with
          | zero =>
            intro j x9 u9 nx9 mn9 g1 g2 g3 hj h1 h2 h3 h4 h5 h6 h7 H locs ls hP hD hS hl
            have h8 : u9 ≤ 64 := h3.1
            refine lv_iload hx hb dX1_segment_39 (lv_at hl 0 rfl) ?_
            refine lv_iload hx hb dX1_segment_41 (lv_at hl 5 rfl) ?_
            refine lv_icmp_ge (tgt := 157) hx hb dX1_segment_43 (by decide) (fun c_43 => ?_) (fun c_43 => ?_)
            · refine lv_aload_n hx hb dX1_segment_157 rfl (lv_at hl 2 rfl) ?_
              refine va_get (D := (dC, dI)) (ci := 1) (v := .int mn9) (C := RX1) (T := TX1) (N := 8) hx hb hts hi_1 hown hK hP 0 rfl rfl 4 (by decide) (hts (.fieldLink RX1 27 "SegmentBoxModel" "many" "I") (by decide +kernel)) (fun _ h9 => h9) rfl dX1_segment_158 ?_
              refine lv_iload hx hb dX1_segment_161 (lv_at hl 1 rfl) ?_
              refine lv_isub hx hb dX1_segment_163 ?_
              have hji : j = i0 := by omega
              subst hji
              exact W.iret (v := mn9 - mn) hx hb hr (fun t ht hW => ⟨⟨mn9 - mn, (nx9, mn9, 0, g1, g2, g3), rfl, Or.inr ⟨j, u9, hi0, hk, rfl, h2, by rw [h7, hmn], h6, h7, h3, h4, h5⟩, by rw [ht]; exact hP, va_K.moved hW.alike hK, hD⟩, hS.F ht⟩) hS.2.2 dX1_segment_164
            · exact absurd (by rw [hk, h1]; exact nI_le (by omega) (by omega)) c_43
          | succ cnt ih =>
            intro j x9 u9 nx9 mn9 g1 g2 g3 hj h1 h2 h3 h4 h5 h6 h7 H locs ls hP hD hS hl
            have h8 : u9 ≤ 64 := h3.1
            have key := tk_iff (bs := bs) (N := n + x9) (ek := he) (en := ed) (u := u9) (e := e9) (T := (a_sg bs he e9 n v j S).1) (held := fun a => ¬ g3 a.toNatClampNeg = 0) h8 h3.2.1 (fun q hq => by rw [nI_clamp (by omega)]; exact MR_nz h5 (by omega)) (by
              rcases h3.2.2.2 with z | ⟨z1, z2, -⟩
              · exact Or.inl z
              · rcases hed with w | w
                · exact Or.inl w
                · exact Or.inr ⟨z1, z2, w⟩)
            rw [← h6, ← h7] at key
            have hsj : (a_sg bs he e9 n v (j + 1) S) = a_tk bs he e9 (n + x9) (a_by v j) (a_sg bs he e9 n v j S) := by rw [h1]; rfl
            refine lv_iload hx hb dX1_segment_39 (lv_at hl 0 rfl) ?_
            refine lv_iload hx hb dX1_segment_41 (lv_at hl 5 rfl) ?_
            refine lv_icmp_ge (tgt := 157) hx hb dX1_segment_43 (by decide) (fun c_43 => ?_) (fun c_43 => ?_)
            · exact absurd c_43 (by rw [hk, h1]; exact nI_ge (by omega) (by omega))
            · refine lv_iload_n hx hb dX1_segment_46 rfl (lv_at hl 3 rfl) ?_
              refine lv_iload hx hb dX1_segment_47 (lv_at hl 0 rfl) ?_
              refine lv_iadd hx hb dX1_segment_49 ?_
              refine lv_aload_n hx hb dX1_segment_50 rfl (lv_at hl 2 rfl) ?_
              refine va_get (D := (dC, dI)) (ci := 1) (v := .int nx9) (C := RX1) (T := TX1) (N := 8) hx hb hts hi_1 hown hK hP 0 rfl rfl 3 (by decide) (hts (.fieldLink RX1 24 "SegmentBoxModel" "next" "I") (by decide +kernel)) (fun _ h9 => h9) rfl dX1_segment_51 ?_
              refine lv_isub hx hb dX1_segment_54 ?_
              refine lv_istore (lv' := [(7, .int ((n + x9) - nx9)), (6, .int x9), (5, .int mn), (0, .ref a1), (1, .int n), (2, .long v), (4, .int k)]) hx hb dX1_segment_55 hl (by decide) rfl (fun ls hl => ?_)
              refine lv_iload hx hb dX1_segment_57 (lv_at hl 0 rfl) ?_
              refine lv_if_lt (tgt := 151) hx hb dX1_segment_59 (by decide) (fun c_59 => ?_) (fun c_59 => ?_)
              · have hsame : (a_sg bs he e9 n v (j + 1) S) = (a_sg bs he e9 n v j S) := by rw [hsj]; exact a_tk_f (fun w => (fun z => z.1 c_59) (key.mpr w))
                obtain ⟨x_1, ex_1⟩ : ∃ y : Int32, y = x9 + 1 := ⟨_, rfl⟩
                refine lv_iinc (v := x_1) (lv' := [(6, .int x_1), (7, .int ((n + x9) - nx9)), (5, .int mn), (0, .ref a1), (1, .int n), (2, .long v), (4, .int k)]) hx hb dX1_segment_151 hl (k := 1) rfl (by rw [ex_1]; rfl) (by decide) rfl (fun ls hl => ?_)
                refine lv_goto (tgt := 39) hx hb dX1_segment_154 (by decide) ?_
                exact ih (j + 1) x_1 u9 nx9 mn9 g1 g2 g3 (by omega) (by rw [ex_1, h1, nI_succ]) h2 (by rw [hsame]; exact h3) (by rw [hsame]; exact h4) (by rw [hsame]; exact h5) h6 h7 H locs ls hP hD hS (lv_sub hl [0, 2, 3, 4, 5, 6] rfl)
              · refine lv_iload hx hb dX1_segment_62 (lv_at hl 0 rfl) ?_
                refine lv_bipush (v := 64) hx hb dX1_segment_64 (by decide) ?_
                refine lv_aload_n hx hb dX1_segment_66 rfl (lv_at hl 3 rfl) ?_
                refine va_get (D := (dC, dI)) (ci := 1) (v := .int mn9) (C := RX1) (T := TX1) (N := 8) hx hb hts hi_1 hown hK hP 0 rfl rfl 4 (by decide) (hts (.fieldLink RX1 27 "SegmentBoxModel" "many" "I") (by decide +kernel)) (fun _ h9 => h9) rfl dX1_segment_67 ?_
                refine lv_isub hx hb dX1_segment_70 ?_
                refine lv_icmp_ge (tgt := 151) hx hb dX1_segment_71 (by decide) (fun c_71 => ?_) (fun c_71 => ?_)
                · have hsame : (a_sg bs he e9 n v (j + 1) S) = (a_sg bs he e9 n v j S) := by rw [hsj]; exact a_tk_f (fun w => (fun z => Int32.not_le.mpr z.2.1 c_71) (key.mpr w))
                  obtain ⟨x_2, ex_2⟩ : ∃ y : Int32, y = x9 + 1 := ⟨_, rfl⟩
                  refine lv_iinc (v := x_2) (lv' := [(6, .int x_2), (7, .int ((n + x9) - nx9)), (5, .int mn), (0, .ref a1), (1, .int n), (2, .long v), (4, .int k)]) hx hb dX1_segment_151 hl (k := 1) rfl (by rw [ex_2]; rfl) (by decide) rfl (fun ls hl => ?_)
                  refine lv_goto (tgt := 39) hx hb dX1_segment_154 (by decide) ?_
                  exact ih (j + 1) x_2 u9 nx9 mn9 g1 g2 g3 (by omega) (by rw [ex_2, h1, nI_succ]) h2 (by rw [hsame]; exact h3) (by rw [hsame]; exact h4) (by rw [hsame]; exact h5) h6 h7 H locs ls hP hD hS (lv_sub hl [0, 2, 3, 4, 5, 6] rfl)
                · refine lv_aload_n hx hb dX1_segment_74 rfl (lv_at hl 3 rfl) ?_
                  refine va_get (D := (dC, dI)) (ci := 1) (v := .ref q3) (C := RX1) (T := TX1) (N := 8) hx hb hts hi_1 hown hK hP 0 rfl rfl 2 (by decide) (hts (.fieldLink RX1 16 "SegmentBoxModel" "isHeld" "[Z") (by decide +kernel)) (fun _ h9 => h9) rfl dX1_segment_75 ?_
                  refine lv_iload hx hb dX1_segment_78 (lv_at hl 0 rfl) ?_
                  refine va_zald hx hb hK hP 3 2 rfl rfl (by obtain ⟨q, hq, ed9⟩ := inb_d h7 h8 c_59 c_71; exact inb_of ed9 (by omega)) dX1_segment_80 ?_
                  refine lv_if_ne (tgt := 151) hx hb dX1_segment_81 (by decide) (fun c_81 => ?_) (fun c_81 => ?_)
                  · have hsame : (a_sg bs he e9 n v (j + 1) S) = (a_sg bs he e9 n v j S) := by rw [hsj]; exact a_tk_f (fun w => (fun z => z.2.2.1 c_81) (key.mpr w))
                    obtain ⟨x_3, ex_3⟩ : ∃ y : Int32, y = x9 + 1 := ⟨_, rfl⟩
                    refine lv_iinc (v := x_3) (lv' := [(6, .int x_3), (7, .int ((n + x9) - nx9)), (5, .int mn), (0, .ref a1), (1, .int n), (2, .long v), (4, .int k)]) hx hb dX1_segment_151 hl (k := 1) rfl (by rw [ex_3]; rfl) (by decide) rfl (fun ls hl => ?_)
                    refine lv_goto (tgt := 39) hx hb dX1_segment_154 (by decide) ?_
                    exact ih (j + 1) x_3 u9 nx9 mn9 g1 g2 g3 (by omega) (by rw [ex_3, h1, nI_succ]) h2 (by rw [hsame]; exact h3) (by rw [hsame]; exact h4) (by rw [hsame]; exact h5) h6 h7 H locs ls hP hD hS (lv_sub hl [0, 2, 3, 4, 5, 6] rfl)
                  · refine lv_aload_n hx hb dX1_segment_84 rfl (lv_at hl 3 rfl) ?_
                    refine va_get (D := (dC, dI)) (ci := 1) (v := .int he) (C := RX1) (T := TX1) (N := 8) hx hb hts hi_1 hown hK hP 0 rfl rfl 7 (by decide) (hts (.fieldLink RX1 30 "SegmentBoxModel" "hasEnd" "Z") (by decide +kernel)) (fun _ h9 => h9) rfl dX1_segment_85 ?_
                    refine lv_if_eq (tgt := 108) hx hb dX1_segment_88 (by decide) (fun c_88 => ?_) (fun c_88 => ?_)
                    · obtain ⟨q, hq, hN, hT, hE⟩ := key.mp ⟨c_59, Int32.not_le.mp c_71, fun z => z c_81, Or.inl c_88⟩
                      have huq : u9 ≤ q := by
                        apply Nat.le_of_not_lt
                        intro z
                        rw [h3.2.1 q z] at hT
                        cases hT
                      have ed9 : n + x9 - nx9 = nI (q - u9) := by rw [hN, h6]; exact nI_diff huq
                      have hs1 : (a_sg bs he e9 n v (j + 1) S) = (updB (a_sg bs he e9 n v j S).1 q, upd (a_sg bs he e9 n v j S).2 q (a_by v j)) := by rw [hsj]; exact a_tk_t hq hN hT hE
                      refine lv_aload_n hx hb dX1_segment_108 rfl (lv_at hl 3 rfl) ?_
                      refine va_get (D := (dC, dI)) (ci := 1) (v := .ref q3) (C := RX1) (T := TX1) (N := 8) hx hb hts hi_1 hown hK hP 0 rfl rfl 2 (by decide) (hts (.fieldLink RX1 16 "SegmentBoxModel" "isHeld" "[Z") (by decide +kernel)) (fun _ h9 => h9) rfl dX1_segment_109 ?_
                      refine lv_iload hx hb dX1_segment_112 (lv_at hl 0 rfl) ?_
                      refine lv_iconst (v := 1) hx hb dX1_segment_114 (by decide) ?_
                      refine va_zast hx hb hK hP hD hS 3 2 rfl rfl (inb_of ed9 (by omega)) dX1_segment_115 (fun H locs hP hD hS => ?_)
                      have hP : va_P (dC, dI) vwCl [(a1, .inr (1, [.ref q1, .ref q2, .ref q3, .int nx9, .int mn9, .int ed, .int 0, .int he])), (q1, .inl (cU, 64, .inl g1)), (q2, .inl (cV, 64, .inl g2)), (q3, .inl (cZ, 64, .inl (upd g3 ((n + x9) - nx9).toNatClampNeg (vp_nar .boolean 1))))] H := hP
                      have hD : va_D A [(a1, .inr (1, [.ref q1, .ref q2, .ref q3, .int nx9, .int mn9, .int ed, .int 0, .int he])), (q1, .inl (cU, 64, .inl g1)), (q2, .inl (cV, 64, .inl g2)), (q3, .inl (cZ, 64, .inl (upd g3 ((n + x9) - nx9).toNatClampNeg (vp_nar .boolean 1))))] := hD
                      refine lv_aload_n hx hb dX1_segment_116 rfl (lv_at hl 3 rfl) ?_
                      refine va_get (D := (dC, dI)) (ci := 1) (v := .ref q2) (C := RX1) (T := TX1) (N := 8) hx hb hts hi_1 hown hK hP 0 rfl rfl 1 (by decide) (hts (.fieldLink RX1 13 "SegmentBoxModel" "byteAt" "[I") (by decide +kernel)) (fun _ h9 => h9) rfl dX1_segment_117 ?_
                      refine lv_iload hx hb dX1_segment_120 (lv_at hl 0 rfl) ?_
                      refine lv_lload_n hx hb dX1_segment_122 rfl (lv_at hl 5 rfl) ?_
                      refine lv_bipush (v := 8) hx hb dX1_segment_123 (by decide) ?_
                      refine lv_iload hx hb dX1_segment_125 (lv_at hl 1 rfl) ?_
                      refine lv_imul hx hb dX1_segment_127 ?_
                      refine lv_lshr (v := v >>> ((8 * x9).toInt64 &&& 63)) hx hb dX1_segment_128 rfl ?_
                      refine lv_l2i (v := (v >>> ((8 * x9).toInt64 &&& 63)).toInt32) hx hb dX1_segment_129 rfl ?_
                      refine lv_sipush (v := 255) hx hb dX1_segment_130 (by decide) ?_
                      refine lv_iand hx hb dX1_segment_133 ?_
                      refine va_iast hx hb hK hP hD hS 2 1 rfl rfl (inb_of ed9 (by omega)) dX1_segment_134 (fun H locs hP hD hS => ?_)
                      have hP : va_P (dC, dI) vwCl [(a1, .inr (1, [.ref q1, .ref q2, .ref q3, .int nx9, .int mn9, .int ed, .int 0, .int he])), (q1, .inl (cU, 64, .inl g1)), (q2, .inl (cV, 64, .inl (upd g2 ((n + x9) - nx9).toNatClampNeg (((v >>> ((8 * x9).toInt64 &&& 63)).toInt32) &&& 255)))), (q3, .inl (cZ, 64, .inl (upd g3 ((n + x9) - nx9).toNatClampNeg (vp_nar .boolean 1))))] H := hP
                      have hD : va_D A [(a1, .inr (1, [.ref q1, .ref q2, .ref q3, .int nx9, .int mn9, .int ed, .int 0, .int he])), (q1, .inl (cU, 64, .inl g1)), (q2, .inl (cV, 64, .inl (upd g2 ((n + x9) - nx9).toNatClampNeg (((v >>> ((8 * x9).toInt64 &&& 63)).toInt32) &&& 255)))), (q3, .inl (cZ, 64, .inl (upd g3 ((n + x9) - nx9).toNatClampNeg (vp_nar .boolean 1))))] := hD
                      have hM0 : MRa u9 (a_sg bs he e9 n v (j + 1) S) g1 (upd g2 ((n + x9) - nx9).toNatClampNeg (((v >>> ((8 * x9).toInt64 &&& 63)).toInt32) &&& 255)) (upd g3 ((n + x9) - nx9).toNatClampNeg (vp_nar .boolean 1)) := by
                        rw [hs1, cl_of ed9 (by omega)]
                        have w := MR_put (u := u9) (k := q - u9) (w := a_by v j) h5
                        rw [show u9 + (q - u9) = q by omega] at w
                        have e1 : (v >>> ((8 * x9).toInt64 &&& 63)).toInt32 &&& 255 = a_by v j := by rw [h1]; rfl
                        rw [e1]
                        exact w
                      have hI0 : IV u9 e9 he (a_sg bs he e9 n v (j + 1) S).1 := by rw [hs1]; exact IV_put h3 hq hE
                      have inner : ∀ (f u8 : Nat) (n8 m8 : Int32) (k1 k2 k3 : Nat → Int32), 64 ≤ u8 + f → u ≤ u8 → IV u8 e9 he (a_sg bs he e9 n v (j + 1) S).1 → MRa u8 (a_sg bs he e9 n v (j + 1) S) k1 k2 k3 → n8 = bs + nI u8 → m8 = nI u8 → ∀ (H : Heap) (locs : List Loc) (ls : Array Slot), va_P (dC, dI) vwCl [(a1, .inr (1, [.ref q1, .ref q2, .ref q3, .int n8, .int m8, .int ed, .int 0, .int he])), (q1, .inl (cU, 64, .inl k1)), (q2, .inl (cV, 64, .inl k2)), (q3, .inl (cZ, 64, .inl k3))] H → va_D A [(a1, .inr (1, [.ref q1, .ref q2, .ref q3, .int n8, .int m8, .int ed, .int 0, .int he])), (q1, .inl (cU, 64, .inl k1)), (q2, .inl (cV, 64, .inl k2)), (q3, .inl (cZ, 64, .inl k3))] → va_S A s.heap H locs → lv_has ls 8 [(7, .int (n + x9 - nx9)), (6, .int x9), (5, .int mn), (0, .ref a1), (1, .int n), (2, .long v), (4, .int k)] → W p l e (headSpec wsX1_segment ({ frames := 1, cells := 0, slots := 0, locals := 21 })).room s m ([.ref a1, .int n, .long v, .int k] : List Value).toArray below meth c H locs 0 0 (MQ below (va_Qi (fun (r : Int32) (u0 : Int32 × Int32 × Int32 × (Nat → Int32) × (Nat → Int32) × (Nat → Int32)) => match u0 with | (nx', mn', th', fU', fB', fH') => ((k < 0 ∨ 8 < k) ∧ th' = 1 ∧ nx' = nx ∧ mn' = mn ∧ fU' = fU ∧ fB' = fB ∧ fH' = fH) ∨ ∃ i u' : Nat, i ≤ 8 ∧ k = nI i ∧ th' = 0 ∧ u ≤ u' ∧ r = nI u' - nI u ∧ nx' = bs + nI u' ∧ mn' = nI u' ∧ IV u' e9 he (a_sg bs he e9 n v i S).1 ∧ (a_sg bs he e9 n v i S).1 u' = false ∧ MRa u' (a_sg bs he e9 n v i S) fU' fB' fH') (fun (u0 : Int32 × Int32 × Int32 × (Nat → Int32) × (Nat → Int32) × (Nat → Int32)) (t : State) => match u0 with | (nx', mn', th', fU', fB', fH') => va_P (dC, dI) vwCl [(a1, .inr (1, [.ref q1, .ref q2, .ref q3, .int nx', .int mn', .int ed, .int th', .int he])), (q1, .inl (cU, 64, .inl fU')), (q2, .inl (cV, 64, .inl fB')), (q3, .inl (cZ, 64, .inl fH'))] t.heap ∧ va_K (dC, dI) vwCl [(cU, .int), (cV, .int), (cZ, .boolean)] t ∧ va_D A [(a1, .inr (1, [.ref q1, .ref q2, .ref q3, .int nx', .int mn', .int ed, .int th', .int he])), (q1, .inl (cU, 64, .inl fU')), (q2, .inl (cV, 64, .inl fB')), (q3, .inl (cZ, 64, .inl fH'))]) A) ([.ref a1, .int n, .long v, .int k] : List Value).toArray s 0 0 A) (F0 m 135 ls []) := by
                        intro f
                        induction f with
                        | zero =>
                          intro u8 n8 m8 k1 k2 k3 p1 p2 p3 p4 p5 p6 H locs ls hP hD hS hl
                          have p7 : (¬ k3 (0 : Int32).toNatClampNeg = 0) ↔ (a_sg bs he e9 n v (j + 1) S).1 u8 = true := MR_nz (k := 0) p4 (by decide)
                          refine lv_aload_n hx hb dX1_segment_135 rfl (lv_at hl 3 rfl) ?_
                          refine va_get (D := (dC, dI)) (ci := 1) (v := .ref q3) (C := RX1) (T := TX1) (N := 8) hx hb hts hi_1 hown hK hP 0 rfl rfl 2 (by decide) (hts (.fieldLink RX1 16 "SegmentBoxModel" "isHeld" "[Z") (by decide +kernel)) (fun _ h9 => h9) rfl dX1_segment_136 ?_
                          refine lv_iconst (v := 0) hx hb dX1_segment_139 (by decide) ?_
                          refine va_zald hx hb hK hP 3 2 rfl rfl inb_0 dX1_segment_140 ?_
                          refine lv_if_eq (tgt := 151) hx hb dX1_segment_141 (by decide) (fun c_141 => ?_) (fun c_141 => ?_)
                          · obtain ⟨x_4, ex_4⟩ : ∃ y : Int32, y = x9 + 1 := ⟨_, rfl⟩
                            refine lv_iinc (v := x_4) (lv' := [(6, .int x_4), (7, .int (n + x9 - nx9)), (5, .int mn), (0, .ref a1), (1, .int n), (2, .long v), (4, .int k)]) hx hb dX1_segment_151 hl (k := 1) rfl (by rw [ex_4]; rfl) (by decide) rfl (fun ls hl => ?_)
                            refine lv_goto (tgt := 39) hx hb dX1_segment_154 (by decide) ?_
                            exact ih (j + 1) x_4 u8 n8 m8 k1 k2 k3 (by omega) (by rw [ex_4, h1, nI_succ]) p2 p3 (by
                              cases w : (a_sg bs he e9 n v (j + 1) S).1 u8 with
                              | false => rfl
                              | true => exact absurd c_141 (p7.mpr w)) p4 p5 p6 H locs ls hP hD hS (lv_sub hl [0, 2, 3, 4, 5, 6] rfl)
                          · exact absurd (p7.mp c_141) (by rw [p3.2.2.1 u8 (by omega)]; decide)
                        | succ f ih2 =>
                          intro u8 n8 m8 k1 k2 k3 p1 p2 p3 p4 p5 p6 H locs ls hP hD hS hl
                          have p7 : (¬ k3 (0 : Int32).toNatClampNeg = 0) ↔ (a_sg bs he e9 n v (j + 1) S).1 u8 = true := MR_nz (k := 0) p4 (by decide)
                          refine lv_aload_n hx hb dX1_segment_135 rfl (lv_at hl 3 rfl) ?_
                          refine va_get (D := (dC, dI)) (ci := 1) (v := .ref q3) (C := RX1) (T := TX1) (N := 8) hx hb hts hi_1 hown hK hP 0 rfl rfl 2 (by decide) (hts (.fieldLink RX1 16 "SegmentBoxModel" "isHeld" "[Z") (by decide +kernel)) (fun _ h9 => h9) rfl dX1_segment_136 ?_
                          refine lv_iconst (v := 0) hx hb dX1_segment_139 (by decide) ?_
                          refine va_zald hx hb hK hP 3 2 rfl rfl inb_0 dX1_segment_140 ?_
                          refine lv_if_eq (tgt := 151) hx hb dX1_segment_141 (by decide) (fun c_141 => ?_) (fun c_141 => ?_)
                          · obtain ⟨x_5, ex_5⟩ : ∃ y : Int32, y = x9 + 1 := ⟨_, rfl⟩
                            refine lv_iinc (v := x_5) (lv' := [(6, .int x_5), (7, .int (n + x9 - nx9)), (5, .int mn), (0, .ref a1), (1, .int n), (2, .long v), (4, .int k)]) hx hb dX1_segment_151 hl (k := 1) rfl (by rw [ex_5]; rfl) (by decide) rfl (fun ls hl => ?_)
                            refine lv_goto (tgt := 39) hx hb dX1_segment_154 (by decide) ?_
                            exact ih (j + 1) x_5 u8 n8 m8 k1 k2 k3 (by omega) (by rw [ex_5, h1, nI_succ]) p2 p3 (by
                              cases w : (a_sg bs he e9 n v (j + 1) S).1 u8 with
                              | false => rfl
                              | true => exact absurd c_141 (p7.mpr w)) p4 p5 p6 H locs ls hP hD hS (lv_sub hl [0, 2, 3, 4, 5, 6] rfl)
                          · refine lv_aload_n hx hb dX1_segment_144 rfl (lv_at hl 3 rfl) ?_
                            have hT8 := p7.mp c_141
                            obtain ⟨hu8, p8⟩ := IV_up p3 hT8
                            have hPc := hP.sub (ws' := [(a1, .inr (1, [.ref q1, .ref q2, .ref q3, .int n8, .int m8, .int ed, .int 0, .int he])), (q1, .inl (cU, 64, .inl k1)), (q2, .inl (cV, 64, .inl k2)), (q3, .inl (cZ, 64, .inl k3))]) [0, 1, 2, 3] rfl
                            have hDc := hD.sub (ws' := [(a1, .inr (1, [.ref q1, .ref q2, .ref q3, .int n8, .int m8, .int ed, .int 0, .int he])), (q1, .inl (cU, 64, .inl k1)), (q2, .inl (cV, 64, .inl k2)), (q3, .inl (cZ, 64, .inl k3))]) [0, 1, 2, 3] (by decide) rfl
                            have hKc := hK.sub (tys' := [(cU, .int), (cV, .int), (cZ, .boolean)]) [0, 1, 2] rfl
                            have hFc := va_free (wc := [(a1, .inr (1, [.ref q1, .ref q2, .ref q3, .int n8, .int m8, .int ed, .int 0, .int he])), (q1, .inl (cU, 64, .inl k1)), (q2, .inl (cV, 64, .inl k2)), (q3, .inl (cZ, 64, .inl k3))]) hD hS hA [0, 1, 2, 3] rfl
                            refine va_callv (va_runV (As := []) (rest := []) ⟨hx, hb, hml, hown, hts⟩ (m_up l dC dI a1 q1 q2 q3 cU cV cZ n8 m8 ed 0 he k1 k2 k3 u8 H.size p6 hu8 (MR_01 p4)) (cwV 0 hts gX1_segment_X1_up rfl rfl rfl (by decide +kernel) ⟨Nat.le_of_ble_eq_true rfl, Nat.le_of_ble_eq_true rfl⟩) ⟨fun a U g mk q => by obtain ⟨q0, q1, qP, qK, qD⟩ := q; exact ⟨q0, q1, qP, va_K.moved (u := U) (U := U.calling g mk a) (Vm.Alike.refl U.vm) qK, qD⟩, va_recv hKc hPc (ci := 1) (q0 := 0) rfl rfl, fun U hU hW => ⟨rfl, by rw [hU], by rw [hU]; exact hPc, va_K.moved hW.alike hKc, hDc.weaken (fun _ _ _ _ => trivial)⟩⟩ rfl rfl hl.1 rfl (lv_room (Nat.le_of_ble_eq_true rfl)) dX1_segment_145 ⟨(Nat.zero_le _), (Nat.zero_le _)⟩) hS (fun q _ h => hFc q h) hFc (fun u t H1 locs ht hvm hw_7 hB hz1 hk1 hS => ?_)
                            obtain ⟨n7, m7, j1, j2, j3⟩ := u
                            obtain ⟨hP1, hK1, hD1⟩ := hB
                            rw [ht] at hP1
                            have hK1 := va_K.moved hvm.symm hK1
                            try dsimp only at hw_7
                            obtain ⟨hP, hD⟩ := va_join (wr := []) (w1 := [(a1, .inr (1, [.ref q1, .ref q2, .ref q3, .int n7, .int m7, .int ed, .int 0, .int he])), (q1, .inl (cU, 64, .inl j1)), (q2, .inl (cV, 64, .inl j2)), (q3, .inl (cZ, 64, .inl j3))]) hP hD [0, 1, 2, 3] [] rfl rfl (by decide) (by decide) hk1 hFc hP1 hD1
                            generalize H1 = H at hP hS ⊢
                            have hP : va_P (dC, dI) vwCl [(a1, .inr (1, [.ref q1, .ref q2, .ref q3, .int n7, .int m7, .int ed, .int 0, .int he])), (q1, .inl (cU, 64, .inl j1)), (q2, .inl (cV, 64, .inl j2)), (q3, .inl (cZ, 64, .inl j3))] H := hP
                            have hD : va_D A [(a1, .inr (1, [.ref q1, .ref q2, .ref q3, .int n7, .int m7, .int ed, .int 0, .int he])), (q1, .inl (cU, 64, .inl j1)), (q2, .inl (cV, 64, .inl j2)), (q3, .inl (cZ, 64, .inl j3))] := hD
                            obtain ⟨w1, w2, w3, w4, w5, w6⟩ := hw_7
                            refine lv_goto (tgt := 135) hx hb dX1_segment_148 (by decide) ?_
                            exact ih2 (u8 + 1) n7 m7 j1 j2 j3 (by omega) (by omega) p8 (by rw [w3]; exact MR_up p4 hT8 p3.2.2.1 w4 w5 w6) (by rw [w1, p5, nI_succ, Int32.add_assoc]) w2 H locs ls hP hD hS (lv_sub hl [0, 1, 2, 3, 4, 5, 6] rfl)
                      exact inner 64 u9 nx9 mn9 g1 _ _ (by omega) h2 hI0 hM0 h6 h7 H _ ls hP hD hS (lv_sub hl [0, 1, 2, 3, 4, 5, 6] rfl)
                    · refine lv_iload hx hb dX1_segment_91 (lv_at hl 0 rfl) ?_
                      refine lv_aload_n hx hb dX1_segment_93 rfl (lv_at hl 3 rfl) ?_
                      refine va_get (D := (dC, dI)) (ci := 1) (v := .int ed) (C := RX1) (T := TX1) (N := 8) hx hb hts hi_1 hown hK hP 0 rfl rfl 5 (by decide) (hts (.fieldLink RX1 34 "SegmentBoxModel" "end" "I") (by decide +kernel)) (fun _ h9 => h9) rfl dX1_segment_94 ?_
                      refine lv_aload_n hx hb dX1_segment_97 rfl (lv_at hl 3 rfl) ?_
                      refine va_get (D := (dC, dI)) (ci := 1) (v := .int nx9) (C := RX1) (T := TX1) (N := 8) hx hb hts hi_1 hown hK hP 0 rfl rfl 3 (by decide) (hts (.fieldLink RX1 24 "SegmentBoxModel" "next" "I") (by decide +kernel)) (fun _ h9 => h9) rfl dX1_segment_98 ?_
                      refine lv_isub hx hb dX1_segment_101 ?_
                      refine lv_icmp_lt (tgt := 108) hx hb dX1_segment_102 (by decide) (fun c_102 => ?_) (fun c_102 => ?_)
                      · obtain ⟨q, hq, hN, hT, hE⟩ := key.mp ⟨c_59, Int32.not_le.mp c_71, fun z => z c_81, Or.inr c_102⟩
                        have huq : u9 ≤ q := by
                          apply Nat.le_of_not_lt
                          intro z
                          rw [h3.2.1 q z] at hT
                          cases hT
                        have ed9 : n + x9 - nx9 = nI (q - u9) := by rw [hN, h6]; exact nI_diff huq
                        have hs1 : (a_sg bs he e9 n v (j + 1) S) = (updB (a_sg bs he e9 n v j S).1 q, upd (a_sg bs he e9 n v j S).2 q (a_by v j)) := by rw [hsj]; exact a_tk_t hq hN hT hE
                        refine lv_aload_n hx hb dX1_segment_108 rfl (lv_at hl 3 rfl) ?_
                        refine va_get (D := (dC, dI)) (ci := 1) (v := .ref q3) (C := RX1) (T := TX1) (N := 8) hx hb hts hi_1 hown hK hP 0 rfl rfl 2 (by decide) (hts (.fieldLink RX1 16 "SegmentBoxModel" "isHeld" "[Z") (by decide +kernel)) (fun _ h9 => h9) rfl dX1_segment_109 ?_
                        refine lv_iload hx hb dX1_segment_112 (lv_at hl 0 rfl) ?_
                        refine lv_iconst (v := 1) hx hb dX1_segment_114 (by decide) ?_
                        refine va_zast hx hb hK hP hD hS 3 2 rfl rfl (inb_of ed9 (by omega)) dX1_segment_115 (fun H locs hP hD hS => ?_)
                        have hP : va_P (dC, dI) vwCl [(a1, .inr (1, [.ref q1, .ref q2, .ref q3, .int nx9, .int mn9, .int ed, .int 0, .int he])), (q1, .inl (cU, 64, .inl g1)), (q2, .inl (cV, 64, .inl g2)), (q3, .inl (cZ, 64, .inl (upd g3 ((n + x9) - nx9).toNatClampNeg (vp_nar .boolean 1))))] H := hP
                        have hD : va_D A [(a1, .inr (1, [.ref q1, .ref q2, .ref q3, .int nx9, .int mn9, .int ed, .int 0, .int he])), (q1, .inl (cU, 64, .inl g1)), (q2, .inl (cV, 64, .inl g2)), (q3, .inl (cZ, 64, .inl (upd g3 ((n + x9) - nx9).toNatClampNeg (vp_nar .boolean 1))))] := hD
                        refine lv_aload_n hx hb dX1_segment_116 rfl (lv_at hl 3 rfl) ?_
                        refine va_get (D := (dC, dI)) (ci := 1) (v := .ref q2) (C := RX1) (T := TX1) (N := 8) hx hb hts hi_1 hown hK hP 0 rfl rfl 1 (by decide) (hts (.fieldLink RX1 13 "SegmentBoxModel" "byteAt" "[I") (by decide +kernel)) (fun _ h9 => h9) rfl dX1_segment_117 ?_
                        refine lv_iload hx hb dX1_segment_120 (lv_at hl 0 rfl) ?_
                        refine lv_lload_n hx hb dX1_segment_122 rfl (lv_at hl 5 rfl) ?_
                        refine lv_bipush (v := 8) hx hb dX1_segment_123 (by decide) ?_
                        refine lv_iload hx hb dX1_segment_125 (lv_at hl 1 rfl) ?_
                        refine lv_imul hx hb dX1_segment_127 ?_
                        refine lv_lshr (v := v >>> ((8 * x9).toInt64 &&& 63)) hx hb dX1_segment_128 rfl ?_
                        refine lv_l2i (v := (v >>> ((8 * x9).toInt64 &&& 63)).toInt32) hx hb dX1_segment_129 rfl ?_
                        refine lv_sipush (v := 255) hx hb dX1_segment_130 (by decide) ?_
                        refine lv_iand hx hb dX1_segment_133 ?_
                        refine va_iast hx hb hK hP hD hS 2 1 rfl rfl (inb_of ed9 (by omega)) dX1_segment_134 (fun H locs hP hD hS => ?_)
                        have hP : va_P (dC, dI) vwCl [(a1, .inr (1, [.ref q1, .ref q2, .ref q3, .int nx9, .int mn9, .int ed, .int 0, .int he])), (q1, .inl (cU, 64, .inl g1)), (q2, .inl (cV, 64, .inl (upd g2 ((n + x9) - nx9).toNatClampNeg (((v >>> ((8 * x9).toInt64 &&& 63)).toInt32) &&& 255)))), (q3, .inl (cZ, 64, .inl (upd g3 ((n + x9) - nx9).toNatClampNeg (vp_nar .boolean 1))))] H := hP
                        have hD : va_D A [(a1, .inr (1, [.ref q1, .ref q2, .ref q3, .int nx9, .int mn9, .int ed, .int 0, .int he])), (q1, .inl (cU, 64, .inl g1)), (q2, .inl (cV, 64, .inl (upd g2 ((n + x9) - nx9).toNatClampNeg (((v >>> ((8 * x9).toInt64 &&& 63)).toInt32) &&& 255)))), (q3, .inl (cZ, 64, .inl (upd g3 ((n + x9) - nx9).toNatClampNeg (vp_nar .boolean 1))))] := hD
                        have hM0 : MRa u9 (a_sg bs he e9 n v (j + 1) S) g1 (upd g2 ((n + x9) - nx9).toNatClampNeg (((v >>> ((8 * x9).toInt64 &&& 63)).toInt32) &&& 255)) (upd g3 ((n + x9) - nx9).toNatClampNeg (vp_nar .boolean 1)) := by
                          rw [hs1, cl_of ed9 (by omega)]
                          have w := MR_put (u := u9) (k := q - u9) (w := a_by v j) h5
                          rw [show u9 + (q - u9) = q by omega] at w
                          have e1 : (v >>> ((8 * x9).toInt64 &&& 63)).toInt32 &&& 255 = a_by v j := by rw [h1]; rfl
                          rw [e1]
                          exact w
                        have hI0 : IV u9 e9 he (a_sg bs he e9 n v (j + 1) S).1 := by rw [hs1]; exact IV_put h3 hq hE
                        have inner : ∀ (f u8 : Nat) (n8 m8 : Int32) (k1 k2 k3 : Nat → Int32), 64 ≤ u8 + f → u ≤ u8 → IV u8 e9 he (a_sg bs he e9 n v (j + 1) S).1 → MRa u8 (a_sg bs he e9 n v (j + 1) S) k1 k2 k3 → n8 = bs + nI u8 → m8 = nI u8 → ∀ (H : Heap) (locs : List Loc) (ls : Array Slot), va_P (dC, dI) vwCl [(a1, .inr (1, [.ref q1, .ref q2, .ref q3, .int n8, .int m8, .int ed, .int 0, .int he])), (q1, .inl (cU, 64, .inl k1)), (q2, .inl (cV, 64, .inl k2)), (q3, .inl (cZ, 64, .inl k3))] H → va_D A [(a1, .inr (1, [.ref q1, .ref q2, .ref q3, .int n8, .int m8, .int ed, .int 0, .int he])), (q1, .inl (cU, 64, .inl k1)), (q2, .inl (cV, 64, .inl k2)), (q3, .inl (cZ, 64, .inl k3))] → va_S A s.heap H locs → lv_has ls 8 [(7, .int (n + x9 - nx9)), (6, .int x9), (5, .int mn), (0, .ref a1), (1, .int n), (2, .long v), (4, .int k)] → W p l e (headSpec wsX1_segment ({ frames := 1, cells := 0, slots := 0, locals := 21 })).room s m ([.ref a1, .int n, .long v, .int k] : List Value).toArray below meth c H locs 0 0 (MQ below (va_Qi (fun (r : Int32) (u0 : Int32 × Int32 × Int32 × (Nat → Int32) × (Nat → Int32) × (Nat → Int32)) => match u0 with | (nx', mn', th', fU', fB', fH') => ((k < 0 ∨ 8 < k) ∧ th' = 1 ∧ nx' = nx ∧ mn' = mn ∧ fU' = fU ∧ fB' = fB ∧ fH' = fH) ∨ ∃ i u' : Nat, i ≤ 8 ∧ k = nI i ∧ th' = 0 ∧ u ≤ u' ∧ r = nI u' - nI u ∧ nx' = bs + nI u' ∧ mn' = nI u' ∧ IV u' e9 he (a_sg bs he e9 n v i S).1 ∧ (a_sg bs he e9 n v i S).1 u' = false ∧ MRa u' (a_sg bs he e9 n v i S) fU' fB' fH') (fun (u0 : Int32 × Int32 × Int32 × (Nat → Int32) × (Nat → Int32) × (Nat → Int32)) (t : State) => match u0 with | (nx', mn', th', fU', fB', fH') => va_P (dC, dI) vwCl [(a1, .inr (1, [.ref q1, .ref q2, .ref q3, .int nx', .int mn', .int ed, .int th', .int he])), (q1, .inl (cU, 64, .inl fU')), (q2, .inl (cV, 64, .inl fB')), (q3, .inl (cZ, 64, .inl fH'))] t.heap ∧ va_K (dC, dI) vwCl [(cU, .int), (cV, .int), (cZ, .boolean)] t ∧ va_D A [(a1, .inr (1, [.ref q1, .ref q2, .ref q3, .int nx', .int mn', .int ed, .int th', .int he])), (q1, .inl (cU, 64, .inl fU')), (q2, .inl (cV, 64, .inl fB')), (q3, .inl (cZ, 64, .inl fH'))]) A) ([.ref a1, .int n, .long v, .int k] : List Value).toArray s 0 0 A) (F0 m 135 ls []) := by
                          intro f
                          induction f with
                          | zero =>
                            intro u8 n8 m8 k1 k2 k3 p1 p2 p3 p4 p5 p6 H locs ls hP hD hS hl
                            have p7 : (¬ k3 (0 : Int32).toNatClampNeg = 0) ↔ (a_sg bs he e9 n v (j + 1) S).1 u8 = true := MR_nz (k := 0) p4 (by decide)
                            refine lv_aload_n hx hb dX1_segment_135 rfl (lv_at hl 3 rfl) ?_
                            refine va_get (D := (dC, dI)) (ci := 1) (v := .ref q3) (C := RX1) (T := TX1) (N := 8) hx hb hts hi_1 hown hK hP 0 rfl rfl 2 (by decide) (hts (.fieldLink RX1 16 "SegmentBoxModel" "isHeld" "[Z") (by decide +kernel)) (fun _ h9 => h9) rfl dX1_segment_136 ?_
                            refine lv_iconst (v := 0) hx hb dX1_segment_139 (by decide) ?_
                            refine va_zald hx hb hK hP 3 2 rfl rfl inb_0 dX1_segment_140 ?_
                            refine lv_if_eq (tgt := 151) hx hb dX1_segment_141 (by decide) (fun c_141 => ?_) (fun c_141 => ?_)
                            · obtain ⟨x_8, ex_8⟩ : ∃ y : Int32, y = x9 + 1 := ⟨_, rfl⟩
                              refine lv_iinc (v := x_8) (lv' := [(6, .int x_8), (7, .int (n + x9 - nx9)), (5, .int mn), (0, .ref a1), (1, .int n), (2, .long v), (4, .int k)]) hx hb dX1_segment_151 hl (k := 1) rfl (by rw [ex_8]; rfl) (by decide) rfl (fun ls hl => ?_)
                              refine lv_goto (tgt := 39) hx hb dX1_segment_154 (by decide) ?_
                              exact ih (j + 1) x_8 u8 n8 m8 k1 k2 k3 (by omega) (by rw [ex_8, h1, nI_succ]) p2 p3 (by
                                cases w : (a_sg bs he e9 n v (j + 1) S).1 u8 with
                                | false => rfl
                                | true => exact absurd c_141 (p7.mpr w)) p4 p5 p6 H locs ls hP hD hS (lv_sub hl [0, 2, 3, 4, 5, 6] rfl)
                            · exact absurd (p7.mp c_141) (by rw [p3.2.2.1 u8 (by omega)]; decide)
                          | succ f ih2 =>
                            intro u8 n8 m8 k1 k2 k3 p1 p2 p3 p4 p5 p6 H locs ls hP hD hS hl
                            have p7 : (¬ k3 (0 : Int32).toNatClampNeg = 0) ↔ (a_sg bs he e9 n v (j + 1) S).1 u8 = true := MR_nz (k := 0) p4 (by decide)
                            refine lv_aload_n hx hb dX1_segment_135 rfl (lv_at hl 3 rfl) ?_
                            refine va_get (D := (dC, dI)) (ci := 1) (v := .ref q3) (C := RX1) (T := TX1) (N := 8) hx hb hts hi_1 hown hK hP 0 rfl rfl 2 (by decide) (hts (.fieldLink RX1 16 "SegmentBoxModel" "isHeld" "[Z") (by decide +kernel)) (fun _ h9 => h9) rfl dX1_segment_136 ?_
                            refine lv_iconst (v := 0) hx hb dX1_segment_139 (by decide) ?_
                            refine va_zald hx hb hK hP 3 2 rfl rfl inb_0 dX1_segment_140 ?_
                            refine lv_if_eq (tgt := 151) hx hb dX1_segment_141 (by decide) (fun c_141 => ?_) (fun c_141 => ?_)
                            · obtain ⟨x_9, ex_9⟩ : ∃ y : Int32, y = x9 + 1 := ⟨_, rfl⟩
                              refine lv_iinc (v := x_9) (lv' := [(6, .int x_9), (7, .int (n + x9 - nx9)), (5, .int mn), (0, .ref a1), (1, .int n), (2, .long v), (4, .int k)]) hx hb dX1_segment_151 hl (k := 1) rfl (by rw [ex_9]; rfl) (by decide) rfl (fun ls hl => ?_)
                              refine lv_goto (tgt := 39) hx hb dX1_segment_154 (by decide) ?_
                              exact ih (j + 1) x_9 u8 n8 m8 k1 k2 k3 (by omega) (by rw [ex_9, h1, nI_succ]) p2 p3 (by
                                cases w : (a_sg bs he e9 n v (j + 1) S).1 u8 with
                                | false => rfl
                                | true => exact absurd c_141 (p7.mpr w)) p4 p5 p6 H locs ls hP hD hS (lv_sub hl [0, 2, 3, 4, 5, 6] rfl)
                            · refine lv_aload_n hx hb dX1_segment_144 rfl (lv_at hl 3 rfl) ?_
                              have hT8 := p7.mp c_141
                              obtain ⟨hu8, p8⟩ := IV_up p3 hT8
                              have hPc := hP.sub (ws' := [(a1, .inr (1, [.ref q1, .ref q2, .ref q3, .int n8, .int m8, .int ed, .int 0, .int he])), (q1, .inl (cU, 64, .inl k1)), (q2, .inl (cV, 64, .inl k2)), (q3, .inl (cZ, 64, .inl k3))]) [0, 1, 2, 3] rfl
                              have hDc := hD.sub (ws' := [(a1, .inr (1, [.ref q1, .ref q2, .ref q3, .int n8, .int m8, .int ed, .int 0, .int he])), (q1, .inl (cU, 64, .inl k1)), (q2, .inl (cV, 64, .inl k2)), (q3, .inl (cZ, 64, .inl k3))]) [0, 1, 2, 3] (by decide) rfl
                              have hKc := hK.sub (tys' := [(cU, .int), (cV, .int), (cZ, .boolean)]) [0, 1, 2] rfl
                              have hFc := va_free (wc := [(a1, .inr (1, [.ref q1, .ref q2, .ref q3, .int n8, .int m8, .int ed, .int 0, .int he])), (q1, .inl (cU, 64, .inl k1)), (q2, .inl (cV, 64, .inl k2)), (q3, .inl (cZ, 64, .inl k3))]) hD hS hA [0, 1, 2, 3] rfl
                              refine va_callv (va_runV (As := []) (rest := []) ⟨hx, hb, hml, hown, hts⟩ (m_up l dC dI a1 q1 q2 q3 cU cV cZ n8 m8 ed 0 he k1 k2 k3 u8 H.size p6 hu8 (MR_01 p4)) (cwV 0 hts gX1_segment_X1_up rfl rfl rfl (by decide +kernel) ⟨Nat.le_of_ble_eq_true rfl, Nat.le_of_ble_eq_true rfl⟩) ⟨fun a U g mk q => by obtain ⟨q0, q1, qP, qK, qD⟩ := q; exact ⟨q0, q1, qP, va_K.moved (u := U) (U := U.calling g mk a) (Vm.Alike.refl U.vm) qK, qD⟩, va_recv hKc hPc (ci := 1) (q0 := 0) rfl rfl, fun U hU hW => ⟨rfl, by rw [hU], by rw [hU]; exact hPc, va_K.moved hW.alike hKc, hDc.weaken (fun _ _ _ _ => trivial)⟩⟩ rfl rfl hl.1 rfl (lv_room (Nat.le_of_ble_eq_true rfl)) dX1_segment_145 ⟨(Nat.zero_le _), (Nat.zero_le _)⟩) hS (fun q _ h => hFc q h) hFc (fun u t H1 locs ht hvm hw_11 hB hz1 hk1 hS => ?_)
                              obtain ⟨n7, m7, j1, j2, j3⟩ := u
                              obtain ⟨hP1, hK1, hD1⟩ := hB
                              rw [ht] at hP1
                              have hK1 := va_K.moved hvm.symm hK1
                              try dsimp only at hw_11
                              obtain ⟨hP, hD⟩ := va_join (wr := []) (w1 := [(a1, .inr (1, [.ref q1, .ref q2, .ref q3, .int n7, .int m7, .int ed, .int 0, .int he])), (q1, .inl (cU, 64, .inl j1)), (q2, .inl (cV, 64, .inl j2)), (q3, .inl (cZ, 64, .inl j3))]) hP hD [0, 1, 2, 3] [] rfl rfl (by decide) (by decide) hk1 hFc hP1 hD1
                              generalize H1 = H at hP hS ⊢
                              have hP : va_P (dC, dI) vwCl [(a1, .inr (1, [.ref q1, .ref q2, .ref q3, .int n7, .int m7, .int ed, .int 0, .int he])), (q1, .inl (cU, 64, .inl j1)), (q2, .inl (cV, 64, .inl j2)), (q3, .inl (cZ, 64, .inl j3))] H := hP
                              have hD : va_D A [(a1, .inr (1, [.ref q1, .ref q2, .ref q3, .int n7, .int m7, .int ed, .int 0, .int he])), (q1, .inl (cU, 64, .inl j1)), (q2, .inl (cV, 64, .inl j2)), (q3, .inl (cZ, 64, .inl j3))] := hD
                              obtain ⟨w1, w2, w3, w4, w5, w6⟩ := hw_11
                              refine lv_goto (tgt := 135) hx hb dX1_segment_148 (by decide) ?_
                              exact ih2 (u8 + 1) n7 m7 j1 j2 j3 (by omega) (by omega) p8 (by rw [w3]; exact MR_up p4 hT8 p3.2.2.1 w4 w5 w6) (by rw [w1, p5, nI_succ, Int32.add_assoc]) w2 H locs ls hP hD hS (lv_sub hl [0, 1, 2, 3, 4, 5, 6] rfl)
                        exact inner 64 u9 nx9 mn9 g1 _ _ (by omega) h2 hI0 hM0 h6 h7 H _ ls hP hD hS (lv_sub hl [0, 1, 2, 3, 4, 5, 6] rfl)
                      · refine lv_goto (tgt := 151) hx hb dX1_segment_105 (by decide) ?_
                        have hsame : (a_sg bs he e9 n v (j + 1) S) = (a_sg bs he e9 n v j S) := by rw [hsj]; exact a_tk_f (fun w => (fun z => z.2.2.2.elim c_88 c_102) (key.mpr w))
                        obtain ⟨x_12, ex_12⟩ : ∃ y : Int32, y = x9 + 1 := ⟨_, rfl⟩
                        refine lv_iinc (v := x_12) (lv' := [(6, .int x_12), (7, .int ((n + x9) - nx9)), (5, .int mn), (0, .ref a1), (1, .int n), (2, .long v), (4, .int k)]) hx hb dX1_segment_151 hl (k := 1) rfl (by rw [ex_12]; rfl) (by decide) rfl (fun ls hl => ?_)
                        refine lv_goto (tgt := 39) hx hb dX1_segment_154 (by decide) ?_
                        exact ih (j + 1) x_12 u9 nx9 mn9 g1 g2 g3 (by omega) (by rw [ex_12, h1, nI_succ]) h2 (by rw [hsame]; exact h3) (by rw [hsame]; exact h4) (by rw [hsame]; exact h5) h6 h7 H locs ls hP hD hS (lv_sub hl [0, 2, 3, 4, 5, 6] rfl)
        refine lv_iconst (v := 0) hx hb dX1_segment_36 (by decide) ?_
        refine lv_istore (lv' := [(6, .int 0), (5, .int mn), (0, .ref a1), (1, .int n), (2, .long v), (4, .int k)]) hx hb dX1_segment_37 hl (by decide) rfl (fun ls hl => ?_)
        exact loop i0 0 0 u nx mn fU fB fH (by omega) nI_0.symm (Nat.le_refl _) hIV hnr hMR hnx hmn H _ ls hP hD hS (lv_sub hl [0, 1, 2, 3, 4, 5] rfl)
      · exact absurd (by decide) c_25
    · refine lv_iconst (v := 1) hx hb dX1_segment_13 (by decide) ?_
      refine lv_goto (tgt := 18) hx hb dX1_segment_14 (by decide) ?_
      refine va_put (D := (dC, dI)) (ci := 1) (v := .int 1) (ty := .int) (C := RX1) (T := TX1) (N := 8) hx hb hts hi_1 tyX1 tyX1_ok nmX1 hown hK hP hD hS 0 rfl rfl 6 (by decide) (hts (.fieldLink RX1 20 "SegmentBoxModel" "thrown" "I") (by decide +kernel)) (fun _ h9 => h9) rfl (by decide +kernel) rfl rfl (Nat.le_of_ble_eq_true rfl) dX1_segment_18 (fun H locs hP hD hS => ?_)
      have hP : va_P (dC, dI) vwCl [(a1, .inr (1, [.ref q1, .ref q2, .ref q3, .int nx, .int mn, .int ed, .int 1, .int he])), (q1, .inl (cU, 64, .inl fU)), (q2, .inl (cV, 64, .inl fB)), (q3, .inl (cZ, 64, .inl fH))] H := hP
      have hD : va_D A [(a1, .inr (1, [.ref q1, .ref q2, .ref q3, .int nx, .int mn, .int ed, .int 1, .int he])), (q1, .inl (cU, 64, .inl fU)), (q2, .inl (cV, 64, .inl fB)), (q3, .inl (cZ, 64, .inl fH))] := hD
      refine lv_aload_n hx hb dX1_segment_21 rfl (lv_at hl 0 rfl) ?_
      refine va_get (D := (dC, dI)) (ci := 1) (v := .int 1) (C := RX1) (T := TX1) (N := 8) hx hb hts hi_1 hown hK hP 0 rfl rfl 6 (by decide) (hts (.fieldLink RX1 20 "SegmentBoxModel" "thrown" "I") (by decide +kernel)) (fun _ h9 => h9) rfl dX1_segment_22 ?_
      refine lv_if_le (tgt := 30) hx hb dX1_segment_25 (by decide) (fun c_25 => ?_) (fun c_25 => ?_)
      · exact absurd c_25 (by decide)
      · refine lv_iconst (v := 0) hx hb dX1_segment_28 (by decide) ?_
        exact W.iret (v := 0) hx hb hr (fun t ht hW => ⟨⟨0, (nx, mn, 1, fU, fB, fH), rfl, Or.inl ⟨Or.inr (Int32.not_le.mp c_10), rfl, rfl, rfl, rfl, rfl, rfl⟩, by rw [ht]; exact hP, va_K.moved hW.alike hK, hD⟩, hS.F ht⟩) hS.2.2 dX1_segment_29
