set_option maxHeartbeats 4000000 in
set_option maxRecDepth 100000 in
theorem m_from (l : Launch) (dC : Nat → ClassId) (dI : Nat → Nat → Nat) (a1 q1 q2 q3 : Nat) (cU cV cZ : ClassId) (nx mn ed th he : Int32) (fU fB fH : Nat → Int32) (i : Int32) (i0 : Nat) (sz : Nat) (hi : i = nI i0) (hi0 : i0 < 2 ^ 31) : Met l yX1_from wsX1_from ({ frames := 0, cells := 0, slots := 0, locals := 0 }) (va_Pc [.ref a1, .int i] (fun U => U.heap.size = sz ∧ va_P (dC, dI) vwCl [(a1, .inr (1, [.ref q1, .ref q2, .ref q3, .int nx, .int mn, .int ed, .int th, .int he])), (q1, .inl (cU, 64, .inl fU)), (q2, .inl (cV, 64, .inl fB)), (q3, .inl (cZ, 64, .inl fH))] U.heap ∧ va_K (dC, dI) vwCl [(cU, .int), (cV, .int), (cZ, .boolean)] U ∧ va_D (fun _ => True) [(a1, .inr (1, [.ref q1, .ref q2, .ref q3, .int nx, .int mn, .int ed, .int th, .int he])), (q1, .inl (cU, 64, .inl fU)), (q2, .inl (cV, 64, .inl fB)), (q3, .inl (cZ, 64, .inl fH))])) (va_Qi (fun (r : Int32) (u0 : Unit) => match u0 with | () => (∃ k : Nat, k < 64 ∧ r = nI k ∧ st (pH fH) k = true ∧ sg_c (st (pH fH)) k = i0) ∨ (r = -1 ∧ sg_c (st (pH fH)) 64 ≤ i0)) (fun (u0 : Unit) (t : State) => match u0 with | () => va_P (dC, dI) vwCl [(a1, .inr (1, [.ref q1, .ref q2, .ref q3, .int nx, .int mn, .int ed, .int th, .int he])), (q1, .inl (cU, 64, .inl fU)), (q2, .inl (cV, 64, .inl fB)), (q3, .inl (cZ, 64, .inl fH))] t.heap ∧ va_K (dC, dI) vwCl [(cU, .int), (cV, .int), (cZ, .boolean)] t ∧ va_D (va_A [(a1, .inr (1, [.ref q1, .ref q2, .ref q3, .int nx, .int mn, .int ed, .int th, .int he])), (q1, .inl (cU, 64, .inl fU)), (q2, .inl (cV, 64, .inl fB)), (q3, .inl (cZ, 64, .inl fH))] sz) [(a1, .inr (1, [.ref q1, .ref q2, .ref q3, .int nx, .int mn, .int ed, .int th, .int he])), (q1, .inl (cU, 64, .inl fU)), (q2, .inl (cV, 64, .inl fB)), (q3, .inl (cZ, 64, .inl fH))]) (va_A [(a1, .inr (1, [.ref q1, .ref q2, .ref q3, .int nx, .int mn, .int ed, .int th, .int he])), (q1, .inl (cU, 64, .inl fU)), (q2, .inl (cV, 64, .inl fB)), (q3, .inl (cZ, 64, .inl fH))] sz)) 0 0 (va_A [(a1, .inr (1, [.ref q1, .ref q2, .ref q3, .int nx, .int mn, .int ed, .int th, .int he])), (q1, .inl (cU, 64, .inl fU)), (q2, .inl (cV, 64, .inl fB)), (q3, .inl (cZ, 64, .inl fH))] sz) := by
  refine Met.ofW (cc := cX1_from) (maxL := 4) (ret := (some .int)) (by decide) rfl ?_
  intro p e s m args below meth c s₁ B hml hv
  obtain ⟨rfl, hsz, hP, hK, hD0⟩ := hv
  have hx := B.exec
  have hb := B.bytes
  have hr := B.returns
  have hts := atoms_spec (ws := wsX1_from) B.pre
  have hown : s.vm.findClass RX1 = some m.cls := findClass_of_methodNamed B.named
  have hlocks := B.notSynchronized
  subst hsz
  have hD := hD0.self (sz := s.heap.size)
  generalize hAe : va_A [(a1, .inr (1, [.ref q1, .ref q2, .ref q3, .int nx, .int mn, .int ed, .int th, .int he])), (q1, .inl (cU, 64, .inl fU)), (q2, .inl (cV, 64, .inl fB)), (q3, .inl (cZ, 64, .inl fH))] s.heap.size = A at hD ⊢
  have hA : ∀ q : Nat, s.heap.size ≤ q → A q := fun q h => by rw [← hAe]; exact Or.inr h
  have hS : va_S A s.heap s.heap [] := va_S.rf
  have hP : va_P (dC, dI) vwCl [(a1, .inr (1, [.ref q1, .ref q2, .ref q3, .int nx, .int mn, .int ed, .int th, .int he])), (q1, .inl (cU, 64, .inl fU)), (q2, .inl (cV, 64, .inl fB)), (q3, .inl (cZ, 64, .inl fH))] s.heap := hP
  have hl := lv_entry ([.ref a1, .int i]) (n := 4) (Nat.le_of_ble_eq_true rfl)
  rw [lg_entry_eq]
  generalize (lg_sl ([.ref a1, .int i]) ++ List.replicate (4 - (lg_sl ([.ref a1, .int i])).length) Slot.unset).toArray = ls at hl ⊢
  have hl : lv_has ls 4 [(0, .ref a1), (1, .int i)] := hl
  have hi_1 : ∀ w ∈ u_ws RX1 TX1 8, w ∈ wsX1_from := by decide +kernel
  have loop : ∀ (cnt k : Nat) (x9 y9 : Int32), k + cnt = 64 → x9 = nI k → y9 = nI (i0 - sg_c (st (pH fH)) k) → sg_c (st (pH fH)) k ≤ i0 → ∀ (H : Heap) (locs : List Loc) (ls : Array Slot), va_P (dC, dI) vwCl [(a1, .inr (1, [.ref q1, .ref q2, .ref q3, .int nx, .int mn, .int ed, .int th, .int he])), (q1, .inl (cU, 64, .inl fU)), (q2, .inl (cV, 64, .inl fB)), (q3, .inl (cZ, 64, .inl fH))] H → va_D A [(a1, .inr (1, [.ref q1, .ref q2, .ref q3, .int nx, .int mn, .int ed, .int th, .int he])), (q1, .inl (cU, 64, .inl fU)), (q2, .inl (cV, 64, .inl fB)), (q3, .inl (cZ, 64, .inl fH))] → va_S A s.heap H locs → lv_has ls 4 [(3, .int x9), (2, .int y9), (0, .ref a1), (1, .int i)] → W p l e (headSpec wsX1_from ({ frames := 0, cells := 0, slots := 0, locals := 0 })).room s m ([.ref a1, .int i] : List Value).toArray below meth c H locs 0 0 (MQ below (va_Qi (fun (r : Int32) (u0 : Unit) => match u0 with | () => (∃ k : Nat, k < 64 ∧ r = nI k ∧ st (pH fH) k = true ∧ sg_c (st (pH fH)) k = i0) ∨ (r = -1 ∧ sg_c (st (pH fH)) 64 ≤ i0)) (fun (u0 : Unit) (t : State) => match u0 with | () => va_P (dC, dI) vwCl [(a1, .inr (1, [.ref q1, .ref q2, .ref q3, .int nx, .int mn, .int ed, .int th, .int he])), (q1, .inl (cU, 64, .inl fU)), (q2, .inl (cV, 64, .inl fB)), (q3, .inl (cZ, 64, .inl fH))] t.heap ∧ va_K (dC, dI) vwCl [(cU, .int), (cV, .int), (cZ, .boolean)] t ∧ va_D A [(a1, .inr (1, [.ref q1, .ref q2, .ref q3, .int nx, .int mn, .int ed, .int th, .int he])), (q1, .inl (cU, 64, .inl fU)), (q2, .inl (cV, 64, .inl fB)), (q3, .inl (cZ, 64, .inl fH))]) A) ([.ref a1, .int i] : List Value).toArray s 0 0 A) (F0 m 4 ls []) := by
    intro cnt
    induction cnt with
    | zero =>
      intro k x9 y9 hk h1 h2 h3 H locs ls hP hD hS hl
      refine lv_iload_n hx hb dX1_from_4 rfl (lv_at hl 0 rfl) ?_
      refine lv_bipush (v := 64) hx hb dX1_from_5 (by decide) ?_
      refine lv_icmp_ge (tgt := 52) hx hb dX1_from_7 (by decide) (fun c_7 => ?_) (fun c_7 => ?_)
      · refine lv_iconst (v := -1) hx hb dX1_from_52 (by decide) ?_
        exact W.iret (v := (-1)) hx hb hr (fun t ht hW => ⟨⟨(-1), (), rfl, Or.inr ⟨rfl, by rw [← show k = 64 by omega]; exact h3⟩, by rw [ht]; exact hP, va_K.moved hW.alike hK, hD⟩, hS.F ht⟩) hS.2.2 dX1_from_53
      · exact absurd ((ge64 h1 (by omega)).mpr (by omega)) c_7
    | succ cnt ih =>
      intro k x9 y9 hk h1 h2 h3 H locs ls hP hD hS hl
      have hc9 := sg_c_le (st (pH fH)) k
      have ek : x9.toNatClampNeg = k := cl_of h1 (by omega)
      have k0 : ¬ x9 ≤ 0 → 0 < k := fun q => Nat.pos_of_ne_zero (fun z => q (by rw [h1, z]; decide))
      have em1 : ¬ x9 ≤ 0 → x9 - 1 = nI (k - 1) := fun q => by
        have := k0 q
        rw [h1, show k = (k - 1) + 1 by omega, nI_pred]
        rfl
      refine lv_iload_n hx hb dX1_from_4 rfl (lv_at hl 0 rfl) ?_
      refine lv_bipush (v := 64) hx hb dX1_from_5 (by decide) ?_
      refine lv_icmp_ge (tgt := 52) hx hb dX1_from_7 (by decide) (fun c_7 => ?_) (fun c_7 => ?_)
      · exact absurd ((ge64 h1 (by omega)).mp c_7) (by omega)
      · refine lv_aload_n hx hb dX1_from_10 rfl (lv_at hl 2 rfl) ?_
        refine va_get (D := (dC, dI)) (ci := 1) (v := .ref q3) (C := RX1) (T := TX1) (N := 8) hx hb hts hi_1 hown hK hP 0 rfl rfl 2 (by decide) (hts (.fieldLink RX1 16 "SegmentBoxModel" "isHeld" "[Z") (by decide +kernel)) (fun _ h9 => h9) rfl dX1_from_11 ?_
        refine lv_iload_n hx hb dX1_from_14 rfl (lv_at hl 0 rfl) ?_
        refine va_zald hx hb hK hP 3 2 rfl rfl (inb_of h1 (by omega)) dX1_from_15 ?_
        refine lv_if_eq (tgt := 46) hx hb dX1_from_16 (by decide) (fun c_16 => ?_) (fun c_16 => ?_)
        · obtain ⟨x_1, ex_1⟩ : ∃ y : Int32, y = x9 + 1 := ⟨_, rfl⟩
          refine lv_iinc (v := x_1) (lv' := [(3, .int x_1), (2, .int y9), (0, .ref a1), (1, .int i)]) hx hb dX1_from_46 hl (k := 0) rfl (by rw [ex_1]; rfl) (by decide) rfl (fun ls hl => ?_)
          refine lv_goto (tgt := 4) hx hb dX1_from_49 (by decide) ?_
          have hst : st (pH fH) k = false := st_0 (pH_f (by rw [← ek]; exact c_16))
          have hcs := sg_cn hst
          exact ih (k + 1) x_1 y9 (by omega) (by rw [ex_1, h1, nI_succ]) (by rw [hcs]; exact h2) (by omega) H locs ls hP hD hS (lv_sub hl [0, 1, 2, 3] rfl)
        · refine lv_iload_n hx hb dX1_from_19 rfl (lv_at hl 0 rfl) ?_
          refine lv_if_le (tgt := 37) hx hb dX1_from_20 (by decide) (fun c_20 => ?_) (fun c_20 => ?_)
          · refine lv_iload_n hx hb dX1_from_37 rfl (lv_at hl 1 rfl) ?_
            refine lv_if_ne (tgt := 43) hx hb dX1_from_38 (by decide) (fun c_38 => ?_) (fun c_38 => ?_)
            · obtain ⟨x_2, ex_2⟩ : ∃ y : Int32, y = y9 + (-1) := ⟨_, rfl⟩
              refine lv_iinc (v := x_2) (lv' := [(2, .int x_2), (3, .int x9), (0, .ref a1), (1, .int i)]) hx hb dX1_from_43 hl (k := 1) rfl (by rw [ex_2]; rfl) (by decide) rfl (fun ls hl => ?_)
              obtain ⟨x_3, ex_3⟩ : ∃ y : Int32, y = x9 + 1 := ⟨_, rfl⟩
              refine lv_iinc (v := x_3) (lv' := [(3, .int x_3), (2, .int x_2), (0, .ref a1), (1, .int i)]) hx hb dX1_from_46 hl (k := 1) rfl (by rw [ex_3]; rfl) (by decide) rfl (fun ls hl => ?_)
              refine lv_goto (tgt := 4) hx hb dX1_from_49 (by decide) ?_
              have hst : st (pH fH) k = true := st_1 (pH_t (by rw [← ek]; exact c_16)) (Or.inl (by
                have q := c_20
                rw [h1] at q
                have := (nI_leI (b := 0) (by omega) (by decide)).mp q
                omega))
              have hcs := sg_cs hst
              have hne : i0 - sg_c (st (pH fH)) k ≠ 0 := fun z => c_38 (by rw [h2, z]; rfl)
              exact ih (k + 1) x_3 x_2 (by omega) (by rw [ex_3, h1, nI_succ]) (by rw [ex_2, h2, hcs, show i0 - sg_c (st (pH fH)) k = (i0 - (sg_c (st (pH fH)) k + 1)) + 1 by omega, pk_m1]) (by omega) H locs ls hP hD hS (lv_sub hl [0, 1, 2, 3] rfl)
            · refine lv_iload_n hx hb dX1_from_41 rfl (lv_at hl 0 rfl) ?_
              have hst : st (pH fH) k = true := st_1 (pH_t (by rw [← ek]; exact c_16)) (Or.inl (by
                have q := c_20
                rw [h1] at q
                have := (nI_leI (b := 0) (by omega) (by decide)).mp q
                omega))
              exact W.iret (v := x9) hx hb hr (fun t ht hW => ⟨⟨x9, (), rfl, Or.inl ⟨k, by omega, h1, hst, by rw [h2] at c_38; have := (nI_eq (b := 0) (by omega) (by decide)).mp c_38; omega⟩, by rw [ht]; exact hP, va_K.moved hW.alike hK, hD⟩, hS.F ht⟩) hS.2.2 dX1_from_42
          · refine lv_aload_n hx hb dX1_from_23 rfl (lv_at hl 2 rfl) ?_
            refine va_get (D := (dC, dI)) (ci := 1) (v := .ref q3) (C := RX1) (T := TX1) (N := 8) hx hb hts hi_1 hown hK hP 0 rfl rfl 2 (by decide) (hts (.fieldLink RX1 16 "SegmentBoxModel" "isHeld" "[Z") (by decide +kernel)) (fun _ h9 => h9) rfl dX1_from_24 ?_
            refine lv_iload_n hx hb dX1_from_27 rfl (lv_at hl 0 rfl) ?_
            refine lv_iconst (v := 1) hx hb dX1_from_28 (by decide) ?_
            refine lv_isub hx hb dX1_from_29 ?_
            refine va_zald hx hb hK hP 3 2 rfl rfl (inb_of (em1 c_20) (by omega)) dX1_from_30 ?_
            refine lv_if_eq (tgt := 37) hx hb dX1_from_31 (by decide) (fun c_31 => ?_) (fun c_31 => ?_)
            · refine lv_iload_n hx hb dX1_from_37 rfl (lv_at hl 1 rfl) ?_
              refine lv_if_ne (tgt := 43) hx hb dX1_from_38 (by decide) (fun c_38 => ?_) (fun c_38 => ?_)
              · obtain ⟨x_4, ex_4⟩ : ∃ y : Int32, y = y9 + (-1) := ⟨_, rfl⟩
                refine lv_iinc (v := x_4) (lv' := [(2, .int x_4), (3, .int x9), (0, .ref a1), (1, .int i)]) hx hb dX1_from_43 hl (k := 1) rfl (by rw [ex_4]; rfl) (by decide) rfl (fun ls hl => ?_)
                obtain ⟨x_5, ex_5⟩ : ∃ y : Int32, y = x9 + 1 := ⟨_, rfl⟩
                refine lv_iinc (v := x_5) (lv' := [(3, .int x_5), (2, .int x_4), (0, .ref a1), (1, .int i)]) hx hb dX1_from_46 hl (k := 1) rfl (by rw [ex_5]; rfl) (by decide) rfl (fun ls hl => ?_)
                refine lv_goto (tgt := 4) hx hb dX1_from_49 (by decide) ?_
                have hst : st (pH fH) k = true := st_1 (pH_t (by rw [← ek]; exact c_16)) (Or.inr (pH_f (by rw [← cl_of (em1 c_20) (by omega)]; exact c_31)))
                have hcs := sg_cs hst
                have hne : i0 - sg_c (st (pH fH)) k ≠ 0 := fun z => c_38 (by rw [h2, z]; rfl)
                exact ih (k + 1) x_5 x_4 (by omega) (by rw [ex_5, h1, nI_succ]) (by rw [ex_4, h2, hcs, show i0 - sg_c (st (pH fH)) k = (i0 - (sg_c (st (pH fH)) k + 1)) + 1 by omega, pk_m1]) (by omega) H locs ls hP hD hS (lv_sub hl [0, 1, 2, 3] rfl)
              · refine lv_iload_n hx hb dX1_from_41 rfl (lv_at hl 0 rfl) ?_
                have hst : st (pH fH) k = true := st_1 (pH_t (by rw [← ek]; exact c_16)) (Or.inr (pH_f (by rw [← cl_of (em1 c_20) (by omega)]; exact c_31)))
                exact W.iret (v := x9) hx hb hr (fun t ht hW => ⟨⟨x9, (), rfl, Or.inl ⟨k, by omega, h1, hst, by rw [h2] at c_38; have := (nI_eq (b := 0) (by omega) (by decide)).mp c_38; omega⟩, by rw [ht]; exact hP, va_K.moved hW.alike hK, hD⟩, hS.F ht⟩) hS.2.2 dX1_from_42
            · refine lv_goto (tgt := 46) hx hb dX1_from_34 (by decide) ?_
              obtain ⟨x_6, ex_6⟩ : ∃ y : Int32, y = x9 + 1 := ⟨_, rfl⟩
              refine lv_iinc (v := x_6) (lv' := [(3, .int x_6), (2, .int y9), (0, .ref a1), (1, .int i)]) hx hb dX1_from_46 hl (k := 0) rfl (by rw [ex_6]; rfl) (by decide) rfl (fun ls hl => ?_)
              refine lv_goto (tgt := 4) hx hb dX1_from_49 (by decide) ?_
              have hst : st (pH fH) k = false := st_2 (k0 c_20) (pH_t (by rw [← cl_of (em1 c_20) (by omega)]; exact c_31))
              have hcs := sg_cn hst
              exact ih (k + 1) x_6 y9 (by omega) (by rw [ex_6, h1, nI_succ]) (by rw [hcs]; exact h2) (by omega) H locs ls hP hD hS (lv_sub hl [0, 1, 2, 3] rfl)
  refine lv_iload_n hx hb dX1_from_0 rfl (lv_at hl 1 rfl) ?_
  refine lv_istore_n (lv' := [(2, .int i), (0, .ref a1), (1, .int i)]) hx hb dX1_from_1 rfl hl (by decide) rfl (fun ls hl => ?_)
  refine lv_iconst (v := 0) hx hb dX1_from_2 (by decide) ?_
  refine lv_istore_n (lv' := [(3, .int 0), (2, .int i), (0, .ref a1), (1, .int i)]) hx hb dX1_from_3 rfl hl (by decide) rfl (fun ls hl => ?_)
  exact loop 64 0 0 i (by omega) nI_0.symm hi (Nat.zero_le _) s.heap [] ls hP hD hS (lv_sub hl [0, 1, 2, 3] rfl)
