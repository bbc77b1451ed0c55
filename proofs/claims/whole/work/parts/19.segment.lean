set_option maxHeartbeats 4000000 in
set_option maxRecDepth 100000 in
theorem c_segment (l : Launch) (hst : l.stackTraces = false) (dC : Nat → ClassId) (dI : Nat → Nat → Nat) (h0 qb : Nat) (cB : ClassId) (kb : Int64) (nx un ek en : Int32) (fb : Nat → Int32) (n : Int32) (v : Int64) (k : Int32) (sz : Nat)  : vx_Met l yX0_segment wsX0_segment ({ frames := 6, cells := 1, slots := 6, locals := 81 }) (va_Pc [.ref h0, .int n, .long v, .int k] (fun U => U.heap.size = sz ∧ va_P (dC, dI) vwCl [(h0, .inr (0, [.ref qb, .long kb, .int nx, .int un, .int ek, .int en])), (qb, .inl (cB, 64, .inl fb))] U.heap ∧ va_K (dC, dI) vwCl [(cB, .byte)] U ∧ va_D (fun _ => True) [(h0, .inr (0, [.ref qb, .long kb, .int nx, .int un, .int ek, .int en])), (qb, .inl (cB, 64, .inl fb))] ∧ thr (va_A [(h0, .inr (0, [.ref qb, .long kb, .int nx, .int un, .int ek, .int en])), (qb, .inl (cB, 64, .inl fb))] sz) U U.heap)) (va_Qi (fun (r : Int32) (u : Int64 × Int32 × Int32 × (Nat → Int32)) => match u with | (kb', nx', un', fb') => ∃ (i j : Nat) (k9 : Int64), i ≤ 8 ∧ k = nI i ∧ (k9, fb') = c_sg nx un ek en n v i (kb, fb) ∧ j ≤ 64 ∧ (∀ i, i < j → sg_b k9 i = true) ∧ (j < 64 → sg_b k9 j = false) ∧ uN kb' = uN k9 / 2 ^ j ∧ r = nI j ∧ nx' = nx + nI j ∧ un' = un + nI j) (fun (u : Int64 × Int32 × Int32 × (Nat → Int32)) (t : State) => match u with | (kb', nx', un', fb') => va_P (dC, dI) vwCl [(h0, .inr (0, [.ref qb, .long kb', .int nx', .int un', .int ek, .int en])), (qb, .inl (cB, 64, .inl fb'))] t.heap ∧ va_K (dC, dI) vwCl [(cB, .byte)] t ∧ va_D (va_A [(h0, .inr (0, [.ref qb, .long kb, .int nx, .int un, .int ek, .int en])), (qb, .inl (cB, 64, .inl fb))] sz) [(h0, .inr (0, [.ref qb, .long kb', .int nx', .int un', .int ek, .int en])), (qb, .inl (cB, 64, .inl fb'))]) (va_A [(h0, .inr (0, [.ref qb, .long kb, .int nx, .int un, .int ek, .int en])), (qb, .inl (cB, 64, .inl fb))] sz)) (vx_X (fun (_ : Unit) => k < 0 ∨ 8 < k) (fun (E : String) (_ : Unit) (t : State) => E = "java/lang/IllegalArgumentException" ∧ va_P (dC, dI) vwCl [(h0, .inr (0, [.ref qb, .long kb, .int nx, .int un, .int ek, .int en])), (qb, .inl (cB, 64, .inl fb))] t.heap ∧ va_K (dC, dI) vwCl [(cB, .byte)] t ∧ va_D (va_A [(h0, .inr (0, [.ref qb, .long kb, .int nx, .int un, .int ek, .int en])), (qb, .inl (cB, 64, .inl fb))] sz) [(h0, .inr (0, [.ref qb, .long kb, .int nx, .int un, .int ek, .int en])), (qb, .inl (cB, 64, .inl fb))]) (va_A [(h0, .inr (0, [.ref qb, .long kb, .int nx, .int un, .int ek, .int en])), (qb, .inl (cB, 64, .inl fb))] sz)) 1 6 (va_A [(h0, .inr (0, [.ref qb, .long kb, .int nx, .int un, .int ek, .int en])), (qb, .inl (cB, 64, .inl fb))] sz) := by
  refine vx_ofW (cc := cX0_segment) (maxL := 6) (ret := (some .int)) (by decide) rfl ?_
  intro p e s m args below meth c s₁ B hml hex hv
  obtain ⟨rfl, hsz, hP, hK, hD0, hZ⟩ := hv
  have hx := B.exec
  have hb := B.bytes
  have hr := B.returns
  have hts := atoms_spec (ws := wsX0_segment) B.pre
  have hown : s.vm.findClass RX0 = some m.cls := findClass_of_methodNamed B.named
  have hlocks := B.notSynchronized
  subst hsz
  have hD := hD0.self (sz := s.heap.size)
  generalize hAe : va_A [(h0, .inr (0, [.ref qb, .long kb, .int nx, .int un, .int ek, .int en])), (qb, .inl (cB, 64, .inl fb))] s.heap.size = A at hD hZ ⊢
  have hA : ∀ q : Nat, s.heap.size ≤ q → A q := fun q h => by rw [← hAe]; exact Or.inr h
  have hS : va_S A s.heap s.heap [] := va_S.rf
  have hP : va_P (dC, dI) vwCl [(h0, .inr (0, [.ref qb, .long kb, .int nx, .int un, .int ek, .int en])), (qb, .inl (cB, 64, .inl fb))] s.heap := hP
  have hl := lv_entry ([.ref h0, .int n, .long v, .int k]) (n := 6) (Nat.le_of_ble_eq_true rfl)
  rw [lg_entry_eq]
  generalize (lg_sl ([.ref h0, .int n, .long v, .int k]) ++ List.replicate (6 - (lg_sl ([.ref h0, .int n, .long v, .int k])).length) Slot.unset).toArray = ls at hl ⊢
  have hl : lv_has ls 6 [(0, .ref h0), (1, .int n), (2, .long v), (4, .int k)] := hl
  have hi_0 : ∀ w ∈ u_ws RX0 TX0 6, w ∈ wsX0_segment := by decide +kernel
  refine lv_iload hx hb dX0_segment_0 (lv_at hl 3 rfl) ?_
  refine lv_if_lt (tgt := 12) hx hb dX0_segment_2 (by decide) (fun c_2 => ?_) (fun c_2 => ?_)
  · exact vx_throw0 (own := RX0) (cls := "java/lang/IllegalArgumentException") (names := ["java/lang/RuntimeException", "java/lang/Exception"]) (A := A) hx hb hst hown (by decide +kernel) (by decide +kernel) (hts (.classLink RX0 31 "java/lang/IllegalArgumentException") (by decide +kernel)) (hts (.initialized "java/lang/IllegalArgumentException") (by decide +kernel)) (vx_hat (L := vx_at0 RX0 33 "java/lang/IllegalArgumentException" ["java/lang/RuntimeException", "java/lang/Exception"]) (B := [.castable "java/lang/IllegalArgumentException" "java/lang/IllegalArgumentException", .declares ⟨"java/lang/RuntimeException", "<init>", "()V"⟩, .declares ⟨"java/lang/Exception", "<init>", "()V"⟩, .declares ⟨"java/lang/Throwable", "<init>", "()V"⟩]) (fun w hw => hts w ((by decide +kernel : ∀ w ∈ (vx_at0 RX0 33 "java/lang/IllegalArgumentException" ["java/lang/RuntimeException", "java/lang/Exception"]).filter goodWord, w ∈ wsX0_segment) w hw)) (by decide +kernel) (vx_c (va_Nw.use rfl hZ.2.2.1) (vx_c (va_Nw.use rfl hZ.2.2.2.2.1) (vx_c (va_Nw.use rfl hZ.2.2.2.2.2.1) (vx_c (va_Nw.use rfl hZ.2.2.2.2.2.2) vx_n))))) (by decide +kernel) hZ.1 hZ.2.1 hS (hl.1.trans hml.symm) dX0_segment_12 dX0_segment_15 dX0_segment_16 dX0_segment_19 (fun x hx9 => (hex x hx9).elim) (Nat.le_of_ble_eq_true rfl) (Nat.le_of_ble_eq_true rfl) (Nat.le_of_ble_eq_true rfl) (Nat.le_of_ble_eq_true rfl) hlocks (fun t hal hsz9 hq9 => ⟨(), Or.inl c_2, ⟨rfl, hP.kept (fun k x hx9 => hq9 x.1 ((hP k x hx9).lt)), va_K.moved hal hK, hD⟩, ⟨Nat.le_trans hS.1 hsz9, fun q h1 h2 => (hq9 q (Nat.lt_of_lt_of_le h1 hS.1)).trans (hS.2.1 q h1 h2)⟩⟩) hS.2.2 (Nat.le_of_ble_eq_true rfl) (Nat.le_of_ble_eq_true rfl)
  · refine lv_iload hx hb dX0_segment_5 (lv_at hl 3 rfl) ?_
    refine lv_bipush (v := 8) hx hb dX0_segment_7 (by decide) ?_
    refine lv_icmp_le (tgt := 20) hx hb dX0_segment_9 (by decide) (fun c_9 => ?_) (fun c_9 => ?_)
    · obtain ⟨i0, hi0, hk⟩ : ∃ i0 : Nat, i0 ≤ 8 ∧ k = nI i0 := nI_of2 (M := 8) (n := 8) (by decide) c_2 c_9
      have loop : ∀ (cnt j : Nat) (x9 : Int32) (k9 : Int64) (f9 : Nat → Int32), j + cnt = i0 → x9 = nI j → (k9, f9) = c_sg nx un ek en n v j (kb, fb) → ∀ (H : Heap) (locs : List Loc) (ls : Array Slot), va_P (dC, dI) vwCl [(h0, .inr (0, [.ref qb, .long k9, .int nx, .int un, .int ek, .int en])), (qb, .inl (cB, 64, .inl f9))] H → va_D A [(h0, .inr (0, [.ref qb, .long k9, .int nx, .int un, .int ek, .int en])), (qb, .inl (cB, 64, .inl f9))] → va_S A s.heap H locs → lv_has ls 6 [(5, .int x9), (0, .ref h0), (1, .int n), (2, .long v), (4, .int k)] → W p l e (headSpec wsX0_segment ({ frames := 6, cells := 1, slots := 6, locals := 81 })).room s m ([.ref h0, .int n, .long v, .int k] : List Value).toArray below meth c H locs 0 0 (vx_MQ below (va_Qi (fun (r : Int32) (u : Int64 × Int32 × Int32 × (Nat → Int32)) => match u with | (kb', nx', un', fb') => ∃ (i j : Nat) (k9 : Int64), i ≤ 8 ∧ k = nI i ∧ (k9, fb') = c_sg nx un ek en n v i (kb, fb) ∧ j ≤ 64 ∧ (∀ i, i < j → sg_b k9 i = true) ∧ (j < 64 → sg_b k9 j = false) ∧ uN kb' = uN k9 / 2 ^ j ∧ r = nI j ∧ nx' = nx + nI j ∧ un' = un + nI j) (fun (u : Int64 × Int32 × Int32 × (Nat → Int32)) (t : State) => match u with | (kb', nx', un', fb') => va_P (dC, dI) vwCl [(h0, .inr (0, [.ref qb, .long kb', .int nx', .int un', .int ek, .int en])), (qb, .inl (cB, 64, .inl fb'))] t.heap ∧ va_K (dC, dI) vwCl [(cB, .byte)] t ∧ va_D A [(h0, .inr (0, [.ref qb, .long kb', .int nx', .int un', .int ek, .int en])), (qb, .inl (cB, 64, .inl fb'))]) A) (vx_X (fun (_ : Unit) => k < 0 ∨ 8 < k) (fun (E : String) (_ : Unit) (t : State) => E = "java/lang/IllegalArgumentException" ∧ va_P (dC, dI) vwCl [(h0, .inr (0, [.ref qb, .long kb, .int nx, .int un, .int ek, .int en])), (qb, .inl (cB, 64, .inl fb))] t.heap ∧ va_K (dC, dI) vwCl [(cB, .byte)] t ∧ va_D A [(h0, .inr (0, [.ref qb, .long kb, .int nx, .int un, .int ek, .int en])), (qb, .inl (cB, 64, .inl fb))]) A) ([.ref h0, .int n, .long v, .int k] : List Value).toArray s 1 6 A) (F0 m 23 ls []) := by
        intro cnt
        induction cnt with
        | zero =>
          intro j x9 k9 f9 hj h1 h2 H locs ls hP hD hS hl
          refine lv_iload hx hb dX0_segment_23 (lv_at hl 0 rfl) ?_
          refine lv_iload hx hb dX0_segment_25 (lv_at hl 4 rfl) ?_
          refine lv_icmp_ge (tgt := 53) hx hb dX0_segment_27 (by decide) (fun c_27 => ?_) (fun c_27 => ?_)
          · refine lv_aload_n hx hb dX0_segment_53 rfl (lv_at hl 1 rfl) ?_
            have hPc := hP.sub (ws' := [(h0, .inr (0, [.ref qb, .long k9, .int nx, .int un, .int ek, .int en])), (qb, .inl (cB, 64, .inl f9))]) [0, 1] rfl
            have hDc := hD.sub (ws' := [(h0, .inr (0, [.ref qb, .long k9, .int nx, .int un, .int ek, .int en])), (qb, .inl (cB, 64, .inl f9))]) [0, 1] (by decide) rfl
            have hKc := hK.sub (tys' := [(cB, .byte)]) [0] rfl
            have hFc := va_free (wc := [(h0, .inr (0, [.ref qb, .long k9, .int nx, .int un, .int ek, .int en])), (qb, .inl (cB, 64, .inl f9))]) hD hS hA [0, 1] rfl
            refine va_calli (va_runV (As := []) (rest := []) ⟨hx, hb, hml, hown, hts⟩ (c_moveOn l dC dI h0 qb cB k9 nx un ek en f9 H.size ) (cwV 0 hts gX0_segment_X0_moveOn rfl rfl rfl (by decide +kernel) ⟨Nat.le_of_ble_eq_true rfl, Nat.le_of_ble_eq_true rfl⟩) ⟨fun a U g mk q => by obtain ⟨q0, q1, qP, qK, qD⟩ := q; exact ⟨q0, q1, qP, va_K.moved (u := U) (U := U.calling g mk a) (Vm.Alike.refl U.vm) qK, qD⟩, va_recv hKc hPc (ci := 0) (q0 := 0) rfl rfl, fun U hU hW => ⟨rfl, by rw [hU], by rw [hU]; exact hPc, va_K.moved hW.alike hKc, hDc.weaken (fun _ _ _ _ => trivial)⟩⟩ rfl rfl hl.1 rfl (lv_room (Nat.le_of_ble_eq_true rfl)) dX0_segment_54 ⟨(Nat.zero_le _), (Nat.zero_le _)⟩) hS (fun q _ h => hFc q h) hFc (fun r_1 u t H1 locs ht hvm hw_2 hB hz1 hk1 hS => ?_)
            obtain ⟨k7, n7, u7⟩ := u
            obtain ⟨hP1, hK1, hD1⟩ := hB
            rw [ht] at hP1
            have hK1 := va_K.moved hvm.symm hK1
            try dsimp only at hw_2
            obtain ⟨hP, hD⟩ := va_join (wr := []) (w1 := [(h0, .inr (0, [.ref qb, .long k7, .int n7, .int u7, .int ek, .int en])), (qb, .inl (cB, 64, .inl f9))]) hP hD [0, 1] [] rfl rfl (by decide) (by decide) hk1 hFc hP1 hD1
            generalize H1 = H at hP hS ⊢
            have hP : va_P (dC, dI) vwCl [(h0, .inr (0, [.ref qb, .long k7, .int n7, .int u7, .int ek, .int en])), (qb, .inl (cB, 64, .inl f9))] H := hP
            have hD : va_D A [(h0, .inr (0, [.ref qb, .long k7, .int n7, .int u7, .int ek, .int en])), (qb, .inl (cB, 64, .inl f9))] := hD
            obtain ⟨j7, m1, m2, m3, m4, m5, m6, m7⟩ := hw_2
            refine vx_ret ?_
            refine W.widen (k := 1) (n := 6) (by omega) (by omega) ?_
            exact W.iret (v := r_1) hx hb hr (fun t ht hW => ⟨⟨r_1, (k7, n7, u7, f9), rfl, ⟨i0, j7, k9, hi0, hk, by rw [h2, show j = i0 by omega], m1, m2, m3, m4, m5, m6, m7⟩, by rw [ht]; exact hP, va_K.moved hW.alike hK, hD⟩, hS.F ht⟩) hS.2.2 dX0_segment_57
          · exact absurd (by rw [hk, h1]; exact nI_le (by omega) (by omega)) c_27
        | succ cnt ih =>
          intro j x9 k9 f9 hj h1 h2 H locs ls hP hD hS hl
          refine lv_iload hx hb dX0_segment_23 (lv_at hl 0 rfl) ?_
          refine lv_iload hx hb dX0_segment_25 (lv_at hl 4 rfl) ?_
          refine lv_icmp_ge (tgt := 53) hx hb dX0_segment_27 (by decide) (fun c_27 => ?_) (fun c_27 => ?_)
          · exact absurd c_27 (by rw [hk, h1]; exact nI_ge (by omega) (by omega))
          · refine lv_aload_n hx hb dX0_segment_30 rfl (lv_at hl 1 rfl) ?_
            refine lv_iload_n hx hb dX0_segment_31 rfl (lv_at hl 2 rfl) ?_
            refine lv_iload hx hb dX0_segment_32 (lv_at hl 0 rfl) ?_
            refine lv_iadd hx hb dX0_segment_34 ?_
            refine lv_lload_n hx hb dX0_segment_35 rfl (lv_at hl 3 rfl) ?_
            refine lv_bipush (v := 8) hx hb dX0_segment_36 (by decide) ?_
            refine lv_iload hx hb dX0_segment_38 (lv_at hl 0 rfl) ?_
            refine lv_imul hx hb dX0_segment_40 ?_
            refine lv_lushr (v := g_sh v (8 * x9)) hx hb dX0_segment_41 rfl ?_
            refine lv_l2i (v := (g_sh v (8 * x9)).toInt32) hx hb dX0_segment_42 rfl ?_
            refine lv_i2b (v := ((g_sh v (8 * x9)).toInt32).toInt8.toInt32) hx hb dX0_segment_43 rfl ?_
            have hPc := hP.sub (ws' := [(h0, .inr (0, [.ref qb, .long k9, .int nx, .int un, .int ek, .int en])), (qb, .inl (cB, 64, .inl f9))]) [0, 1] rfl
            have hDc := hD.sub (ws' := [(h0, .inr (0, [.ref qb, .long k9, .int nx, .int un, .int ek, .int en])), (qb, .inl (cB, 64, .inl f9))]) [0, 1] (by decide) rfl
            have hKc := hK.sub (tys' := [(cB, .byte)]) [0] rfl
            have hFc := va_free (wc := [(h0, .inr (0, [.ref qb, .long k9, .int nx, .int un, .int ek, .int en])), (qb, .inl (cB, 64, .inl f9))]) hD hS hA [0, 1] rfl
            refine va_callv (va_runV (As := [.int (n + x9), .int (((g_sh v (8 * x9)).toInt32).toInt8.toInt32)]) (rest := []) ⟨hx, hb, hml, hown, hts⟩ (c_takeByte l dC dI h0 qb cB k9 nx un ek en f9 (n + x9) ((g_sh v (8 * x9)).toInt32.toInt8.toInt32) H.size ) (cwV 2 hts gX0_segment_X0_takeByte rfl rfl rfl (by decide +kernel) ⟨Nat.le_of_ble_eq_true rfl, Nat.le_of_ble_eq_true rfl⟩) ⟨fun a U g mk q => by obtain ⟨q0, q1, qP, qK, qD⟩ := q; exact ⟨q0, q1, qP, va_K.moved (u := U) (U := U.calling g mk a) (Vm.Alike.refl U.vm) qK, qD⟩, va_recv hKc hPc (ci := 0) (q0 := 0) rfl rfl, fun U hU hW => ⟨rfl, by rw [hU], by rw [hU]; exact hPc, va_K.moved hW.alike hKc, hDc.weaken (fun _ _ _ _ => trivial)⟩⟩ rfl rfl hl.1 rfl (lv_room (Nat.le_of_ble_eq_true rfl)) dX0_segment_44 ⟨(Nat.zero_le _), (Nat.zero_le _)⟩) hS (fun q _ h => hFc q h) hFc (fun u t H1 locs ht hvm hw_4 hB hz1 hk1 hS => ?_)
            obtain ⟨k8, f8⟩ := u
            obtain ⟨hP1, hK1, hD1⟩ := hB
            rw [ht] at hP1
            have hK1 := va_K.moved hvm.symm hK1
            try dsimp only at hw_4
            obtain ⟨hP, hD⟩ := va_join (wr := []) (w1 := [(h0, .inr (0, [.ref qb, .long k8, .int nx, .int un, .int ek, .int en])), (qb, .inl (cB, 64, .inl f8))]) hP hD [0, 1] [] rfl rfl (by decide) (by decide) hk1 hFc hP1 hD1
            generalize H1 = H at hP hS ⊢
            have hP : va_P (dC, dI) vwCl [(h0, .inr (0, [.ref qb, .long k8, .int nx, .int un, .int ek, .int en])), (qb, .inl (cB, 64, .inl f8))] H := hP
            have hD : va_D A [(h0, .inr (0, [.ref qb, .long k8, .int nx, .int un, .int ek, .int en])), (qb, .inl (cB, 64, .inl f8))] := hD
            obtain ⟨x_5, ex_5⟩ : ∃ y : Int32, y = x9 + 1 := ⟨_, rfl⟩
            refine lv_iinc (v := x_5) (lv' := [(5, .int x_5), (0, .ref h0), (1, .int n), (2, .long v), (4, .int k)]) hx hb dX0_segment_47 hl (k := 0) rfl (by rw [ex_5]; rfl) (by decide) rfl (fun ls hl => ?_)
            refine lv_goto (tgt := 23) hx hb dX0_segment_50 (by decide) ?_
            exact ih (j + 1) x_5 k8 f8 (by omega) (by rw [ex_5, h1, nI_succ]) (by rw [hw_4, h1, h2]; rfl) H locs ls hP hD hS (lv_sub hl [0, 1, 2, 3, 4] rfl)
      refine lv_iconst (v := 0) hx hb dX0_segment_20 (by decide) ?_
      refine lv_istore (lv' := [(5, .int 0), (0, .ref h0), (1, .int n), (2, .long v), (4, .int k)]) hx hb dX0_segment_21 hl (by decide) rfl (fun ls hl => ?_)
      exact loop i0 0 0 kb fb (by omega) nI_0.symm rfl s.heap [] ls hP hD hS (lv_sub hl [0, 1, 2, 3, 4] rfl)
    · exact vx_throw0 (own := RX0) (cls := "java/lang/IllegalArgumentException") (names := ["java/lang/RuntimeException", "java/lang/Exception"]) (A := A) hx hb hst hown (by decide +kernel) (by decide +kernel) (hts (.classLink RX0 31 "java/lang/IllegalArgumentException") (by decide +kernel)) (hts (.initialized "java/lang/IllegalArgumentException") (by decide +kernel)) (vx_hat (L := vx_at0 RX0 33 "java/lang/IllegalArgumentException" ["java/lang/RuntimeException", "java/lang/Exception"]) (B := [.castable "java/lang/IllegalArgumentException" "java/lang/IllegalArgumentException", .declares ⟨"java/lang/RuntimeException", "<init>", "()V"⟩, .declares ⟨"java/lang/Exception", "<init>", "()V"⟩, .declares ⟨"java/lang/Throwable", "<init>", "()V"⟩]) (fun w hw => hts w ((by decide +kernel : ∀ w ∈ (vx_at0 RX0 33 "java/lang/IllegalArgumentException" ["java/lang/RuntimeException", "java/lang/Exception"]).filter goodWord, w ∈ wsX0_segment) w hw)) (by decide +kernel) (vx_c (va_Nw.use rfl hZ.2.2.1) (vx_c (va_Nw.use rfl hZ.2.2.2.2.1) (vx_c (va_Nw.use rfl hZ.2.2.2.2.2.1) (vx_c (va_Nw.use rfl hZ.2.2.2.2.2.2) vx_n))))) (by decide +kernel) hZ.1 hZ.2.1 hS (hl.1.trans hml.symm) dX0_segment_12 dX0_segment_15 dX0_segment_16 dX0_segment_19 (fun x hx9 => (hex x hx9).elim) (Nat.le_of_ble_eq_true rfl) (Nat.le_of_ble_eq_true rfl) (Nat.le_of_ble_eq_true rfl) (Nat.le_of_ble_eq_true rfl) hlocks (fun t hal hsz9 hq9 => ⟨(), Or.inr (Int32.not_le.mp c_9), ⟨rfl, hP.kept (fun k x hx9 => hq9 x.1 ((hP k x hx9).lt)), va_K.moved hal hK, hD⟩, ⟨Nat.le_trans hS.1 hsz9, fun q h1 h2 => (hq9 q (Nat.lt_of_lt_of_le h1 hS.1)).trans (hS.2.1 q h1 h2)⟩⟩) hS.2.2 (Nat.le_of_ble_eq_true rfl) (Nat.le_of_ble_eq_true rfl)
