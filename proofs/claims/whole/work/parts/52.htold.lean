set_option maxHeartbeats 4000000 in
set_option maxRecDepth 100000 in
theorem h_told (l : Launch) (hst : l.stackTraces = false) (dC : Nat → ClassId) (dI : Nat → Nat → Nat) (h0 qb : Nat) (cB : ClassId) (kb : Int64) (nx un ek en : Int32) (fb : Nat → Int32) (qo : Nat) (cO : ClassId) (fo : Nat → Int64) (n : Int32) (sz : Nat)  : Met l yL_told wsL_told ({ frames := 7, cells := 1, slots := 6, locals := 102 }) (va_Pc [.ref h0, .int n, .ref qo] (fun U => U.heap.size = sz ∧ va_P (dC, dI) vwCl [(h0, .inr (0, [.ref qb, .long kb, .int nx, .int un, .int ek, .int en])), (qb, .inl (cB, 64, .inl fb)), (qo, .inl (cO, 1, .inr (.inl fo)))] U.heap ∧ va_K (dC, dI) vwCl [(cB, .byte), (cO, .long)] U ∧ va_D (fun _ => True) [(h0, .inr (0, [.ref qb, .long kb, .int nx, .int un, .int ek, .int en])), (qb, .inl (cB, 64, .inl fb)), (qo, .inl (cO, 1, .inr (.inl fo)))] ∧ thr (va_A [(h0, .inr (0, [.ref qb, .long kb, .int nx, .int un, .int ek, .int en])), (qb, .inl (cB, 64, .inl fb)), (qo, .inl (cO, 1, .inr (.inl fo)))] sz) U U.heap)) (va_Qi (fun (r : Int32) (u : Nat → Int64) => match u with | fo' => (r = 1 ∧ (n.toInt < 0 ∨ 5 < n.toInt)) ∨ (r = 0 ∧ ∃ r9 : Int32, fo' 0 = r9.toInt64 ∧ ((n = 0 ∧ r9 = nx) ∨ (n = 1 ∧ r9 = 64 - un) ∨ (n = 2 ∧ r9 = un) ∨ (n = 3 ∧ r9 = g_bc kb) ∨ (n = 4 ∧ r9 = g_bc (c_st kb)) ∨ (n = 5 ∧ r9 = (if ek = 0 then 0 else 1))))) (fun (u : Nat → Int64) (t : State) => match u with | fo' => va_P (dC, dI) vwCl [(h0, .inr (0, [.ref qb, .long kb, .int nx, .int un, .int ek, .int en])), (qb, .inl (cB, 64, .inl fb)), (qo, .inl (cO, 1, .inr (.inl fo')))] t.heap ∧ va_K (dC, dI) vwCl [(cB, .byte), (cO, .long)] t ∧ va_D (va_A [(h0, .inr (0, [.ref qb, .long kb, .int nx, .int un, .int ek, .int en])), (qb, .inl (cB, 64, .inl fb)), (qo, .inl (cO, 1, .inr (.inl fo)))] sz) [(h0, .inr (0, [.ref qb, .long kb, .int nx, .int un, .int ek, .int en])), (qb, .inl (cB, 64, .inl fb)), (qo, .inl (cO, 1, .inr (.inl fo')))]) (va_A [(h0, .inr (0, [.ref qb, .long kb, .int nx, .int un, .int ek, .int en])), (qb, .inl (cB, 64, .inl fb)), (qo, .inl (cO, 1, .inr (.inl fo)))] sz)) 1 6 (va_A [(h0, .inr (0, [.ref qb, .long kb, .int nx, .int un, .int ek, .int en])), (qb, .inl (cB, 64, .inl fb)), (qo, .inl (cO, 1, .inr (.inl fo)))] sz) := by
  refine va_MetW (cc := cL_told) (maxL := 4) (ret := (some .int)) (hh := [(0, 9, 12, 13)]) (by decide) rfl ?_
  intro p e s m args below meth c s₁ B hml hv
  obtain ⟨rfl, hsz, hP, hK, hD0, hZ⟩ := hv
  have hx := B.exec
  have hb := B.bytes
  have hr := B.returns
  have hts := atoms_spec (ws := wsL_told) B.pre
  have hown : s.vm.findClass RL = some m.cls := findClass_of_methodNamed B.named
  have hlocks := B.notSynchronized
  subst hsz
  have hD := hD0.self (sz := s.heap.size)
  generalize hAe : va_A [(h0, .inr (0, [.ref qb, .long kb, .int nx, .int un, .int ek, .int en])), (qb, .inl (cB, 64, .inl fb)), (qo, .inl (cO, 1, .inr (.inl fo)))] s.heap.size = A at hD hZ ⊢
  have hA : ∀ q : Nat, s.heap.size ≤ q → A q := fun q h => by rw [← hAe]; exact Or.inr h
  have hS : va_S A s.heap s.heap [] := va_S.rf
  have hP : va_P (dC, dI) vwCl [(h0, .inr (0, [.ref qb, .long kb, .int nx, .int un, .int ek, .int en])), (qb, .inl (cB, 64, .inl fb)), (qo, .inl (cO, 1, .inr (.inl fo)))] s.heap := hP
  have hl := lv_entry ([.ref h0, .int n, .ref qo]) (n := 4) (Nat.le_of_ble_eq_true rfl)
  rw [lg_entry_eq]
  generalize (lg_sl ([.ref h0, .int n, .ref qo]) ++ List.replicate (4 - (lg_sl ([.ref h0, .int n, .ref qo])).length) Slot.unset).toArray = ls at hl ⊢
  have hl : lv_has ls 4 [(0, .ref h0), (1, .int n), (2, .ref qo)] := hl
  have hi_0 : ∀ w ∈ u_ws RX0 TX0 6, w ∈ wsL_told := by decide +kernel
  have htab : c.exceptionTable.toList = tableOf [(0, 9, 12, 13)] := vx_table (x := yL_told) B (hts (.codeWith yL_told cL_told 4 (some .int) [(0, 9, 12, 13)]) (by decide +kernel))
  refine lv_aload_n hx hb dL_told_0 rfl (lv_at hl 2 rfl) ?_
  refine lv_iconst (v := 0) hx hb dL_told_1 (by decide) ?_
  refine lv_aload_n hx hb dL_told_2 rfl (lv_at hl 0 rfl) ?_
  refine lv_iload_n hx hb dL_told_3 rfl (lv_at hl 1 rfl) ?_
  have hPc := hP.sub (ws' := [(h0, .inr (0, [.ref qb, .long kb, .int nx, .int un, .int ek, .int en])), (qb, .inl (cB, 64, .inl fb))]) [0, 1] rfl
  have hDc := hD.sub (ws' := [(h0, .inr (0, [.ref qb, .long kb, .int nx, .int un, .int ek, .int en])), (qb, .inl (cB, 64, .inl fb))]) [0, 1] (by decide) rfl
  have hKc := hK.sub (tys' := [(cB, .byte)]) [0] rfl
  have hFc := va_free (wc := [(h0, .inr (0, [.ref qb, .long kb, .int nx, .int un, .int ek, .int en])), (qb, .inl (cB, 64, .inl fb))]) hD hS hA [0, 1] rfl
  refine vx_calli (vx_runV (As := [.int n]) (rest := [.int 0, .ref qo]) ⟨hx, hb, hml, hown, hts⟩ (c_told l hst dC dI h0 qb cB kb nx un ek en fb n s.heap.size) (cwV 1 hts gL_told_X0_told rfl rfl rfl (by decide +kernel) ⟨Nat.le_of_ble_eq_true rfl, Nat.le_of_ble_eq_true rfl⟩) ⟨fun a U g mk q => by obtain ⟨q0, q1, qP, qK, qD, qZ⟩ := q; exact ⟨q0, q1, qP, va_K.moved (u := U) (U := U.calling g mk a) (Vm.Alike.refl U.vm) qK, qD, thr_blind qZ⟩, va_recv hKc hPc (ci := 0) (q0 := 0) rfl rfl, fun U hU hW => ⟨rfl, by rw [hU], by rw [hU]; exact hPc, va_K.moved hW.alike hKc, hDc.weaken (fun _ _ _ _ => trivial), thr_call hZ hS hFc hU hW⟩⟩ rfl rfl hl.1 rfl (lv_room (Nat.le_of_ble_eq_true rfl)) dL_told_4 ⟨Nat.le_of_ble_eq_true rfl, Nat.le_of_ble_eq_true rfl⟩) hS (fun q _ h => hFc q h) hFc (fun q _ h => hFc q h) (fun E ce q9 u t H1 locs ht hvm hpx hB hz1 hk1 hS hce hcv hcl => ?_) (fun r u t H1 locs ht hvm hw hB hz1 hk1 hS => ?_)
  · obtain ⟨hE, hP1, hK1, hD1⟩ := hB
    subst hE
    rw [ht] at hP1
    obtain ⟨hP, hD⟩ := va_join (wr := [(qo, .inl (cO, 1, .inr (.inl fo)))]) (w1 := [(h0, .inr (0, [.ref qb, .long kb, .int nx, .int un, .int ek, .int en])), (qb, .inl (cB, 64, .inl fb))]) hP hD [0, 1] [2] rfl rfl (by decide) (by decide) hk1 hFc hP1 hD1
    have hP := hP.sub (ws' := [(h0, .inr (0, [.ref qb, .long kb, .int nx, .int un, .int ek, .int en])), (qb, .inl (cB, 64, .inl fb)), (qo, .inl (cO, 1, .inr (.inl fo)))]) [1, 2, 0] rfl
    have hD := hD.sub (ws' := [(h0, .inr (0, [.ref qb, .long kb, .int nx, .int un, .int ek, .int en])), (qb, .inl (cB, 64, .inl fb)), (qo, .inl (cO, 1, .inr (.inl fo)))]) [1, 2, 0] (by decide) rfl
    refine sx_catch hown ⟨0, 9, 12, 13⟩ [] htab (by decide) (by decide) (hts (.classLink RL 13 "java/lang/IllegalArgumentException") (by decide +kernel)) (va_Nw.use rfl hZ.2.2.1) hce hcv hcl ?_
    generalize H1 = H at hP hS ⊢
    refine W.eq (g2 := F0 m 12 ls [.ref q9]) rfl ?_
    refine lv_astore_n (lv' := [(3, .ref q9), (0, .ref h0), (1, .int n), (2, .ref qo)]) hx hb dL_told_12 rfl hl (by decide) rfl (fun ls hl => ?_)
    refine lv_iconst (v := 1) hx hb dL_told_13 (by decide) ?_
    refine W.widen (k := 1) (n := 6) (by omega) (by omega) ?_
    exact W.iret (v := 1) hx hb hr (fun t ht hW => ⟨⟨1, fo, rfl, Or.inl ⟨rfl, hpx⟩, by rw [ht]; exact hP, va_K.moved hW.alike hK, hD⟩, hS.F ht⟩) hS.2.2 dL_told_14
  · obtain ⟨hP1, hK1, hD1⟩ := hB
    rw [ht] at hP1
    try dsimp only at hw
    obtain ⟨hP, hD⟩ := va_join (wr := [(qo, .inl (cO, 1, .inr (.inl fo)))]) (w1 := [(h0, .inr (0, [.ref qb, .long kb, .int nx, .int un, .int ek, .int en])), (qb, .inl (cB, 64, .inl fb))]) hP hD [0, 1] [2] rfl rfl (by decide) (by decide) hk1 hFc hP1 hD1
    generalize H1 = H at hP hS ⊢
    have hP := hP.sub (ws' := [(h0, .inr (0, [.ref qb, .long kb, .int nx, .int un, .int ek, .int en])), (qb, .inl (cB, 64, .inl fb)), (qo, .inl (cO, 1, .inr (.inl fo)))]) [1, 2, 0] rfl
    have hD := hD.sub (ws' := [(h0, .inr (0, [.ref qb, .long kb, .int nx, .int un, .int ek, .int en])), (qb, .inl (cB, 64, .inl fb)), (qo, .inl (cO, 1, .inr (.inl fo)))]) [1, 2, 0] (by decide) rfl
    refine lv_i2l (v := r.toInt64) hx hb dL_told_7 rfl ?_
    refine va_last hx hb hK hP hD hS 2 1 rfl rfl inb1_0 dL_told_8 (fun H locs hP hD hS => ?_)
    have hP : va_P (dC, dI) vwCl [(h0, .inr (0, [.ref qb, .long kb, .int nx, .int un, .int ek, .int en])), (qb, .inl (cB, 64, .inl fb)), (qo, .inl (cO, 1, .inr (.inl (vp_updL fo (0 : Int32).toNatClampNeg r.toInt64))))] H := hP
    have hD : va_D A [(h0, .inr (0, [.ref qb, .long kb, .int nx, .int un, .int ek, .int en])), (qb, .inl (cB, 64, .inl fb)), (qo, .inl (cO, 1, .inr (.inl (vp_updL fo (0 : Int32).toNatClampNeg r.toInt64))))] := hD
    refine lv_goto (tgt := 15) hx hb dL_told_9 (by decide) ?_
    refine lv_iconst (v := 0) hx hb dL_told_15 (by decide) ?_
    refine W.widen (k := 1) (n := 6) (by omega) (by omega) ?_
    exact W.iret (v := 0) hx hb hr (fun t ht hW => ⟨⟨0, vp_updL fo (0 : Int32).toNatClampNeg r.toInt64, rfl, Or.inr ⟨rfl, r, by rw [cl_0, pk_uLs], hw⟩, by rw [ht]; exact hP, va_K.moved hW.alike hK, hD⟩, hS.F ht⟩) hS.2.2 dL_told_16
