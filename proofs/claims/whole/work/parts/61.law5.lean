set_option maxHeartbeats 4000000 in
set_option maxRecDepth 100000 in
theorem law_5 {p : Program} {l : Launch} {e : Env} {s : State} {m : MethodId} {below : List Frame} {meth : Method} {c : Code} {dC : Nat → ClassId} {dI : Nat → Nat → Nat} {b h0 qb a1 q1 q2 q3 qo : Nat} {cB cU cV cZ cO : ClassId} {L : Nat} {xs : Nat → Int32} (hst : l.stackTraces = false) (C0 : lw_At p s m meth c b L xs) (hZ : thr (fun q : Nat => s.heap.size ≤ q) s s.heap) (hK : va_K (dC, dI) vwCl [(cB, .byte), (cU, .int), (cV, .int), (cZ, .boolean), (cO, .long)] s) {t : Nat} (ht5 : t < 512) (hLt : 5 * t + 5 ≤ L) (hL : L ≤ 2560) (ih : LawAt p l e s m below meth c dC dI b h0 qb a1 q1 q2 q3 qo cB cU cV cZ cO (t + 1)) (x4 : Int32) (kb : Int64) (nx ek en ed th bs : Int32) (u e9 : Nat) (S : aS) (fb fU fB fH : Nat → Int32) (fo : Nat → Int64) (h4 : x4 = nI (5 * t)) (hI : INV nx ek en ed kb fb fU fB fH bs u e9 S) (H : Heap) (locs : List Loc) (ls : Array Slot) (hP : va_P (dC, dI) vwCl [(h0, .inr (0, [.ref qb, .long kb, .int nx, .int (nI u), .int ek, .int en])), (qb, .inl (cB, 64, .inl fb)), (a1, .inr (1, [.ref q1, .ref q2, .ref q3, .int nx, .int (nI u), .int ed, .int th, .int ek])), (q1, .inl (cU, 64, .inl fU)), (q2, .inl (cV, 64, .inl fB)), (q3, .inl (cZ, 64, .inl fH)), (qo, .inl (cO, 1, .inr (.inl fo)))] H) (hD : va_D (fun q : Nat => s.heap.size ≤ q) [(h0, .inr (0, [.ref qb, .long kb, .int nx, .int (nI u), .int ek, .int en])), (qb, .inl (cB, 64, .inl fb)), (a1, .inr (1, [.ref q1, .ref q2, .ref q3, .int nx, .int (nI u), .int ed, .int th, .int ek])), (q1, .inl (cU, 64, .inl fU)), (q2, .inl (cV, 64, .inl fB)), (q3, .inl (cZ, 64, .inl fH)), (qo, .inl (cO, 1, .inr (.inl fo)))]) (hS : va_S (fun q : Nat => s.heap.size ≤ q) s.heap H locs) (hl : lv_has ls 7 [(4, .int x4), (0, .ref b), (1, .ref h0), (2, .ref a1), (3, .ref qo)]) : W p l e room_1 s m #[Value.ref b] below meth c H locs (7 + t) (271 + 6 * t) (lw_Z below #[Value.ref b] s) (F0 m 309 ls []) := by
  obtain ⟨hx, hb, hr, hml, hown0, hts, hX, hbl, hlocks, hgv⟩ := C0
  have hown : s.vm.findClass RL = some m.cls := hown0
  have hA : ∀ q : Nat, s.heap.size ≤ q → (fun q : Nat => s.heap.size ≤ q) q := fun _ h => h
  have hbA : ¬ (fun q : Nat => s.heap.size ≤ q) b := Nat.not_le.mpr hbl
  have hts1 : ∀ w ∈ wsL_law, w.before #[Value.ref b] s = true := fun w h => hts w (wsL_law_in w h)
  have hts2 : ∀ w ∈ wsL_m, w.before #[Value.ref b] s = true := fun w h => hts w (wsL_m_in w h)
  refine lv_aload_n hx hb dL_law_309 rfl (lv_at hl 2 rfl) ?_
  refine lv_aload_n hx hb dL_law_310 rfl (lv_at hl 1 rfl) ?_
  refine lv_iload hx hb dL_law_311 (lv_at hl 0 rfl) ?_
  refine lv_iconst (v := 1) hx hb dL_law_313 (by decide) ?_
  refine lv_iadd hx hb dL_law_314 ?_
  refine va_sld hx hb hX hbl hbA hS (ld_in (k := 1) h4 (by omega) hL) dL_law_315 ?_
  refine lv_aload_n hx hb dL_law_316 rfl (lv_at hl 1 rfl) ?_
  refine lv_iload hx hb dL_law_317 (lv_at hl 0 rfl) ?_
  refine lv_iconst (v := 2) hx hb dL_law_319 (by decide) ?_
  refine lv_iadd hx hb dL_law_320 ?_
  refine va_sld hx hb hX hbl hbA hS (ld_in (k := 2) h4 (by omega) hL) dL_law_321 ?_
  refine lv_if_eq (tgt := 329) hx hb dL_law_322 (by decide) (fun c_322 => ?_) (fun c_322 => ?_)
  · refine lv_iconst (v := 0) hx hb dL_law_329 (by decide) ?_
    refine lv_aload_n hx hb dL_law_330 rfl (lv_at hl 4 rfl) ?_
    have hPc := hP.sub (ws' := [(h0, .inr (0, [.ref qb, .long kb, .int nx, .int (nI u), .int ek, .int en])), (qb, .inl (cB, 64, .inl fb)), (qo, .inl (cO, 1, .inr (.inl fo)))]) [0, 1, 6] rfl
    have hDc := hD.sub (ws' := [(h0, .inr (0, [.ref qb, .long kb, .int nx, .int (nI u), .int ek, .int en])), (qb, .inl (cB, 64, .inl fb)), (qo, .inl (cO, 1, .inr (.inl fo)))]) [0, 1, 6] (by decide) rfl
    have hKc := hK.sub (tys' := [(cB, .byte), (cO, .long)]) [0, 4] rfl
    have hFc := va_free (wc := [(h0, .inr (0, [.ref qb, .long kb, .int nx, .int (nI u), .int ek, .int en])), (qb, .inl (cB, 64, .inl fb)), (qo, .inl (cO, 1, .inr (.inl fo)))]) hD hS hA [0, 1, 6] rfl
    refine va_calli (vx_runSW (As := [.ref h0, .int (xs (x4 + 1).toNatClampNeg), .int 0, .ref qo]) (rest := []) ⟨hx, hb, hml, hown, hts1⟩ (h_block l hst dC dI h0 qb cB kb nx (nI u) ek en fb qo cO fo (xs (x4 + 1).toNatClampNeg) 0 H.size ) (vx_cwSW 4 hts1 gL_law_L_block rfl rfl rfl (by decide +kernel) ⟨Nat.le_of_ble_eq_true rfl, Nat.le_of_ble_eq_true rfl⟩) ⟨fun a U g mk q => by obtain ⟨q0, q1, qP, qK, qD, qZ⟩ := q; exact ⟨q0, q1, qP, va_K.moved (u := U) (U := U.calling g mk a) (Vm.Alike.refl U.vm) qK, qD, thr_blind qZ⟩, fun U hU hW => ⟨rfl, by rw [hU], by rw [hU]; exact hPc, va_K.moved hW.alike hKc, hDc.weaken (fun _ _ _ _ => trivial), thr_call hZ hS hFc hU hW⟩⟩ rfl rfl hl.1 rfl (lv_room (Nat.le_of_ble_eq_true rfl)) dL_law_331 ⟨(show _ ≤ 1034 by omega), (show _ ≤ 8481 by omega)⟩) hS (fun q _ h => hFc q h) hFc (fun r1 uv tS H1 locs ht hvm hw1 hB hz1 hk1 hS => ?_)
    obtain ⟨o7, rfl⟩ : ∃ z, z = uv := ⟨_, rfl⟩
    obtain ⟨hP1, hK1, hD1⟩ := hB
    rw [ht] at hP1
    have hK1 := va_K.moved hvm.symm hK1
    try dsimp only at hw1
    obtain ⟨hP, hD⟩ := va_join (wr := [(a1, .inr (1, [.ref q1, .ref q2, .ref q3, .int nx, .int (nI u), .int ed, .int th, .int ek])), (q1, .inl (cU, 64, .inl fU)), (q2, .inl (cV, 64, .inl fB)), (q3, .inl (cZ, 64, .inl fH))]) (w1 := [(h0, .inr (0, [.ref qb, .long kb, .int nx, .int (nI u), .int ek, .int en])), (qb, .inl (cB, 64, .inl fb)), (qo, .inl (cO, 1, .inr (.inl o7)))]) hP hD [0, 1, 6] [2, 3, 4, 5] rfl rfl (by decide) (by decide) hk1 hFc hP1 hD1
    generalize H1 = H at hP hS ⊢
    have hP := hP.sub (ws' := [(h0, .inr (0, [.ref qb, .long kb, .int nx, .int (nI u), .int ek, .int en])), (qb, .inl (cB, 64, .inl fb)), (a1, .inr (1, [.ref q1, .ref q2, .ref q3, .int nx, .int (nI u), .int ed, .int th, .int ek])), (q1, .inl (cU, 64, .inl fU)), (q2, .inl (cV, 64, .inl fB)), (q3, .inl (cZ, 64, .inl fH)), (qo, .inl (cO, 1, .inr (.inl o7)))]) [4, 5, 0, 1, 2, 3, 6] rfl
    have hD := hD.sub (ws' := [(h0, .inr (0, [.ref qb, .long kb, .int nx, .int (nI u), .int ek, .int en])), (qb, .inl (cB, 64, .inl fb)), (a1, .inr (1, [.ref q1, .ref q2, .ref q3, .int nx, .int (nI u), .int ed, .int th, .int ek])), (q1, .inl (cU, 64, .inl fU)), (q2, .inl (cV, 64, .inl fB)), (q3, .inl (cZ, 64, .inl fH)), (qo, .inl (cO, 1, .inr (.inl o7)))]) [4, 5, 0, 1, 2, 3, 6] (by decide) rfl
    refine lv_istore (lv' := [(5, .int r1), (4, .int x4), (0, .ref b), (1, .ref h0), (2, .ref a1), (3, .ref qo)]) hx hb dL_law_334 hl (by decide) rfl (fun ls hl => ?_)
    refine lv_aload_n hx hb dL_law_336 rfl (lv_at hl 4 rfl) ?_
    refine lv_aload_n hx hb dL_law_337 rfl (lv_at hl 2 rfl) ?_
    refine lv_iload hx hb dL_law_338 (lv_at hl 1 rfl) ?_
    refine lv_iconst (v := 1) hx hb dL_law_340 (by decide) ?_
    refine lv_iadd hx hb dL_law_341 ?_
    refine va_sld hx hb hX hbl hbA hS (ld_in (k := 1) h4 (by omega) hL) dL_law_342 ?_
    refine lv_aload_n hx hb dL_law_343 rfl (lv_at hl 2 rfl) ?_
    refine lv_iload hx hb dL_law_344 (lv_at hl 1 rfl) ?_
    refine lv_iconst (v := 2) hx hb dL_law_346 (by decide) ?_
    refine lv_iadd hx hb dL_law_347 ?_
    refine va_sld hx hb hX hbl hbA hS (ld_in (k := 2) h4 (by omega) hL) dL_law_348 ?_
    refine lv_if_eq (tgt := 356) hx hb dL_law_349 (by decide) (fun c_349 => ?_) (fun c_349 => ?_)
    · refine lv_iconst (v := 0) hx hb dL_law_356 (by decide) ?_
      have hPc := hP.sub (ws' := [(a1, .inr (1, [.ref q1, .ref q2, .ref q3, .int nx, .int (nI u), .int ed, .int th, .int ek])), (q1, .inl (cU, 64, .inl fU)), (q2, .inl (cV, 64, .inl fB)), (q3, .inl (cZ, 64, .inl fH))]) [2, 3, 4, 5] rfl
      have hDc := hD.sub (ws' := [(a1, .inr (1, [.ref q1, .ref q2, .ref q3, .int nx, .int (nI u), .int ed, .int th, .int ek])), (q1, .inl (cU, 64, .inl fU)), (q2, .inl (cV, 64, .inl fB)), (q3, .inl (cZ, 64, .inl fH))]) [2, 3, 4, 5] (by decide) rfl
      have hKc := hK.sub (tys' := [(cU, .int), (cV, .int), (cZ, .boolean)]) [1, 2, 3] rfl
      have hFc := va_free (wc := [(a1, .inr (1, [.ref q1, .ref q2, .ref q3, .int nx, .int (nI u), .int ed, .int th, .int ek])), (q1, .inl (cU, 64, .inl fU)), (q2, .inl (cV, 64, .inl fB)), (q3, .inl (cZ, 64, .inl fH))]) hD hS hA [2, 3, 4, 5] rfl
      refine va_calli (va_runV (As := [.int (xs (x4 + 1).toNatClampNeg), .int 0]) (rest := []) ⟨hx, hb, hml, hown, hts2⟩ (m_block l dC dI a1 q1 q2 q3 cU cV cZ nx (nI u) ed th ek fU fB fH (xs (x4 + 1).toNatClampNeg) 0 H.size ) (cwV 2 hts2 gL_m_X1_block rfl rfl rfl (by decide +kernel) ⟨Nat.le_of_ble_eq_true rfl, Nat.le_of_ble_eq_true rfl⟩) ⟨fun a U g mk q => by obtain ⟨q0, q1, qP, qK, qD⟩ := q; exact ⟨q0, q1, qP, va_K.moved (u := U) (U := U.calling g mk a) (Vm.Alike.refl U.vm) qK, qD⟩, va_recv hKc hPc (ci := 1) (q0 := 0) rfl rfl, fun U hU hW => ⟨rfl, by rw [hU], by rw [hU]; exact hPc, va_K.moved hW.alike hKc, hDc.weaken (fun _ _ _ _ => trivial)⟩⟩ rfl rfl hl.1 rfl (lv_room (Nat.le_of_ble_eq_true rfl)) dL_law_357 ⟨(show _ ≤ 1034 by omega), (show _ ≤ 8481 by omega)⟩) hS (fun q _ h => hFc q h) hFc (fun r2 uv tS H1 locs ht hvm hw2 hB hz1 hk1 hS => ?_)
      obtain ⟨t8, rfl⟩ : ∃ z, z = uv := ⟨_, rfl⟩
      obtain ⟨hP1, hK1, hD1⟩ := hB
      rw [ht] at hP1
      have hK1 := va_K.moved hvm.symm hK1
      try dsimp only at hw2
      obtain ⟨hP, hD⟩ := va_join (wr := [(h0, .inr (0, [.ref qb, .long kb, .int nx, .int (nI u), .int ek, .int en])), (qb, .inl (cB, 64, .inl fb)), (qo, .inl (cO, 1, .inr (.inl o7)))]) (w1 := [(a1, .inr (1, [.ref q1, .ref q2, .ref q3, .int nx, .int (nI u), .int ed, .int t8, .int ek])), (q1, .inl (cU, 64, .inl fU)), (q2, .inl (cV, 64, .inl fB)), (q3, .inl (cZ, 64, .inl fH))]) hP hD [2, 3, 4, 5] [0, 1, 6] rfl rfl (by decide) (by decide) hk1 hFc hP1 hD1
      generalize H1 = H at hP hS ⊢
      have hP := hP.sub (ws' := [(h0, .inr (0, [.ref qb, .long kb, .int nx, .int (nI u), .int ek, .int en])), (qb, .inl (cB, 64, .inl fb)), (a1, .inr (1, [.ref q1, .ref q2, .ref q3, .int nx, .int (nI u), .int ed, .int t8, .int ek])), (q1, .inl (cU, 64, .inl fU)), (q2, .inl (cV, 64, .inl fB)), (q3, .inl (cZ, 64, .inl fH)), (qo, .inl (cO, 1, .inr (.inl o7)))]) [0, 1, 3, 4, 5, 6, 2] rfl
      have hD := hD.sub (ws' := [(h0, .inr (0, [.ref qb, .long kb, .int nx, .int (nI u), .int ek, .int en])), (qb, .inl (cB, 64, .inl fb)), (a1, .inr (1, [.ref q1, .ref q2, .ref q3, .int nx, .int (nI u), .int ed, .int t8, .int ek])), (q1, .inl (cU, 64, .inl fU)), (q2, .inl (cV, 64, .inl fB)), (q3, .inl (cZ, 64, .inl fH)), (qo, .inl (cO, 1, .inr (.inl o7)))]) [0, 1, 3, 4, 5, 6, 2] (by decide) rfl
      rcases hw1 with ⟨w1, w2⟩ | ⟨w1, r9, w2, i0, k, w3, w4, w5, w6, w7, w8⟩
      · rcases hw2 with ⟨v2, v1⟩ | ⟨v2, i1, k1, v3, v4, v5, v6, v7, v8⟩
        · have w1 := w1.symm
          subst w1
          have v2 := v2.symm
          subst v2
          refine lv_istore (lv' := [(6, .int r2), (5, .int 1), (4, .int x4), (0, .ref b), (1, .ref h0), (2, .ref a1), (3, .ref qo)]) hx hb dL_law_360 hl (by decide) rfl (fun ls hl => ?_)
          refine lv_aload_n hx hb dL_law_362 rfl (lv_at hl 5 rfl) ?_
          have hPc := hP.sub (ws' := [(a1, .inr (1, [.ref q1, .ref q2, .ref q3, .int nx, .int (nI u), .int ed, .int 1, .int ek])), (q1, .inl (cU, 64, .inl fU)), (q2, .inl (cV, 64, .inl fB)), (q3, .inl (cZ, 64, .inl fH))]) [2, 3, 4, 5] rfl
          have hDc := hD.sub (ws' := [(a1, .inr (1, [.ref q1, .ref q2, .ref q3, .int nx, .int (nI u), .int ed, .int 1, .int ek])), (q1, .inl (cU, 64, .inl fU)), (q2, .inl (cV, 64, .inl fB)), (q3, .inl (cZ, 64, .inl fH))]) [2, 3, 4, 5] (by decide) rfl
          have hKc := hK.sub (tys' := [(cU, .int), (cV, .int), (cZ, .boolean)]) [1, 2, 3] rfl
          have hFc := va_free (wc := [(a1, .inr (1, [.ref q1, .ref q2, .ref q3, .int nx, .int (nI u), .int ed, .int 1, .int ek])), (q1, .inl (cU, 64, .inl fU)), (q2, .inl (cV, 64, .inl fB)), (q3, .inl (cZ, 64, .inl fH))]) hD hS hA [2, 3, 4, 5] rfl
          refine va_calli (va_runV (As := []) (rest := []) ⟨hx, hb, hml, hown, hts1⟩ (m_thrown l dC dI a1 q1 q2 q3 cU cV cZ nx (nI u) ed 1 ek fU fB fH H.size ) (cwV 0 hts1 gL_law_X1_thrown rfl rfl rfl (by decide +kernel) ⟨Nat.le_of_ble_eq_true rfl, Nat.le_of_ble_eq_true rfl⟩) ⟨fun a U g mk q => by obtain ⟨q0, q1, qP, qK, qD⟩ := q; exact ⟨q0, q1, qP, va_K.moved (u := U) (U := U.calling g mk a) (Vm.Alike.refl U.vm) qK, qD⟩, va_recv hKc hPc (ci := 1) (q0 := 0) rfl rfl, fun U hU hW => ⟨rfl, by rw [hU], by rw [hU]; exact hPc, va_K.moved hW.alike hKc, hDc.weaken (fun _ _ _ _ => trivial)⟩⟩ rfl rfl hl.1 rfl (lv_room (Nat.le_of_ble_eq_true rfl)) dL_law_363 ⟨(show _ ≤ 1034 by omega), (show _ ≤ 8481 by omega)⟩) hS (fun q _ h => hFc q h) hFc (fun r_1 uv tS H1 locs ht hvm hw_2 hB hz1 hk1 hS => ?_)
          obtain ⟨hP1, hK1, hD1⟩ := hB
          rw [ht] at hP1
          have hK1 := va_K.moved hvm.symm hK1
          try dsimp only at hw_2
          obtain ⟨hP, hD⟩ := va_join (wr := [(h0, .inr (0, [.ref qb, .long kb, .int nx, .int (nI u), .int ek, .int en])), (qb, .inl (cB, 64, .inl fb)), (qo, .inl (cO, 1, .inr (.inl o7)))]) (w1 := [(a1, .inr (1, [.ref q1, .ref q2, .ref q3, .int nx, .int (nI u), .int ed, .int 1, .int ek])), (q1, .inl (cU, 64, .inl fU)), (q2, .inl (cV, 64, .inl fB)), (q3, .inl (cZ, 64, .inl fH))]) hP hD [2, 3, 4, 5] [0, 1, 6] rfl rfl (by decide) (by decide) hk1 hFc hP1 hD1
          generalize H1 = H at hP hS ⊢
          have hP := hP.sub (ws' := [(h0, .inr (0, [.ref qb, .long kb, .int nx, .int (nI u), .int ek, .int en])), (qb, .inl (cB, 64, .inl fb)), (a1, .inr (1, [.ref q1, .ref q2, .ref q3, .int nx, .int (nI u), .int ed, .int 1, .int ek])), (q1, .inl (cU, 64, .inl fU)), (q2, .inl (cV, 64, .inl fB)), (q3, .inl (cZ, 64, .inl fH)), (qo, .inl (cO, 1, .inr (.inl o7)))]) [0, 1, 3, 4, 5, 6, 2] rfl
          have hD := hD.sub (ws' := [(h0, .inr (0, [.ref qb, .long kb, .int nx, .int (nI u), .int ek, .int en])), (qb, .inl (cB, 64, .inl fb)), (a1, .inr (1, [.ref q1, .ref q2, .ref q3, .int nx, .int (nI u), .int ed, .int 1, .int ek])), (q1, .inl (cU, 64, .inl fU)), (q2, .inl (cV, 64, .inl fB)), (q3, .inl (cZ, 64, .inl fH)), (qo, .inl (cO, 1, .inr (.inl o7)))]) [0, 1, 3, 4, 5, 6, 2] (by decide) rfl
          subst hw_2
          refine lv_iload hx hb dL_law_366 (lv_at hl 1 rfl) ?_
          refine lv_icmp_eq (tgt := 373) hx hb dL_law_368 (by decide) (fun c_368 => ?_) (fun c_368 => ?_)
          · refine lv_iload hx hb dL_law_373 (lv_at hl 1 rfl) ?_
            refine lv_if_ne (tgt := 390) hx hb dL_law_375 (by decide) (fun c_375 => ?_) (fun c_375 => ?_)
            · refine lv_goto (tgt := 418) hx hb dL_law_390 (by decide) ?_
              obtain ⟨x_3, ex_3⟩ : ∃ y : Int32, y = x4 + 5 := ⟨_, rfl⟩
              refine lv_iinc (v := x_3) (lv' := [(4, .int x_3), (6, .int r2), (5, .int 1), (0, .ref b), (1, .ref h0), (2, .ref a1), (3, .ref qo)]) hx hb dL_law_418 hl (k := 2) rfl (by rw [ex_3]; rfl) (by decide) rfl (fun ls hl => ?_)
              refine lv_goto (tgt := 23) hx hb dL_law_421 (by decide) ?_
              refine W.widen (k := 7 + (t + 1)) (n := 271 + 6 * (t + 1)) (by omega) (by omega) ?_
              exact ih x_3 kb nx ek en ed 1 bs u e9 S fb fU fB fH o7 (x4_up h4 ex_3) hI H _ ls hP hD hS (lv_sub hl [0, 3, 4, 5, 6] rfl)
            · exact absurd c_375 (by decide)
          · exact absurd rfl c_368
        · exact (g_blk_cm hI w2 v3 v4 v5 v6 v7).elim
      · rcases hw2 with ⟨v2, v1⟩ | ⟨v2, i1, k1, v3, v4, v5, v6, v7, v8⟩
        · exact (g_blk_mc hI w3 w4 v1).elim
        · have er := g_blk hI w3 w4 w5 w6 w7 w8 v3 v4 v5 v6 v7 v8
          have w1 := w1.symm
          subst w1
          have v2 := v2.symm
          subst v2
          refine lv_istore (lv' := [(6, .int r2), (5, .int 0), (4, .int x4), (0, .ref b), (1, .ref h0), (2, .ref a1), (3, .ref qo)]) hx hb dL_law_360 hl (by decide) rfl (fun ls hl => ?_)
          refine lv_aload_n hx hb dL_law_362 rfl (lv_at hl 5 rfl) ?_
          have hPc := hP.sub (ws' := [(a1, .inr (1, [.ref q1, .ref q2, .ref q3, .int nx, .int (nI u), .int ed, .int 0, .int ek])), (q1, .inl (cU, 64, .inl fU)), (q2, .inl (cV, 64, .inl fB)), (q3, .inl (cZ, 64, .inl fH))]) [2, 3, 4, 5] rfl
          have hDc := hD.sub (ws' := [(a1, .inr (1, [.ref q1, .ref q2, .ref q3, .int nx, .int (nI u), .int ed, .int 0, .int ek])), (q1, .inl (cU, 64, .inl fU)), (q2, .inl (cV, 64, .inl fB)), (q3, .inl (cZ, 64, .inl fH))]) [2, 3, 4, 5] (by decide) rfl
          have hKc := hK.sub (tys' := [(cU, .int), (cV, .int), (cZ, .boolean)]) [1, 2, 3] rfl
          have hFc := va_free (wc := [(a1, .inr (1, [.ref q1, .ref q2, .ref q3, .int nx, .int (nI u), .int ed, .int 0, .int ek])), (q1, .inl (cU, 64, .inl fU)), (q2, .inl (cV, 64, .inl fB)), (q3, .inl (cZ, 64, .inl fH))]) hD hS hA [2, 3, 4, 5] rfl
          refine va_calli (va_runV (As := []) (rest := []) ⟨hx, hb, hml, hown, hts1⟩ (m_thrown l dC dI a1 q1 q2 q3 cU cV cZ nx (nI u) ed 0 ek fU fB fH H.size ) (cwV 0 hts1 gL_law_X1_thrown rfl rfl rfl (by decide +kernel) ⟨Nat.le_of_ble_eq_true rfl, Nat.le_of_ble_eq_true rfl⟩) ⟨fun a U g mk q => by obtain ⟨q0, q1, qP, qK, qD⟩ := q; exact ⟨q0, q1, qP, va_K.moved (u := U) (U := U.calling g mk a) (Vm.Alike.refl U.vm) qK, qD⟩, va_recv hKc hPc (ci := 1) (q0 := 0) rfl rfl, fun U hU hW => ⟨rfl, by rw [hU], by rw [hU]; exact hPc, va_K.moved hW.alike hKc, hDc.weaken (fun _ _ _ _ => trivial)⟩⟩ rfl rfl hl.1 rfl (lv_room (Nat.le_of_ble_eq_true rfl)) dL_law_363 ⟨(show _ ≤ 1034 by omega), (show _ ≤ 8481 by omega)⟩) hS (fun q _ h => hFc q h) hFc (fun r_4 uv tS H1 locs ht hvm hw_5 hB hz1 hk1 hS => ?_)
          obtain ⟨hP1, hK1, hD1⟩ := hB
          rw [ht] at hP1
          have hK1 := va_K.moved hvm.symm hK1
          try dsimp only at hw_5
          obtain ⟨hP, hD⟩ := va_join (wr := [(h0, .inr (0, [.ref qb, .long kb, .int nx, .int (nI u), .int ek, .int en])), (qb, .inl (cB, 64, .inl fb)), (qo, .inl (cO, 1, .inr (.inl o7)))]) (w1 := [(a1, .inr (1, [.ref q1, .ref q2, .ref q3, .int nx, .int (nI u), .int ed, .int 0, .int ek])), (q1, .inl (cU, 64, .inl fU)), (q2, .inl (cV, 64, .inl fB)), (q3, .inl (cZ, 64, .inl fH))]) hP hD [2, 3, 4, 5] [0, 1, 6] rfl rfl (by decide) (by decide) hk1 hFc hP1 hD1
          generalize H1 = H at hP hS ⊢
          have hP := hP.sub (ws' := [(h0, .inr (0, [.ref qb, .long kb, .int nx, .int (nI u), .int ek, .int en])), (qb, .inl (cB, 64, .inl fb)), (a1, .inr (1, [.ref q1, .ref q2, .ref q3, .int nx, .int (nI u), .int ed, .int 0, .int ek])), (q1, .inl (cU, 64, .inl fU)), (q2, .inl (cV, 64, .inl fB)), (q3, .inl (cZ, 64, .inl fH)), (qo, .inl (cO, 1, .inr (.inl o7)))]) [0, 1, 3, 4, 5, 6, 2] rfl
          have hD := hD.sub (ws' := [(h0, .inr (0, [.ref qb, .long kb, .int nx, .int (nI u), .int ek, .int en])), (qb, .inl (cB, 64, .inl fb)), (a1, .inr (1, [.ref q1, .ref q2, .ref q3, .int nx, .int (nI u), .int ed, .int 0, .int ek])), (q1, .inl (cU, 64, .inl fU)), (q2, .inl (cV, 64, .inl fB)), (q3, .inl (cZ, 64, .inl fH)), (qo, .inl (cO, 1, .inr (.inl o7)))]) [0, 1, 3, 4, 5, 6, 2] (by decide) rfl
          subst hw_5
          refine lv_iload hx hb dL_law_366 (lv_at hl 1 rfl) ?_
          refine lv_icmp_eq (tgt := 373) hx hb dL_law_368 (by decide) (fun c_368 => ?_) (fun c_368 => ?_)
          · refine lv_iload hx hb dL_law_373 (lv_at hl 1 rfl) ?_
            refine lv_if_ne (tgt := 390) hx hb dL_law_375 (by decide) (fun c_375 => ?_) (fun c_375 => ?_)
            · exact absurd rfl c_375
            · refine lv_aload_n hx hb dL_law_378 rfl (lv_at hl 6 rfl) ?_
              refine lv_iconst (v := 0) hx hb dL_law_379 (by decide) ?_
              refine va_lald hx hb hK hP 6 4 rfl rfl inb1_0 dL_law_380 ?_
              refine lv_iload hx hb dL_law_381 (lv_at hl 0 rfl) ?_
              refine lv_i2l (v := r2.toInt64) hx hb dL_law_383 rfl ?_
              refine W.lcmp hx hb dL_law_384 ?_
              refine lv_if_eq (tgt := 390) hx hb dL_law_385 (by decide) (fun c_385 => ?_) (fun c_385 => ?_)
              · refine lv_goto (tgt := 418) hx hb dL_law_390 (by decide) ?_
                obtain ⟨x_6, ex_6⟩ : ∃ y : Int32, y = x4 + 5 := ⟨_, rfl⟩
                refine lv_iinc (v := x_6) (lv' := [(4, .int x_6), (6, .int r2), (5, .int 0), (0, .ref b), (1, .ref h0), (2, .ref a1), (3, .ref qo)]) hx hb dL_law_418 hl (k := 2) rfl (by rw [ex_6]; rfl) (by decide) rfl (fun ls hl => ?_)
                refine lv_goto (tgt := 23) hx hb dL_law_421 (by decide) ?_
                refine W.widen (k := 7 + (t + 1)) (n := 271 + 6 * (t + 1)) (by omega) (by omega) ?_
                exact ih x_6 kb nx ek en ed 0 bs u e9 S fb fU fB fH o7 (x4_up h4 ex_6) hI H _ ls hP hD hS (lv_sub hl [0, 3, 4, 5, 6] rfl)
              · exact absurd (lcmp_eq (by rw [cl_0, w2, er])) c_385
          · exact absurd rfl c_368
    · exact absurd c_322 c_349
  · refine lv_iconst (v := 1) hx hb dL_law_325 (by decide) ?_
    refine lv_goto (tgt := 330) hx hb dL_law_326 (by decide) ?_
    refine lv_aload_n hx hb dL_law_330 rfl (lv_at hl 4 rfl) ?_
    have hPc := hP.sub (ws' := [(h0, .inr (0, [.ref qb, .long kb, .int nx, .int (nI u), .int ek, .int en])), (qb, .inl (cB, 64, .inl fb)), (qo, .inl (cO, 1, .inr (.inl fo)))]) [0, 1, 6] rfl
    have hDc := hD.sub (ws' := [(h0, .inr (0, [.ref qb, .long kb, .int nx, .int (nI u), .int ek, .int en])), (qb, .inl (cB, 64, .inl fb)), (qo, .inl (cO, 1, .inr (.inl fo)))]) [0, 1, 6] (by decide) rfl
    have hKc := hK.sub (tys' := [(cB, .byte), (cO, .long)]) [0, 4] rfl
    have hFc := va_free (wc := [(h0, .inr (0, [.ref qb, .long kb, .int nx, .int (nI u), .int ek, .int en])), (qb, .inl (cB, 64, .inl fb)), (qo, .inl (cO, 1, .inr (.inl fo)))]) hD hS hA [0, 1, 6] rfl
    refine va_calli (vx_runSW (As := [.ref h0, .int (xs (x4 + 1).toNatClampNeg), .int 1, .ref qo]) (rest := []) ⟨hx, hb, hml, hown, hts1⟩ (h_block l hst dC dI h0 qb cB kb nx (nI u) ek en fb qo cO fo (xs (x4 + 1).toNatClampNeg) 1 H.size ) (vx_cwSW 4 hts1 gL_law_L_block rfl rfl rfl (by decide +kernel) ⟨Nat.le_of_ble_eq_true rfl, Nat.le_of_ble_eq_true rfl⟩) ⟨fun a U g mk q => by obtain ⟨q0, q1, qP, qK, qD, qZ⟩ := q; exact ⟨q0, q1, qP, va_K.moved (u := U) (U := U.calling g mk a) (Vm.Alike.refl U.vm) qK, qD, thr_blind qZ⟩, fun U hU hW => ⟨rfl, by rw [hU], by rw [hU]; exact hPc, va_K.moved hW.alike hKc, hDc.weaken (fun _ _ _ _ => trivial), thr_call hZ hS hFc hU hW⟩⟩ rfl rfl hl.1 rfl (lv_room (Nat.le_of_ble_eq_true rfl)) dL_law_331 ⟨(show _ ≤ 1034 by omega), (show _ ≤ 8481 by omega)⟩) hS (fun q _ h => hFc q h) hFc (fun r1 uv tS H1 locs ht hvm hw1 hB hz1 hk1 hS => ?_)
    obtain ⟨o7, rfl⟩ : ∃ z, z = uv := ⟨_, rfl⟩
    obtain ⟨hP1, hK1, hD1⟩ := hB
    rw [ht] at hP1
    have hK1 := va_K.moved hvm.symm hK1
    try dsimp only at hw1
    obtain ⟨hP, hD⟩ := va_join (wr := [(a1, .inr (1, [.ref q1, .ref q2, .ref q3, .int nx, .int (nI u), .int ed, .int th, .int ek])), (q1, .inl (cU, 64, .inl fU)), (q2, .inl (cV, 64, .inl fB)), (q3, .inl (cZ, 64, .inl fH))]) (w1 := [(h0, .inr (0, [.ref qb, .long kb, .int nx, .int (nI u), .int ek, .int en])), (qb, .inl (cB, 64, .inl fb)), (qo, .inl (cO, 1, .inr (.inl o7)))]) hP hD [0, 1, 6] [2, 3, 4, 5] rfl rfl (by decide) (by decide) hk1 hFc hP1 hD1
    generalize H1 = H at hP hS ⊢
    have hP := hP.sub (ws' := [(h0, .inr (0, [.ref qb, .long kb, .int nx, .int (nI u), .int ek, .int en])), (qb, .inl (cB, 64, .inl fb)), (a1, .inr (1, [.ref q1, .ref q2, .ref q3, .int nx, .int (nI u), .int ed, .int th, .int ek])), (q1, .inl (cU, 64, .inl fU)), (q2, .inl (cV, 64, .inl fB)), (q3, .inl (cZ, 64, .inl fH)), (qo, .inl (cO, 1, .inr (.inl o7)))]) [4, 5, 0, 1, 2, 3, 6] rfl
    have hD := hD.sub (ws' := [(h0, .inr (0, [.ref qb, .long kb, .int nx, .int (nI u), .int ek, .int en])), (qb, .inl (cB, 64, .inl fb)), (a1, .inr (1, [.ref q1, .ref q2, .ref q3, .int nx, .int (nI u), .int ed, .int th, .int ek])), (q1, .inl (cU, 64, .inl fU)), (q2, .inl (cV, 64, .inl fB)), (q3, .inl (cZ, 64, .inl fH)), (qo, .inl (cO, 1, .inr (.inl o7)))]) [4, 5, 0, 1, 2, 3, 6] (by decide) rfl
    refine lv_istore (lv' := [(5, .int r1), (4, .int x4), (0, .ref b), (1, .ref h0), (2, .ref a1), (3, .ref qo)]) hx hb dL_law_334 hl (by decide) rfl (fun ls hl => ?_)
    refine lv_aload_n hx hb dL_law_336 rfl (lv_at hl 4 rfl) ?_
    refine lv_aload_n hx hb dL_law_337 rfl (lv_at hl 2 rfl) ?_
    refine lv_iload hx hb dL_law_338 (lv_at hl 1 rfl) ?_
    refine lv_iconst (v := 1) hx hb dL_law_340 (by decide) ?_
    refine lv_iadd hx hb dL_law_341 ?_
    refine va_sld hx hb hX hbl hbA hS (ld_in (k := 1) h4 (by omega) hL) dL_law_342 ?_
    refine lv_aload_n hx hb dL_law_343 rfl (lv_at hl 2 rfl) ?_
    refine lv_iload hx hb dL_law_344 (lv_at hl 1 rfl) ?_
    refine lv_iconst (v := 2) hx hb dL_law_346 (by decide) ?_
    refine lv_iadd hx hb dL_law_347 ?_
    refine va_sld hx hb hX hbl hbA hS (ld_in (k := 2) h4 (by omega) hL) dL_law_348 ?_
    refine lv_if_eq (tgt := 356) hx hb dL_law_349 (by decide) (fun c_349 => ?_) (fun c_349 => ?_)
    · exact absurd c_349 c_322
    · refine lv_iconst (v := 1) hx hb dL_law_352 (by decide) ?_
      refine lv_goto (tgt := 357) hx hb dL_law_353 (by decide) ?_
      have hPc := hP.sub (ws' := [(a1, .inr (1, [.ref q1, .ref q2, .ref q3, .int nx, .int (nI u), .int ed, .int th, .int ek])), (q1, .inl (cU, 64, .inl fU)), (q2, .inl (cV, 64, .inl fB)), (q3, .inl (cZ, 64, .inl fH))]) [2, 3, 4, 5] rfl
      have hDc := hD.sub (ws' := [(a1, .inr (1, [.ref q1, .ref q2, .ref q3, .int nx, .int (nI u), .int ed, .int th, .int ek])), (q1, .inl (cU, 64, .inl fU)), (q2, .inl (cV, 64, .inl fB)), (q3, .inl (cZ, 64, .inl fH))]) [2, 3, 4, 5] (by decide) rfl
      have hKc := hK.sub (tys' := [(cU, .int), (cV, .int), (cZ, .boolean)]) [1, 2, 3] rfl
      have hFc := va_free (wc := [(a1, .inr (1, [.ref q1, .ref q2, .ref q3, .int nx, .int (nI u), .int ed, .int th, .int ek])), (q1, .inl (cU, 64, .inl fU)), (q2, .inl (cV, 64, .inl fB)), (q3, .inl (cZ, 64, .inl fH))]) hD hS hA [2, 3, 4, 5] rfl
      refine va_calli (va_runV (As := [.int (xs (x4 + 1).toNatClampNeg), .int 1]) (rest := []) ⟨hx, hb, hml, hown, hts2⟩ (m_block l dC dI a1 q1 q2 q3 cU cV cZ nx (nI u) ed th ek fU fB fH (xs (x4 + 1).toNatClampNeg) 1 H.size ) (cwV 2 hts2 gL_m_X1_block rfl rfl rfl (by decide +kernel) ⟨Nat.le_of_ble_eq_true rfl, Nat.le_of_ble_eq_true rfl⟩) ⟨fun a U g mk q => by obtain ⟨q0, q1, qP, qK, qD⟩ := q; exact ⟨q0, q1, qP, va_K.moved (u := U) (U := U.calling g mk a) (Vm.Alike.refl U.vm) qK, qD⟩, va_recv hKc hPc (ci := 1) (q0 := 0) rfl rfl, fun U hU hW => ⟨rfl, by rw [hU], by rw [hU]; exact hPc, va_K.moved hW.alike hKc, hDc.weaken (fun _ _ _ _ => trivial)⟩⟩ rfl rfl hl.1 rfl (lv_room (Nat.le_of_ble_eq_true rfl)) dL_law_357 ⟨(show _ ≤ 1034 by omega), (show _ ≤ 8481 by omega)⟩) hS (fun q _ h => hFc q h) hFc (fun r2 uv tS H1 locs ht hvm hw2 hB hz1 hk1 hS => ?_)
      obtain ⟨t8, rfl⟩ : ∃ z, z = uv := ⟨_, rfl⟩
      obtain ⟨hP1, hK1, hD1⟩ := hB
      rw [ht] at hP1
      have hK1 := va_K.moved hvm.symm hK1
      try dsimp only at hw2
      obtain ⟨hP, hD⟩ := va_join (wr := [(h0, .inr (0, [.ref qb, .long kb, .int nx, .int (nI u), .int ek, .int en])), (qb, .inl (cB, 64, .inl fb)), (qo, .inl (cO, 1, .inr (.inl o7)))]) (w1 := [(a1, .inr (1, [.ref q1, .ref q2, .ref q3, .int nx, .int (nI u), .int ed, .int t8, .int ek])), (q1, .inl (cU, 64, .inl fU)), (q2, .inl (cV, 64, .inl fB)), (q3, .inl (cZ, 64, .inl fH))]) hP hD [2, 3, 4, 5] [0, 1, 6] rfl rfl (by decide) (by decide) hk1 hFc hP1 hD1
      generalize H1 = H at hP hS ⊢
      have hP := hP.sub (ws' := [(h0, .inr (0, [.ref qb, .long kb, .int nx, .int (nI u), .int ek, .int en])), (qb, .inl (cB, 64, .inl fb)), (a1, .inr (1, [.ref q1, .ref q2, .ref q3, .int nx, .int (nI u), .int ed, .int t8, .int ek])), (q1, .inl (cU, 64, .inl fU)), (q2, .inl (cV, 64, .inl fB)), (q3, .inl (cZ, 64, .inl fH)), (qo, .inl (cO, 1, .inr (.inl o7)))]) [0, 1, 3, 4, 5, 6, 2] rfl
      have hD := hD.sub (ws' := [(h0, .inr (0, [.ref qb, .long kb, .int nx, .int (nI u), .int ek, .int en])), (qb, .inl (cB, 64, .inl fb)), (a1, .inr (1, [.ref q1, .ref q2, .ref q3, .int nx, .int (nI u), .int ed, .int t8, .int ek])), (q1, .inl (cU, 64, .inl fU)), (q2, .inl (cV, 64, .inl fB)), (q3, .inl (cZ, 64, .inl fH)), (qo, .inl (cO, 1, .inr (.inl o7)))]) [0, 1, 3, 4, 5, 6, 2] (by decide) rfl
      rcases hw1 with ⟨w1, w2⟩ | ⟨w1, r9, w2, i0, k, w3, w4, w5, w6, w7, w8⟩
      · rcases hw2 with ⟨v2, v1⟩ | ⟨v2, i1, k1, v3, v4, v5, v6, v7, v8⟩
        · have w1 := w1.symm
          subst w1
          have v2 := v2.symm
          subst v2
          refine lv_istore (lv' := [(6, .int r2), (5, .int 1), (4, .int x4), (0, .ref b), (1, .ref h0), (2, .ref a1), (3, .ref qo)]) hx hb dL_law_360 hl (by decide) rfl (fun ls hl => ?_)
          refine lv_aload_n hx hb dL_law_362 rfl (lv_at hl 5 rfl) ?_
          have hPc := hP.sub (ws' := [(a1, .inr (1, [.ref q1, .ref q2, .ref q3, .int nx, .int (nI u), .int ed, .int 1, .int ek])), (q1, .inl (cU, 64, .inl fU)), (q2, .inl (cV, 64, .inl fB)), (q3, .inl (cZ, 64, .inl fH))]) [2, 3, 4, 5] rfl
          have hDc := hD.sub (ws' := [(a1, .inr (1, [.ref q1, .ref q2, .ref q3, .int nx, .int (nI u), .int ed, .int 1, .int ek])), (q1, .inl (cU, 64, .inl fU)), (q2, .inl (cV, 64, .inl fB)), (q3, .inl (cZ, 64, .inl fH))]) [2, 3, 4, 5] (by decide) rfl
          have hKc := hK.sub (tys' := [(cU, .int), (cV, .int), (cZ, .boolean)]) [1, 2, 3] rfl
          have hFc := va_free (wc := [(a1, .inr (1, [.ref q1, .ref q2, .ref q3, .int nx, .int (nI u), .int ed, .int 1, .int ek])), (q1, .inl (cU, 64, .inl fU)), (q2, .inl (cV, 64, .inl fB)), (q3, .inl (cZ, 64, .inl fH))]) hD hS hA [2, 3, 4, 5] rfl
          refine va_calli (va_runV (As := []) (rest := []) ⟨hx, hb, hml, hown, hts1⟩ (m_thrown l dC dI a1 q1 q2 q3 cU cV cZ nx (nI u) ed 1 ek fU fB fH H.size ) (cwV 0 hts1 gL_law_X1_thrown rfl rfl rfl (by decide +kernel) ⟨Nat.le_of_ble_eq_true rfl, Nat.le_of_ble_eq_true rfl⟩) ⟨fun a U g mk q => by obtain ⟨q0, q1, qP, qK, qD⟩ := q; exact ⟨q0, q1, qP, va_K.moved (u := U) (U := U.calling g mk a) (Vm.Alike.refl U.vm) qK, qD⟩, va_recv hKc hPc (ci := 1) (q0 := 0) rfl rfl, fun U hU hW => ⟨rfl, by rw [hU], by rw [hU]; exact hPc, va_K.moved hW.alike hKc, hDc.weaken (fun _ _ _ _ => trivial)⟩⟩ rfl rfl hl.1 rfl (lv_room (Nat.le_of_ble_eq_true rfl)) dL_law_363 ⟨(show _ ≤ 1034 by omega), (show _ ≤ 8481 by omega)⟩) hS (fun q _ h => hFc q h) hFc (fun r_7 uv tS H1 locs ht hvm hw_8 hB hz1 hk1 hS => ?_)
          obtain ⟨hP1, hK1, hD1⟩ := hB
          rw [ht] at hP1
          have hK1 := va_K.moved hvm.symm hK1
          try dsimp only at hw_8
          obtain ⟨hP, hD⟩ := va_join (wr := [(h0, .inr (0, [.ref qb, .long kb, .int nx, .int (nI u), .int ek, .int en])), (qb, .inl (cB, 64, .inl fb)), (qo, .inl (cO, 1, .inr (.inl o7)))]) (w1 := [(a1, .inr (1, [.ref q1, .ref q2, .ref q3, .int nx, .int (nI u), .int ed, .int 1, .int ek])), (q1, .inl (cU, 64, .inl fU)), (q2, .inl (cV, 64, .inl fB)), (q3, .inl (cZ, 64, .inl fH))]) hP hD [2, 3, 4, 5] [0, 1, 6] rfl rfl (by decide) (by decide) hk1 hFc hP1 hD1
          generalize H1 = H at hP hS ⊢
          have hP := hP.sub (ws' := [(h0, .inr (0, [.ref qb, .long kb, .int nx, .int (nI u), .int ek, .int en])), (qb, .inl (cB, 64, .inl fb)), (a1, .inr (1, [.ref q1, .ref q2, .ref q3, .int nx, .int (nI u), .int ed, .int 1, .int ek])), (q1, .inl (cU, 64, .inl fU)), (q2, .inl (cV, 64, .inl fB)), (q3, .inl (cZ, 64, .inl fH)), (qo, .inl (cO, 1, .inr (.inl o7)))]) [0, 1, 3, 4, 5, 6, 2] rfl
          have hD := hD.sub (ws' := [(h0, .inr (0, [.ref qb, .long kb, .int nx, .int (nI u), .int ek, .int en])), (qb, .inl (cB, 64, .inl fb)), (a1, .inr (1, [.ref q1, .ref q2, .ref q3, .int nx, .int (nI u), .int ed, .int 1, .int ek])), (q1, .inl (cU, 64, .inl fU)), (q2, .inl (cV, 64, .inl fB)), (q3, .inl (cZ, 64, .inl fH)), (qo, .inl (cO, 1, .inr (.inl o7)))]) [0, 1, 3, 4, 5, 6, 2] (by decide) rfl
          subst hw_8
          refine lv_iload hx hb dL_law_366 (lv_at hl 1 rfl) ?_
          refine lv_icmp_eq (tgt := 373) hx hb dL_law_368 (by decide) (fun c_368 => ?_) (fun c_368 => ?_)
          · refine lv_iload hx hb dL_law_373 (lv_at hl 1 rfl) ?_
            refine lv_if_ne (tgt := 390) hx hb dL_law_375 (by decide) (fun c_375 => ?_) (fun c_375 => ?_)
            · refine lv_goto (tgt := 418) hx hb dL_law_390 (by decide) ?_
              obtain ⟨x_9, ex_9⟩ : ∃ y : Int32, y = x4 + 5 := ⟨_, rfl⟩
              refine lv_iinc (v := x_9) (lv' := [(4, .int x_9), (6, .int r2), (5, .int 1), (0, .ref b), (1, .ref h0), (2, .ref a1), (3, .ref qo)]) hx hb dL_law_418 hl (k := 2) rfl (by rw [ex_9]; rfl) (by decide) rfl (fun ls hl => ?_)
              refine lv_goto (tgt := 23) hx hb dL_law_421 (by decide) ?_
              refine W.widen (k := 7 + (t + 1)) (n := 271 + 6 * (t + 1)) (by omega) (by omega) ?_
              exact ih x_9 kb nx ek en ed 1 bs u e9 S fb fU fB fH o7 (x4_up h4 ex_9) hI H _ ls hP hD hS (lv_sub hl [0, 3, 4, 5, 6] rfl)
            · exact absurd c_375 (by decide)
          · exact absurd rfl c_368
        · exact (g_blk_cm hI w2 v3 v4 v5 v6 v7).elim
      · rcases hw2 with ⟨v2, v1⟩ | ⟨v2, i1, k1, v3, v4, v5, v6, v7, v8⟩
        · exact (g_blk_mc hI w3 w4 v1).elim
        · have er := g_blk hI w3 w4 w5 w6 w7 w8 v3 v4 v5 v6 v7 v8
          have w1 := w1.symm
          subst w1
          have v2 := v2.symm
          subst v2
          refine lv_istore (lv' := [(6, .int r2), (5, .int 0), (4, .int x4), (0, .ref b), (1, .ref h0), (2, .ref a1), (3, .ref qo)]) hx hb dL_law_360 hl (by decide) rfl (fun ls hl => ?_)
          refine lv_aload_n hx hb dL_law_362 rfl (lv_at hl 5 rfl) ?_
          have hPc := hP.sub (ws' := [(a1, .inr (1, [.ref q1, .ref q2, .ref q3, .int nx, .int (nI u), .int ed, .int 0, .int ek])), (q1, .inl (cU, 64, .inl fU)), (q2, .inl (cV, 64, .inl fB)), (q3, .inl (cZ, 64, .inl fH))]) [2, 3, 4, 5] rfl
          have hDc := hD.sub (ws' := [(a1, .inr (1, [.ref q1, .ref q2, .ref q3, .int nx, .int (nI u), .int ed, .int 0, .int ek])), (q1, .inl (cU, 64, .inl fU)), (q2, .inl (cV, 64, .inl fB)), (q3, .inl (cZ, 64, .inl fH))]) [2, 3, 4, 5] (by decide) rfl
          have hKc := hK.sub (tys' := [(cU, .int), (cV, .int), (cZ, .boolean)]) [1, 2, 3] rfl
          have hFc := va_free (wc := [(a1, .inr (1, [.ref q1, .ref q2, .ref q3, .int nx, .int (nI u), .int ed, .int 0, .int ek])), (q1, .inl (cU, 64, .inl fU)), (q2, .inl (cV, 64, .inl fB)), (q3, .inl (cZ, 64, .inl fH))]) hD hS hA [2, 3, 4, 5] rfl
          refine va_calli (va_runV (As := []) (rest := []) ⟨hx, hb, hml, hown, hts1⟩ (m_thrown l dC dI a1 q1 q2 q3 cU cV cZ nx (nI u) ed 0 ek fU fB fH H.size ) (cwV 0 hts1 gL_law_X1_thrown rfl rfl rfl (by decide +kernel) ⟨Nat.le_of_ble_eq_true rfl, Nat.le_of_ble_eq_true rfl⟩) ⟨fun a U g mk q => by obtain ⟨q0, q1, qP, qK, qD⟩ := q; exact ⟨q0, q1, qP, va_K.moved (u := U) (U := U.calling g mk a) (Vm.Alike.refl U.vm) qK, qD⟩, va_recv hKc hPc (ci := 1) (q0 := 0) rfl rfl, fun U hU hW => ⟨rfl, by rw [hU], by rw [hU]; exact hPc, va_K.moved hW.alike hKc, hDc.weaken (fun _ _ _ _ => trivial)⟩⟩ rfl rfl hl.1 rfl (lv_room (Nat.le_of_ble_eq_true rfl)) dL_law_363 ⟨(show _ ≤ 1034 by omega), (show _ ≤ 8481 by omega)⟩) hS (fun q _ h => hFc q h) hFc (fun r_10 uv tS H1 locs ht hvm hw_11 hB hz1 hk1 hS => ?_)
          obtain ⟨hP1, hK1, hD1⟩ := hB
          rw [ht] at hP1
          have hK1 := va_K.moved hvm.symm hK1
          try dsimp only at hw_11
          obtain ⟨hP, hD⟩ := va_join (wr := [(h0, .inr (0, [.ref qb, .long kb, .int nx, .int (nI u), .int ek, .int en])), (qb, .inl (cB, 64, .inl fb)), (qo, .inl (cO, 1, .inr (.inl o7)))]) (w1 := [(a1, .inr (1, [.ref q1, .ref q2, .ref q3, .int nx, .int (nI u), .int ed, .int 0, .int ek])), (q1, .inl (cU, 64, .inl fU)), (q2, .inl (cV, 64, .inl fB)), (q3, .inl (cZ, 64, .inl fH))]) hP hD [2, 3, 4, 5] [0, 1, 6] rfl rfl (by decide) (by decide) hk1 hFc hP1 hD1
          generalize H1 = H at hP hS ⊢
          have hP := hP.sub (ws' := [(h0, .inr (0, [.ref qb, .long kb, .int nx, .int (nI u), .int ek, .int en])), (qb, .inl (cB, 64, .inl fb)), (a1, .inr (1, [.ref q1, .ref q2, .ref q3, .int nx, .int (nI u), .int ed, .int 0, .int ek])), (q1, .inl (cU, 64, .inl fU)), (q2, .inl (cV, 64, .inl fB)), (q3, .inl (cZ, 64, .inl fH)), (qo, .inl (cO, 1, .inr (.inl o7)))]) [0, 1, 3, 4, 5, 6, 2] rfl
          have hD := hD.sub (ws' := [(h0, .inr (0, [.ref qb, .long kb, .int nx, .int (nI u), .int ek, .int en])), (qb, .inl (cB, 64, .inl fb)), (a1, .inr (1, [.ref q1, .ref q2, .ref q3, .int nx, .int (nI u), .int ed, .int 0, .int ek])), (q1, .inl (cU, 64, .inl fU)), (q2, .inl (cV, 64, .inl fB)), (q3, .inl (cZ, 64, .inl fH)), (qo, .inl (cO, 1, .inr (.inl o7)))]) [0, 1, 3, 4, 5, 6, 2] (by decide) rfl
          subst hw_11
          refine lv_iload hx hb dL_law_366 (lv_at hl 1 rfl) ?_
          refine lv_icmp_eq (tgt := 373) hx hb dL_law_368 (by decide) (fun c_368 => ?_) (fun c_368 => ?_)
          · refine lv_iload hx hb dL_law_373 (lv_at hl 1 rfl) ?_
            refine lv_if_ne (tgt := 390) hx hb dL_law_375 (by decide) (fun c_375 => ?_) (fun c_375 => ?_)
            · exact absurd rfl c_375
            · refine lv_aload_n hx hb dL_law_378 rfl (lv_at hl 6 rfl) ?_
              refine lv_iconst (v := 0) hx hb dL_law_379 (by decide) ?_
              refine va_lald hx hb hK hP 6 4 rfl rfl inb1_0 dL_law_380 ?_
              refine lv_iload hx hb dL_law_381 (lv_at hl 0 rfl) ?_
              refine lv_i2l (v := r2.toInt64) hx hb dL_law_383 rfl ?_
              refine W.lcmp hx hb dL_law_384 ?_
              refine lv_if_eq (tgt := 390) hx hb dL_law_385 (by decide) (fun c_385 => ?_) (fun c_385 => ?_)
              · refine lv_goto (tgt := 418) hx hb dL_law_390 (by decide) ?_
                obtain ⟨x_12, ex_12⟩ : ∃ y : Int32, y = x4 + 5 := ⟨_, rfl⟩
                refine lv_iinc (v := x_12) (lv' := [(4, .int x_12), (6, .int r2), (5, .int 0), (0, .ref b), (1, .ref h0), (2, .ref a1), (3, .ref qo)]) hx hb dL_law_418 hl (k := 2) rfl (by rw [ex_12]; rfl) (by decide) rfl (fun ls hl => ?_)
                refine lv_goto (tgt := 23) hx hb dL_law_421 (by decide) ?_
                refine W.widen (k := 7 + (t + 1)) (n := 271 + 6 * (t + 1)) (by omega) (by omega) ?_
                exact ih x_12 kb nx ek en ed 0 bs u e9 S fb fU fB fH o7 (x4_up h4 ex_12) hI H _ ls hP hD hS (lv_sub hl [0, 3, 4, 5, 6] rfl)
              · exact absurd (lcmp_eq (by rw [cl_0, w2, er])) c_385
          · exact absurd rfl c_368
