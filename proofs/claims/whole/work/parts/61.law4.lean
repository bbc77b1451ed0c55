theorem told_nt {n : Int32} (h : n.toInt < 0 ∨ 5 < n.toInt) (h2 : n = 0 ∨ n = 1 ∨ n = 2 ∨ n = 3 ∨ n = 4 ∨ n = 5) : False := by
  rcases h2 with z | z | z | z | z | z <;> rw [z] at h <;> exact absurd h (by decide)
set_option maxHeartbeats 4000000 in
set_option maxRecDepth 100000 in
theorem law_4 {p : Program} {l : Launch} {e : Env} {s : State} {m : MethodId} {below : List Frame} {meth : Method} {c : Code} {dC : Nat → ClassId} {dI : Nat → Nat → Nat} {b h0 qb a1 q1 q2 q3 qo : Nat} {cB cU cV cZ cO : ClassId} {L : Nat} {xs : Nat → Int32} (hst : l.stackTraces = false) (C0 : lw_At p s m meth c b L xs) (hZ : thr (fun q : Nat => s.heap.size ≤ q) s s.heap) (hK : va_K (dC, dI) vwCl [(cB, .byte), (cU, .int), (cV, .int), (cZ, .boolean), (cO, .long)] s) {t : Nat} (ht5 : t < 512) (hLt : 5 * t + 5 ≤ L) (hL : L ≤ 2560) (ih : LawAt p l e s m below meth c dC dI b h0 qb a1 q1 q2 q3 qo cB cU cV cZ cO (t + 1)) (x4 : Int32) (kb : Int64) (nx ek en ed th bs : Int32) (u e9 : Nat) (S : aS) (fb fU fB fH : Nat → Int32) (fo : Nat → Int64) (h4 : x4 = nI (5 * t)) (hI : INV nx ek en ed kb fb fU fB fH bs u e9 S) (H : Heap) (locs : List Loc) (ls : Array Slot) (hP : va_P (dC, dI) vwCl [(h0, .inr (0, [.ref qb, .long kb, .int nx, .int (nI u), .int ek, .int en])), (qb, .inl (cB, 64, .inl fb)), (a1, .inr (1, [.ref q1, .ref q2, .ref q3, .int nx, .int (nI u), .int ed, .int th, .int ek])), (q1, .inl (cU, 64, .inl fU)), (q2, .inl (cV, 64, .inl fB)), (q3, .inl (cZ, 64, .inl fH)), (qo, .inl (cO, 1, .inr (.inl fo)))] H) (hD : va_D (fun q : Nat => s.heap.size ≤ q) [(h0, .inr (0, [.ref qb, .long kb, .int nx, .int (nI u), .int ek, .int en])), (qb, .inl (cB, 64, .inl fb)), (a1, .inr (1, [.ref q1, .ref q2, .ref q3, .int nx, .int (nI u), .int ed, .int th, .int ek])), (q1, .inl (cU, 64, .inl fU)), (q2, .inl (cV, 64, .inl fB)), (q3, .inl (cZ, 64, .inl fH)), (qo, .inl (cO, 1, .inr (.inl fo)))]) (hS : va_S (fun q : Nat => s.heap.size ≤ q) s.heap H locs) (hl : lv_has ls 7 [(4, .int x4), (0, .ref b), (1, .ref h0), (2, .ref a1), (3, .ref qo)]) : W p l e room_1 s m #[Value.ref b] below meth c H locs (7 + t) (271 + 6 * t) (lw_Z below #[Value.ref b] s) (F0 m 253 ls []) := by
  obtain ⟨hx, hb, hr, hml, hown0, hts, hX, hbl, hlocks, hgv⟩ := C0
  have hown : s.vm.findClass RL = some m.cls := hown0
  have hA : ∀ q : Nat, s.heap.size ≤ q → (fun q : Nat => s.heap.size ≤ q) q := fun _ h => h
  have hbA : ¬ (fun q : Nat => s.heap.size ≤ q) b := Nat.not_le.mpr hbl
  have hts1 : ∀ w ∈ wsL_law, w.before #[Value.ref b] s = true := fun w h => hts w (wsL_law_in w h)
  have hts2 : ∀ w ∈ wsL_m, w.before #[Value.ref b] s = true := fun w h => hts w (wsL_m_in w h)
  refine lv_aload_n hx hb dL_law_253 rfl (lv_at hl 2 rfl) ?_
  refine lv_aload_n hx hb dL_law_254 rfl (lv_at hl 1 rfl) ?_
  refine lv_iload hx hb dL_law_255 (lv_at hl 0 rfl) ?_
  refine lv_iconst (v := 1) hx hb dL_law_257 (by decide) ?_
  refine lv_iadd hx hb dL_law_258 ?_
  refine va_sld hx hb hX hbl hbA hS (ld_in (k := 1) h4 (by omega) hL) dL_law_259 ?_
  refine lv_aload_n hx hb dL_law_260 rfl (lv_at hl 4 rfl) ?_
  have hPc := hP.sub (ws' := [(h0, .inr (0, [.ref qb, .long kb, .int nx, .int (nI u), .int ek, .int en])), (qb, .inl (cB, 64, .inl fb)), (qo, .inl (cO, 1, .inr (.inl fo)))]) [0, 1, 6] rfl
  have hDc := hD.sub (ws' := [(h0, .inr (0, [.ref qb, .long kb, .int nx, .int (nI u), .int ek, .int en])), (qb, .inl (cB, 64, .inl fb)), (qo, .inl (cO, 1, .inr (.inl fo)))]) [0, 1, 6] (by decide) rfl
  have hKc := hK.sub (tys' := [(cB, .byte), (cO, .long)]) [0, 4] rfl
  have hFc := va_free (wc := [(h0, .inr (0, [.ref qb, .long kb, .int nx, .int (nI u), .int ek, .int en])), (qb, .inl (cB, 64, .inl fb)), (qo, .inl (cO, 1, .inr (.inl fo)))]) hD hS hA [0, 1, 6] rfl
  refine va_calli (vx_runSW (As := [.ref h0, .int (xs (x4 + 1).toNatClampNeg), .ref qo]) (rest := []) ⟨hx, hb, hml, hown, hts1⟩ (h_told l hst dC dI h0 qb cB kb nx (nI u) ek en fb qo cO fo (xs (x4 + 1).toNatClampNeg) H.size ) (vx_cwSW 3 hts1 gL_law_L_told rfl rfl rfl (by decide +kernel) ⟨Nat.le_of_ble_eq_true rfl, Nat.le_of_ble_eq_true rfl⟩) ⟨fun a U g mk q => by obtain ⟨q0, q1, qP, qK, qD, qZ⟩ := q; exact ⟨q0, q1, qP, va_K.moved (u := U) (U := U.calling g mk a) (Vm.Alike.refl U.vm) qK, qD, thr_blind qZ⟩, fun U hU hW => ⟨rfl, by rw [hU], by rw [hU]; exact hPc, va_K.moved hW.alike hKc, hDc.weaken (fun _ _ _ _ => trivial), thr_call hZ hS hFc hU hW⟩⟩ rfl rfl hl.1 rfl (lv_room (Nat.le_of_ble_eq_true rfl)) dL_law_261 ⟨(show _ ≤ 1034 by omega), (show _ ≤ 8481 by omega)⟩) hS (fun q _ h => hFc q h) hFc (fun r1 uv tS H1 locs ht hvm hw1 hB hz1 hk1 hS => ?_)
  obtain ⟨o7, rfl⟩ : ∃ z, z = uv := ⟨_, rfl⟩
  obtain ⟨hP1, hK1, hD1⟩ := hB
  rw [ht] at hP1
  have hK1 := va_K.moved hvm.symm hK1
  try dsimp only at hw1
  obtain ⟨hP, hD⟩ := va_join (wr := [(a1, .inr (1, [.ref q1, .ref q2, .ref q3, .int nx, .int (nI u), .int ed, .int th, .int ek])), (q1, .inl (cU, 64, .inl fU)), (q2, .inl (cV, 64, .inl fB)), (q3, .inl (cZ, 64, .inl fH))]) (w1 := [(h0, .inr (0, [.ref qb, .long kb, .int nx, .int (nI u), .int ek, .int en])), (qb, .inl (cB, 64, .inl fb)), (qo, .inl (cO, 1, .inr (.inl o7)))]) hP hD [0, 1, 6] [2, 3, 4, 5] rfl rfl (by decide) (by decide) hk1 hFc hP1 hD1
  generalize H1 = H at hP hS ⊢
  have hP := hP.sub (ws' := [(h0, .inr (0, [.ref qb, .long kb, .int nx, .int (nI u), .int ek, .int en])), (qb, .inl (cB, 64, .inl fb)), (a1, .inr (1, [.ref q1, .ref q2, .ref q3, .int nx, .int (nI u), .int ed, .int th, .int ek])), (q1, .inl (cU, 64, .inl fU)), (q2, .inl (cV, 64, .inl fB)), (q3, .inl (cZ, 64, .inl fH)), (qo, .inl (cO, 1, .inr (.inl o7)))]) [4, 5, 0, 1, 2, 3, 6] rfl
  have hD := hD.sub (ws' := [(h0, .inr (0, [.ref qb, .long kb, .int nx, .int (nI u), .int ek, .int en])), (qb, .inl (cB, 64, .inl fb)), (a1, .inr (1, [.ref q1, .ref q2, .ref q3, .int nx, .int (nI u), .int ed, .int th, .int ek])), (q1, .inl (cU, 64, .inl fU)), (q2, .inl (cV, 64, .inl fB)), (q3, .inl (cZ, 64, .inl fH)), (qo, .inl (cO, 1, .inr (.inl o7)))]) [4, 5, 0, 1, 2, 3, 6] (by decide) rfl
  refine lv_istore (lv' := [(5, .int r1), (4, .int x4), (0, .ref b), (1, .ref h0), (2, .ref a1), (3, .ref qo)]) hx hb dL_law_264 hl (by decide) rfl (fun ls hl => ?_)
  refine lv_aload_n hx hb dL_law_266 rfl (lv_at hl 4 rfl) ?_
  refine lv_aload_n hx hb dL_law_267 rfl (lv_at hl 2 rfl) ?_
  refine lv_iload hx hb dL_law_268 (lv_at hl 1 rfl) ?_
  refine lv_iconst (v := 1) hx hb dL_law_270 (by decide) ?_
  refine lv_iadd hx hb dL_law_271 ?_
  refine va_sld hx hb hX hbl hbA hS (ld_in (k := 1) h4 (by omega) hL) dL_law_272 ?_
  have hPc := hP.sub (ws' := [(a1, .inr (1, [.ref q1, .ref q2, .ref q3, .int nx, .int (nI u), .int ed, .int th, .int ek])), (q1, .inl (cU, 64, .inl fU)), (q2, .inl (cV, 64, .inl fB)), (q3, .inl (cZ, 64, .inl fH))]) [2, 3, 4, 5] rfl
  have hDc := hD.sub (ws' := [(a1, .inr (1, [.ref q1, .ref q2, .ref q3, .int nx, .int (nI u), .int ed, .int th, .int ek])), (q1, .inl (cU, 64, .inl fU)), (q2, .inl (cV, 64, .inl fB)), (q3, .inl (cZ, 64, .inl fH))]) [2, 3, 4, 5] (by decide) rfl
  have hKc := hK.sub (tys' := [(cU, .int), (cV, .int), (cZ, .boolean)]) [1, 2, 3] rfl
  have hFc := va_free (wc := [(a1, .inr (1, [.ref q1, .ref q2, .ref q3, .int nx, .int (nI u), .int ed, .int th, .int ek])), (q1, .inl (cU, 64, .inl fU)), (q2, .inl (cV, 64, .inl fB)), (q3, .inl (cZ, 64, .inl fH))]) hD hS hA [2, 3, 4, 5] rfl
  refine va_calli (va_runV (As := [.int (xs (x4 + 1).toNatClampNeg)]) (rest := []) ⟨hx, hb, hml, hown, hts2⟩ (m_told l dC dI a1 q1 q2 q3 cU cV cZ nx (nI u) ed th ek fU fB fH (xs (x4 + 1).toNatClampNeg) H.size ) (cwV 1 hts2 gL_m_X1_told rfl rfl rfl (by decide +kernel) ⟨Nat.le_of_ble_eq_true rfl, Nat.le_of_ble_eq_true rfl⟩) ⟨fun a U g mk q => by obtain ⟨q0, q1, qP, qK, qD⟩ := q; exact ⟨q0, q1, qP, va_K.moved (u := U) (U := U.calling g mk a) (Vm.Alike.refl U.vm) qK, qD⟩, va_recv hKc hPc (ci := 1) (q0 := 0) rfl rfl, fun U hU hW => ⟨rfl, by rw [hU], by rw [hU]; exact hPc, va_K.moved hW.alike hKc, hDc.weaken (fun _ _ _ _ => trivial)⟩⟩ rfl rfl hl.1 rfl (lv_room (Nat.le_of_ble_eq_true rfl)) dL_law_273 ⟨(show _ ≤ 1034 by omega), (show _ ≤ 8481 by omega)⟩) hS (fun q _ h => hFc q h) hFc (fun r2 uv tS H1 locs ht hvm hw2 hB hz1 hk1 hS => ?_)
  obtain ⟨t8, rfl⟩ : ∃ z, z = uv := ⟨_, rfl⟩
  obtain ⟨hP1, hK1, hD1⟩ := hB
  rw [ht] at hP1
  have hK1 := va_K.moved hvm.symm hK1
  try dsimp only at hw2
  obtain ⟨hP, hD⟩ := va_join (wr := [(h0, .inr (0, [.ref qb, .long kb, .int nx, .int (nI u), .int ek, .int en])), (qb, .inl (cB, 64, .inl fb)), (qo, .inl (cO, 1, .inr (.inl o7)))]) (w1 := [(a1, .inr (1, [.ref q1, .ref q2, .ref q3, .int nx, .int (nI u), .int ed, .int t8, .int ek])), (q1, .inl (cU, 64, .inl fU)), (q2, .inl (cV, 64, .inl fB)), (q3, .inl (cZ, 64, .inl fH))]) hP hD [2, 3, 4, 5] [0, 1, 6] rfl rfl (by decide) (by decide) hk1 hFc hP1 hD1
  generalize H1 = H at hP hS ⊢
  have hP := hP.sub (ws' := [(h0, .inr (0, [.ref qb, .long kb, .int nx, .int (nI u), .int ek, .int en])), (qb, .inl (cB, 64, .inl fb)), (a1, .inr (1, [.ref q1, .ref q2, .ref q3, .int nx, .int (nI u), .int ed, .int t8, .int ek])), (q1, .inl (cU, 64, .inl fU)), (q2, .inl (cV, 64, .inl fB)), (q3, .inl (cZ, 64, .inl fH)), (qo, .inl (cO, 1, .inr (.inl o7)))]) [0, 1, 3, 4, 5, 6, 2] rfl
  have hD := hD.sub (ws' := [(h0, .inr (0, [.ref qb, .long kb, .int nx, .int (nI u), .int ek, .int en])), (qb, .inl (cB, 64, .inl fb)), (a1, .inr (1, [.ref q1, .ref q2, .ref q3, .int nx, .int (nI u), .int ed, .int t8, .int ek])), (q1, .inl (cU, 64, .inl fU)), (q2, .inl (cV, 64, .inl fB)), (q3, .inl (cZ, 64, .inl fH)), (qo, .inl (cO, 1, .inr (.inl o7)))]) [0, 1, 3, 4, 5, 6, 2] (by decide) rfl
  rcases hw1 with ⟨w1, w2⟩ | ⟨w1, r9, w2, w3⟩
  · rcases hw2 with ⟨v1, v2⟩ | ⟨v2, v1⟩
    · have w1 := w1.symm
      subst w1
      have v2 := v2.symm
      subst v2
      refine lv_istore (lv' := [(6, .int r2), (5, .int 1), (4, .int x4), (0, .ref b), (1, .ref h0), (2, .ref a1), (3, .ref qo)]) hx hb dL_law_276 hl (by decide) rfl (fun ls hl => ?_)
      refine lv_aload_n hx hb dL_law_278 rfl (lv_at hl 5 rfl) ?_
      have hPc := hP.sub (ws' := [(a1, .inr (1, [.ref q1, .ref q2, .ref q3, .int nx, .int (nI u), .int ed, .int 1, .int ek])), (q1, .inl (cU, 64, .inl fU)), (q2, .inl (cV, 64, .inl fB)), (q3, .inl (cZ, 64, .inl fH))]) [2, 3, 4, 5] rfl
      have hDc := hD.sub (ws' := [(a1, .inr (1, [.ref q1, .ref q2, .ref q3, .int nx, .int (nI u), .int ed, .int 1, .int ek])), (q1, .inl (cU, 64, .inl fU)), (q2, .inl (cV, 64, .inl fB)), (q3, .inl (cZ, 64, .inl fH))]) [2, 3, 4, 5] (by decide) rfl
      have hKc := hK.sub (tys' := [(cU, .int), (cV, .int), (cZ, .boolean)]) [1, 2, 3] rfl
      have hFc := va_free (wc := [(a1, .inr (1, [.ref q1, .ref q2, .ref q3, .int nx, .int (nI u), .int ed, .int 1, .int ek])), (q1, .inl (cU, 64, .inl fU)), (q2, .inl (cV, 64, .inl fB)), (q3, .inl (cZ, 64, .inl fH))]) hD hS hA [2, 3, 4, 5] rfl
      refine va_calli (va_runV (As := []) (rest := []) ⟨hx, hb, hml, hown, hts1⟩ (m_thrown l dC dI a1 q1 q2 q3 cU cV cZ nx (nI u) ed 1 ek fU fB fH H.size ) (cwV 0 hts1 gL_law_X1_thrown rfl rfl rfl (by decide +kernel) ⟨Nat.le_of_ble_eq_true rfl, Nat.le_of_ble_eq_true rfl⟩) ⟨fun a U g mk q => by obtain ⟨q0, q1, qP, qK, qD⟩ := q; exact ⟨q0, q1, qP, va_K.moved (u := U) (U := U.calling g mk a) (Vm.Alike.refl U.vm) qK, qD⟩, va_recv hKc hPc (ci := 1) (q0 := 0) rfl rfl, fun U hU hW => ⟨rfl, by rw [hU], by rw [hU]; exact hPc, va_K.moved hW.alike hKc, hDc.weaken (fun _ _ _ _ => trivial)⟩⟩ rfl rfl hl.1 rfl (lv_room (Nat.le_of_ble_eq_true rfl)) dL_law_279 ⟨(show _ ≤ 1034 by omega), (show _ ≤ 8481 by omega)⟩) hS (fun q _ h => hFc q h) hFc (fun r_1 uv tS H1 locs ht hvm hw_2 hB hz1 hk1 hS => ?_)
      obtain ⟨hP1, hK1, hD1⟩ := hB
      rw [ht] at hP1
      have hK1 := va_K.moved hvm.symm hK1
      try dsimp only at hw_2
      obtain ⟨hP, hD⟩ := va_join (wr := [(h0, .inr (0, [.ref qb, .long kb, .int nx, .int (nI u), .int ek, .int en])), (qb, .inl (cB, 64, .inl fb)), (qo, .inl (cO, 1, .inr (.inl o7)))]) (w1 := [(a1, .inr (1, [.ref q1, .ref q2, .ref q3, .int nx, .int (nI u), .int ed, .int 1, .int ek])), (q1, .inl (cU, 64, .inl fU)), (q2, .inl (cV, 64, .inl fB)), (q3, .inl (cZ, 64, .inl fH))]) hP hD [2, 3, 4, 5] [0, 1, 6] rfl rfl (by decide) (by decide) hk1 hFc hP1 hD1
      generalize H1 = H at hP hS ⊢
      have hP := hP.sub (ws' := [(h0, .inr (0, [.ref qb, .long kb, .int nx, .int (nI u), .int ek, .int en])), (qb, .inl (cB, 64, .inl fb)), (a1, .inr (1, [.ref q1, .ref q2, .ref q3, .int nx, .int (nI u), .int ed, .int 1, .int ek])), (q1, .inl (cU, 64, .inl fU)), (q2, .inl (cV, 64, .inl fB)), (q3, .inl (cZ, 64, .inl fH)), (qo, .inl (cO, 1, .inr (.inl o7)))]) [0, 1, 3, 4, 5, 6, 2] rfl
      have hD := hD.sub (ws' := [(h0, .inr (0, [.ref qb, .long kb, .int nx, .int (nI u), .int ek, .int en])), (qb, .inl (cB, 64, .inl fb)), (a1, .inr (1, [.ref q1, .ref q2, .ref q3, .int nx, .int (nI u), .int ed, .int 1, .int ek])), (q1, .inl (cU, 64, .inl fU)), (q2, .inl (cV, 64, .inl fB)), (q3, .inl (cZ, 64, .inl fH)), (qo, .inl (cO, 1, .inr (.inl o7)))]) [0, 1, 3, 4, 5, 6, 2] (by decide) rfl
      subst hw_2
      refine lv_iload hx hb dL_law_282 (lv_at hl 1 rfl) ?_
      refine lv_icmp_eq (tgt := 289) hx hb dL_law_284 (by decide) (fun c_284 => ?_) (fun c_284 => ?_)
      · refine lv_iload hx hb dL_law_289 (lv_at hl 1 rfl) ?_
        refine lv_if_ne (tgt := 306) hx hb dL_law_291 (by decide) (fun c_291 => ?_) (fun c_291 => ?_)
        · refine lv_goto (tgt := 418) hx hb dL_law_306 (by decide) ?_
          obtain ⟨x_3, ex_3⟩ : ∃ y : Int32, y = x4 + 5 := ⟨_, rfl⟩
          refine lv_iinc (v := x_3) (lv' := [(4, .int x_3), (6, .int r2), (5, .int 1), (0, .ref b), (1, .ref h0), (2, .ref a1), (3, .ref qo)]) hx hb dL_law_418 hl (k := 2) rfl (by rw [ex_3]; rfl) (by decide) rfl (fun ls hl => ?_)
          refine lv_goto (tgt := 23) hx hb dL_law_421 (by decide) ?_
          refine W.widen (k := 7 + (t + 1)) (n := 271 + 6 * (t + 1)) (by omega) (by omega) ?_
          exact ih x_3 kb nx ek en ed 1 bs u e9 S fb fU fB fH o7 (x4_up h4 ex_3) hI H _ ls hP hD hS (lv_sub hl [0, 3, 4, 5, 6] rfl)
        · exact absurd c_291 (by decide)
      · exact absurd rfl c_284
    · exact (told_nt w2 (v1.imp (fun z => z.1) (fun z => z.imp (fun z => z.1) (fun z => z.imp (fun z => z.1) (fun z => z.imp (fun z => z.1) (fun z => z.imp (fun z => z.1) (fun z => z.1))))))).elim
  · rcases hw2 with ⟨v1, v2⟩ | ⟨v2, v1⟩
    · exact (told_nt (lt_ti.mp v1) (w3.imp (fun z => z.1) (fun z => z.imp (fun z => z.1) (fun z => z.imp (fun z => z.1) (fun z => z.imp (fun z => z.1) (fun z => z.imp (fun z => z.1) (fun z => z.1))))))).elim
    · have er := g_told hI w3 v1
      have w1 := w1.symm
      subst w1
      have v2 := v2.symm
      subst v2
      refine lv_istore (lv' := [(6, .int r2), (5, .int 0), (4, .int x4), (0, .ref b), (1, .ref h0), (2, .ref a1), (3, .ref qo)]) hx hb dL_law_276 hl (by decide) rfl (fun ls hl => ?_)
      refine lv_aload_n hx hb dL_law_278 rfl (lv_at hl 5 rfl) ?_
      have hPc := hP.sub (ws' := [(a1, .inr (1, [.ref q1, .ref q2, .ref q3, .int nx, .int (nI u), .int ed, .int 0, .int ek])), (q1, .inl (cU, 64, .inl fU)), (q2, .inl (cV, 64, .inl fB)), (q3, .inl (cZ, 64, .inl fH))]) [2, 3, 4, 5] rfl
      have hDc := hD.sub (ws' := [(a1, .inr (1, [.ref q1, .ref q2, .ref q3, .int nx, .int (nI u), .int ed, .int 0, .int ek])), (q1, .inl (cU, 64, .inl fU)), (q2, .inl (cV, 64, .inl fB)), (q3, .inl (cZ, 64, .inl fH))]) [2, 3, 4, 5] (by decide) rfl
      have hKc := hK.sub (tys' := [(cU, .int), (cV, .int), (cZ, .boolean)]) [1, 2, 3] rfl
      have hFc := va_free (wc := [(a1, .inr (1, [.ref q1, .ref q2, .ref q3, .int nx, .int (nI u), .int ed, .int 0, .int ek])), (q1, .inl (cU, 64, .inl fU)), (q2, .inl (cV, 64, .inl fB)), (q3, .inl (cZ, 64, .inl fH))]) hD hS hA [2, 3, 4, 5] rfl
      refine va_calli (va_runV (As := []) (rest := []) ⟨hx, hb, hml, hown, hts1⟩ (m_thrown l dC dI a1 q1 q2 q3 cU cV cZ nx (nI u) ed 0 ek fU fB fH H.size ) (cwV 0 hts1 gL_law_X1_thrown rfl rfl rfl (by decide +kernel) ⟨Nat.le_of_ble_eq_true rfl, Nat.le_of_ble_eq_true rfl⟩) ⟨fun a U g mk q => by obtain ⟨q0, q1, qP, qK, qD⟩ := q; exact ⟨q0, q1, qP, va_K.moved (u := U) (U := U.calling g mk a) (Vm.Alike.refl U.vm) qK, qD⟩, va_recv hKc hPc (ci := 1) (q0 := 0) rfl rfl, fun U hU hW => ⟨rfl, by rw [hU], by rw [hU]; exact hPc, va_K.moved hW.alike hKc, hDc.weaken (fun _ _ _ _ => trivial)⟩⟩ rfl rfl hl.1 rfl (lv_room (Nat.le_of_ble_eq_true rfl)) dL_law_279 ⟨(show _ ≤ 1034 by omega), (show _ ≤ 8481 by omega)⟩) hS (fun q _ h => hFc q h) hFc (fun r_4 uv tS H1 locs ht hvm hw_5 hB hz1 hk1 hS => ?_)
      obtain ⟨hP1, hK1, hD1⟩ := hB
      rw [ht] at hP1
      have hK1 := va_K.moved hvm.symm hK1
      try dsimp only at hw_5
      obtain ⟨hP, hD⟩ := va_join (wr := [(h0, .inr (0, [.ref qb, .long kb, .int nx, .int (nI u), .int ek, .int en])), (qb, .inl (cB, 64, .inl fb)), (qo, .inl (cO, 1, .inr (.inl o7)))]) (w1 := [(a1, .inr (1, [.ref q1, .ref q2, .ref q3, .int nx, .int (nI u), .int ed, .int 0, .int ek])), (q1, .inl (cU, 64, .inl fU)), (q2, .inl (cV, 64, .inl fB)), (q3, .inl (cZ, 64, .inl fH))]) hP hD [2, 3, 4, 5] [0, 1, 6] rfl rfl (by decide) (by decide) hk1 hFc hP1 hD1
      generalize H1 = H at hP hS ⊢
      have hP := hP.sub (ws' := [(h0, .inr (0, [.ref qb, .long kb, .int nx, .int (nI u), .int ek, .int en])), (qb, .inl (cB, 64, .inl fb)), (a1, .inr (1, [.ref q1, .ref q2, .ref q3, .int nx, .int (nI u), .int ed, .int 0, .int ek])), (q1, .inl (cU, 64, .inl fU)), (q2, .inl (cV, 64, .inl fB)), (q3, .inl (cZ, 64, .inl fH)), (qo, .inl (cO, 1, .inr (.inl o7)))]) [0, 1, 3, 4, 5, 6, 2] rfl
      have hD := hD.sub (ws' := [(h0, .inr (0, [.ref qb, .long kb, .int nx, .int (nI u), .int ek, .int en])), (qb, .inl (cB, 64, .inl fb)), (a1, .inr (1, [.ref q1, .ref q2, .ref q3, .int nx, .int (nI u), .int ed, .int 0, .int ek])), (q1, .inl (cU, 64, .inl fU)), (q2, .inl (cV, 64, .inl fB)), (q3, .inl (cZ, 64, .inl fH)), (qo, .inl (cO, 1, .inr (.inl o7)))]) [0, 1, 3, 4, 5, 6, 2] (by decide) rfl
      subst hw_5
      refine lv_iload hx hb dL_law_282 (lv_at hl 1 rfl) ?_
      refine lv_icmp_eq (tgt := 289) hx hb dL_law_284 (by decide) (fun c_284 => ?_) (fun c_284 => ?_)
      · refine lv_iload hx hb dL_law_289 (lv_at hl 1 rfl) ?_
        refine lv_if_ne (tgt := 306) hx hb dL_law_291 (by decide) (fun c_291 => ?_) (fun c_291 => ?_)
        · exact absurd rfl c_291
        · refine lv_aload_n hx hb dL_law_294 rfl (lv_at hl 6 rfl) ?_
          refine lv_iconst (v := 0) hx hb dL_law_295 (by decide) ?_
          refine va_lald hx hb hK hP 6 4 rfl rfl inb1_0 dL_law_296 ?_
          refine lv_iload hx hb dL_law_297 (lv_at hl 0 rfl) ?_
          refine lv_i2l (v := r2.toInt64) hx hb dL_law_299 rfl ?_
          refine W.lcmp hx hb dL_law_300 ?_
          refine lv_if_eq (tgt := 306) hx hb dL_law_301 (by decide) (fun c_301 => ?_) (fun c_301 => ?_)
          · refine lv_goto (tgt := 418) hx hb dL_law_306 (by decide) ?_
            obtain ⟨x_6, ex_6⟩ : ∃ y : Int32, y = x4 + 5 := ⟨_, rfl⟩
            refine lv_iinc (v := x_6) (lv' := [(4, .int x_6), (6, .int r2), (5, .int 0), (0, .ref b), (1, .ref h0), (2, .ref a1), (3, .ref qo)]) hx hb dL_law_418 hl (k := 2) rfl (by rw [ex_6]; rfl) (by decide) rfl (fun ls hl => ?_)
            refine lv_goto (tgt := 23) hx hb dL_law_421 (by decide) ?_
            refine W.widen (k := 7 + (t + 1)) (n := 271 + 6 * (t + 1)) (by omega) (by omega) ?_
            exact ih x_6 kb nx ek en ed 0 bs u e9 S fb fU fB fH o7 (x4_up h4 ex_6) hI H _ ls hP hD hS (lv_sub hl [0, 3, 4, 5, 6] rfl)
          · exact absurd (lcmp_eq (by rw [cl_0, w2, er])) c_301
      · exact absurd rfl c_284
