set_option maxHeartbeats 4000000 in
set_option maxRecDepth 100000 in
theorem law_3 {p : Program} {l : Launch} {e : Env} {s : State} {m : MethodId} {below : List Frame} {meth : Method} {c : Code} {dC : Nat → ClassId} {dI : Nat → Nat → Nat} {b h0 qb a1 q1 q2 q3 qo : Nat} {cB cU cV cZ cO : ClassId} {L : Nat} {xs : Nat → Int32} (hst : l.stackTraces = false) (C0 : lw_At p s m meth c b L xs) (hZ : thr (fun q : Nat => s.heap.size ≤ q) s s.heap) (hK : va_K (dC, dI) vwCl [(cB, .byte), (cU, .int), (cV, .int), (cZ, .boolean), (cO, .long)] s) {t : Nat} (ht5 : t < 512) (hLt : 5 * t + 5 ≤ L) (hL : L ≤ 2560) (ih : LawAt p l e s m below meth c dC dI b h0 qb a1 q1 q2 q3 qo cB cU cV cZ cO (t + 1)) (x4 : Int32) (kb : Int64) (nx ek en ed th bs : Int32) (u e9 : Nat) (S : aS) (fb fU fB fH : Nat → Int32) (fo : Nat → Int64) (h4 : x4 = nI (5 * t)) (hI : INV nx ek en ed kb fb fU fB fH bs u e9 S) (H : Heap) (locs : List Loc) (ls : Array Slot) (hP : va_P (dC, dI) vwCl [(h0, .inr (0, [.ref qb, .long kb, .int nx, .int (nI u), .int ek, .int en])), (qb, .inl (cB, 64, .inl fb)), (a1, .inr (1, [.ref q1, .ref q2, .ref q3, .int nx, .int (nI u), .int ed, .int th, .int ek])), (q1, .inl (cU, 64, .inl fU)), (q2, .inl (cV, 64, .inl fB)), (q3, .inl (cZ, 64, .inl fH)), (qo, .inl (cO, 1, .inr (.inl fo)))] H) (hD : va_D (fun q : Nat => s.heap.size ≤ q) [(h0, .inr (0, [.ref qb, .long kb, .int nx, .int (nI u), .int ek, .int en])), (qb, .inl (cB, 64, .inl fb)), (a1, .inr (1, [.ref q1, .ref q2, .ref q3, .int nx, .int (nI u), .int ed, .int th, .int ek])), (q1, .inl (cU, 64, .inl fU)), (q2, .inl (cV, 64, .inl fB)), (q3, .inl (cZ, 64, .inl fH)), (qo, .inl (cO, 1, .inr (.inl fo)))]) (hS : va_S (fun q : Nat => s.heap.size ≤ q) s.heap H locs) (hl : lv_has ls 7 [(4, .int x4), (0, .ref b), (1, .ref h0), (2, .ref a1), (3, .ref qo)]) : W p l e room_1 s m #[Value.ref b] below meth c H locs (7 + t) (271 + 6 * t) (lw_Z below #[Value.ref b] s) (F0 m 240 ls []) := by
  obtain ⟨hx, hb, hr, hml, hown0, hts, hX, hbl, hlocks, hgv⟩ := C0
  have hown : s.vm.findClass RL = some m.cls := hown0
  have hA : ∀ q : Nat, s.heap.size ≤ q → (fun q : Nat => s.heap.size ≤ q) q := fun _ h => h
  have hbA : ¬ (fun q : Nat => s.heap.size ≤ q) b := Nat.not_le.mpr hbl
  have hts1 : ∀ w ∈ wsL_law, w.before #[Value.ref b] s = true := fun w h => hts w (wsL_law_in w h)
  have hts2 : ∀ w ∈ wsL_m, w.before #[Value.ref b] s = true := fun w h => hts w (wsL_m_in w h)
  have hu4 : u ≤ 64 := hI.2.1.1
  refine lv_aload_n hx hb dL_law_240 rfl (lv_at hl 2 rfl) ?_
  have hPc := hP.sub (ws' := [(h0, .inr (0, [.ref qb, .long kb, .int nx, .int (nI u), .int ek, .int en])), (qb, .inl (cB, 64, .inl fb))]) [0, 1] rfl
  have hDc := hD.sub (ws' := [(h0, .inr (0, [.ref qb, .long kb, .int nx, .int (nI u), .int ek, .int en])), (qb, .inl (cB, 64, .inl fb))]) [0, 1] (by decide) rfl
  have hKc := hK.sub (tys' := [(cB, .byte)]) [0] rfl
  have hFc := va_free (wc := [(h0, .inr (0, [.ref qb, .long kb, .int nx, .int (nI u), .int ek, .int en])), (qb, .inl (cB, 64, .inl fb))]) hD hS hA [0, 1] rfl
  refine va_calli (va_runV (As := []) (rest := []) ⟨hx, hb, hml, hown, hts1⟩ (c_read l dC dI h0 qb cB kb nx (nI u) ek en fb H.size ) (cwV 0 hts1 gL_law_X0_read rfl rfl rfl (by decide +kernel) ⟨Nat.le_of_ble_eq_true rfl, Nat.le_of_ble_eq_true rfl⟩) ⟨fun a U g mk q => by obtain ⟨q0, q1, qP, qK, qD⟩ := q; exact ⟨q0, q1, qP, va_K.moved (u := U) (U := U.calling g mk a) (Vm.Alike.refl U.vm) qK, qD⟩, va_recv hKc hPc (ci := 0) (q0 := 0) rfl rfl, fun U hU hW => ⟨rfl, by rw [hU], by rw [hU]; exact hPc, va_K.moved hW.alike hKc, hDc.weaken (fun _ _ _ _ => trivial)⟩⟩ rfl rfl hl.1 rfl (lv_room (Nat.le_of_ble_eq_true rfl)) dL_law_241 ⟨(show _ ≤ 1034 by omega), (show _ ≤ 8481 by omega)⟩) hS (fun q _ h => hFc q h) hFc (fun r1 uv tS H1 locs ht hvm hw1 hB hz1 hk1 hS => ?_)
  obtain ⟨u7, rfl⟩ : ∃ z, z = uv := ⟨_, rfl⟩
  obtain ⟨hP1, hK1, hD1⟩ := hB
  rw [ht] at hP1
  have hK1 := va_K.moved hvm.symm hK1
  try dsimp only at hw1
  obtain ⟨hP, hD⟩ := va_join (wr := [(a1, .inr (1, [.ref q1, .ref q2, .ref q3, .int nx, .int (nI u), .int ed, .int th, .int ek])), (q1, .inl (cU, 64, .inl fU)), (q2, .inl (cV, 64, .inl fB)), (q3, .inl (cZ, 64, .inl fH)), (qo, .inl (cO, 1, .inr (.inl fo)))]) (w1 := [(h0, .inr (0, [.ref qb, .long kb, .int nx, .int u7, .int ek, .int en])), (qb, .inl (cB, 64, .inl fb))]) hP hD [0, 1] [2, 3, 4, 5, 6] rfl rfl (by decide) (by decide) hk1 hFc hP1 hD1
  generalize H1 = H at hP hS ⊢
  have hP := hP.sub (ws' := [(h0, .inr (0, [.ref qb, .long kb, .int nx, .int u7, .int ek, .int en])), (qb, .inl (cB, 64, .inl fb)), (a1, .inr (1, [.ref q1, .ref q2, .ref q3, .int nx, .int (nI u), .int ed, .int th, .int ek])), (q1, .inl (cU, 64, .inl fU)), (q2, .inl (cV, 64, .inl fB)), (q3, .inl (cZ, 64, .inl fH)), (qo, .inl (cO, 1, .inr (.inl fo)))]) [5, 6, 0, 1, 2, 3, 4] rfl
  have hD := hD.sub (ws' := [(h0, .inr (0, [.ref qb, .long kb, .int nx, .int u7, .int ek, .int en])), (qb, .inl (cB, 64, .inl fb)), (a1, .inr (1, [.ref q1, .ref q2, .ref q3, .int nx, .int (nI u), .int ed, .int th, .int ek])), (q1, .inl (cU, 64, .inl fU)), (q2, .inl (cV, 64, .inl fB)), (q3, .inl (cZ, 64, .inl fH)), (qo, .inl (cO, 1, .inr (.inl fo)))]) [5, 6, 0, 1, 2, 3, 4] (by decide) rfl
  refine lv_aload_n hx hb dL_law_244 rfl (lv_at hl 3 rfl) ?_
  have hPc := hP.sub (ws' := [(a1, .inr (1, [.ref q1, .ref q2, .ref q3, .int nx, .int (nI u), .int ed, .int th, .int ek])), (q1, .inl (cU, 64, .inl fU)), (q2, .inl (cV, 64, .inl fB)), (q3, .inl (cZ, 64, .inl fH))]) [2, 3, 4, 5] rfl
  have hDc := hD.sub (ws' := [(a1, .inr (1, [.ref q1, .ref q2, .ref q3, .int nx, .int (nI u), .int ed, .int th, .int ek])), (q1, .inl (cU, 64, .inl fU)), (q2, .inl (cV, 64, .inl fB)), (q3, .inl (cZ, 64, .inl fH))]) [2, 3, 4, 5] (by decide) rfl
  have hKc := hK.sub (tys' := [(cU, .int), (cV, .int), (cZ, .boolean)]) [1, 2, 3] rfl
  have hFc := va_free (wc := [(a1, .inr (1, [.ref q1, .ref q2, .ref q3, .int nx, .int (nI u), .int ed, .int th, .int ek])), (q1, .inl (cU, 64, .inl fU)), (q2, .inl (cV, 64, .inl fB)), (q3, .inl (cZ, 64, .inl fH))]) hD hS hA [2, 3, 4, 5] rfl
  refine va_calli (va_runV (As := []) (rest := [.int r1]) ⟨hx, hb, hml, hown, hts2⟩ (m_read l dC dI a1 q1 q2 q3 cU cV cZ nx (nI u) ed th ek fU fB fH u H.size rfl hu4) (cwV 0 hts2 gL_m_X1_read rfl rfl rfl (by decide +kernel) ⟨Nat.le_of_ble_eq_true rfl, Nat.le_of_ble_eq_true rfl⟩) ⟨fun a U g mk q => by obtain ⟨q0, q1, qP, qK, qD⟩ := q; exact ⟨q0, q1, qP, va_K.moved (u := U) (U := U.calling g mk a) (Vm.Alike.refl U.vm) qK, qD⟩, va_recv hKc hPc (ci := 1) (q0 := 0) rfl rfl, fun U hU hW => ⟨rfl, by rw [hU], by rw [hU]; exact hPc, va_K.moved hW.alike hKc, hDc.weaken (fun _ _ _ _ => trivial)⟩⟩ rfl rfl hl.1 rfl (lv_room (Nat.le_of_ble_eq_true rfl)) dL_law_245 ⟨(show _ ≤ 1034 by omega), (show _ ≤ 8481 by omega)⟩) hS (fun q _ h => hFc q h) hFc (fun r2 uv tS H1 locs ht hvm hw2 hB hz1 hk1 hS => ?_)
  obtain ⟨m8, g1⟩ := uv
  obtain ⟨hP1, hK1, hD1⟩ := hB
  rw [ht] at hP1
  have hK1 := va_K.moved hvm.symm hK1
  try dsimp only at hw2
  obtain ⟨hP, hD⟩ := va_join (wr := [(h0, .inr (0, [.ref qb, .long kb, .int nx, .int u7, .int ek, .int en])), (qb, .inl (cB, 64, .inl fb)), (qo, .inl (cO, 1, .inr (.inl fo)))]) (w1 := [(a1, .inr (1, [.ref q1, .ref q2, .ref q3, .int nx, .int m8, .int ed, .int 0, .int ek])), (q1, .inl (cU, 64, .inl g1)), (q2, .inl (cV, 64, .inl fB)), (q3, .inl (cZ, 64, .inl fH))]) hP hD [2, 3, 4, 5] [0, 1, 6] rfl rfl (by decide) (by decide) hk1 hFc hP1 hD1
  generalize H1 = H at hP hS ⊢
  have hP := hP.sub (ws' := [(h0, .inr (0, [.ref qb, .long kb, .int nx, .int u7, .int ek, .int en])), (qb, .inl (cB, 64, .inl fb)), (a1, .inr (1, [.ref q1, .ref q2, .ref q3, .int nx, .int m8, .int ed, .int 0, .int ek])), (q1, .inl (cU, 64, .inl g1)), (q2, .inl (cV, 64, .inl fB)), (q3, .inl (cZ, 64, .inl fH)), (qo, .inl (cO, 1, .inr (.inl fo)))]) [0, 1, 3, 4, 5, 6, 2] rfl
  have hD := hD.sub (ws' := [(h0, .inr (0, [.ref qb, .long kb, .int nx, .int u7, .int ek, .int en])), (qb, .inl (cB, 64, .inl fb)), (a1, .inr (1, [.ref q1, .ref q2, .ref q3, .int nx, .int m8, .int ed, .int 0, .int ek])), (q1, .inl (cU, 64, .inl g1)), (q2, .inl (cV, 64, .inl fB)), (q3, .inl (cZ, 64, .inl fH)), (qo, .inl (cO, 1, .inr (.inl fo)))]) [0, 1, 3, 4, 5, 6, 2] (by decide) rfl
  rcases hw1 with ⟨w1, w2, w3⟩ | ⟨w1, w2, w3⟩
  · rcases hw2 with ⟨v1, v2, v3, v4⟩ | ⟨u1, v1, v2, v3, v4⟩
    · have er : r1 = r2 := by
        rw [w3, v4]
        rcases hI.2.2.2.2.2.1 with z | ⟨z1, z2⟩
        · rw [if_neg (fun q => q.1 z), if_neg (fun q => q.1 z)]
        · rw [z1, z2]
      have w2 := w2.symm
      subst w2
      have v2 := v2.symm
      subst v2
      have v3 := v3.symm
      subst v3
      refine lv_icmp_eq (tgt := 418) hx hb dL_law_248 (by decide) (fun c_248 => ?_) (fun c_248 => ?_)
      · obtain ⟨x_1, ex_1⟩ : ∃ y : Int32, y = x4 + 5 := ⟨_, rfl⟩
        refine lv_iinc (v := x_1) (lv' := [(4, .int x_1), (0, .ref b), (1, .ref h0), (2, .ref a1), (3, .ref qo)]) hx hb dL_law_418 hl (k := 0) rfl (by rw [ex_1]; rfl) (by decide) rfl (fun ls hl => ?_)
        refine lv_goto (tgt := 23) hx hb dL_law_421 (by decide) ?_
        refine W.widen (k := 7 + (t + 1)) (n := 271 + 6 * (t + 1)) (by omega) (by omega) ?_
        exact ih x_1 kb nx ek en ed 0 bs u e9 S fb fU fB fH fo (x4_up h4 ex_1) hI H _ ls hP hD hS (lv_sub hl [0, 1, 2, 3, 4] rfl)
      · exact absurd er c_248
    · exact absurd ((nI_eq (b := 0) (by omega) (by decide)).mp w1) (by omega)
  · rcases hw2 with ⟨v1, v2, v3, v4⟩ | ⟨u1, v1, v2, v3, v4⟩
    · exact absurd (by rw [v1]; rfl) w1
    · subst v1
      obtain ⟨ev, hI8⟩ := g_rd hI v4
      have er : r1 = r2 := by rw [w3, v3]; exact ev
      have eu7 : u7 = nI u1 := by rw [w2]; exact nI_pred u1
      subst eu7
      subst v2
      refine lv_icmp_eq (tgt := 418) hx hb dL_law_248 (by decide) (fun c_248 => ?_) (fun c_248 => ?_)
      · obtain ⟨x_2, ex_2⟩ : ∃ y : Int32, y = x4 + 5 := ⟨_, rfl⟩
        refine lv_iinc (v := x_2) (lv' := [(4, .int x_2), (0, .ref b), (1, .ref h0), (2, .ref a1), (3, .ref qo)]) hx hb dL_law_418 hl (k := 0) rfl (by rw [ex_2]; rfl) (by decide) rfl (fun ls hl => ?_)
        refine lv_goto (tgt := 23) hx hb dL_law_421 (by decide) ?_
        refine W.widen (k := 7 + (t + 1)) (n := 271 + 6 * (t + 1)) (by omega) (by omega) ?_
        exact ih x_2 kb nx ek en ed 0 (bs + 1) u1 (e9 - 1) (fun q => S.1 (q + 1), fun q => S.2 (q + 1)) fb g1 fB fH fo (x4_up h4 ex_2) hI8 H _ ls hP hD hS (lv_sub hl [0, 1, 2, 3, 4] rfl)
      · exact absurd er c_248
