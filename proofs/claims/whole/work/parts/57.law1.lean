set_option maxHeartbeats 4000000 in
set_option maxRecDepth 100000 in
theorem law_1 {p : Program} {l : Launch} {e : Env} {s : State} {m : MethodId} {below : List Frame} {meth : Method} {c : Code} {dC : Nat → ClassId} {dI : Nat → Nat → Nat} {b h0 qb a1 q1 q2 q3 qo : Nat} {cB cU cV cZ cO : ClassId} {L : Nat} {xs : Nat → Int32} (hst : l.stackTraces = false) (C0 : lw_At p s m meth c b L xs) (hZ : thr (fun q : Nat => s.heap.size ≤ q) s s.heap) (hK : va_K (dC, dI) vwCl [(cB, .byte), (cU, .int), (cV, .int), (cZ, .boolean), (cO, .long)] s) {t : Nat} (ht5 : t < 512) (hLt : 5 * t + 5 ≤ L) (hL : L ≤ 2560) (ih : LawAt p l e s m below meth c dC dI b h0 qb a1 q1 q2 q3 qo cB cU cV cZ cO (t + 1)) (x4 : Int32) (kb : Int64) (nx ek en ed th bs : Int32) (u e9 : Nat) (S : aS) (fb fU fB fH : Nat → Int32) (fo : Nat → Int64) (h4 : x4 = nI (5 * t)) (hI : INV nx ek en ed kb fb fU fB fH bs u e9 S) (H : Heap) (locs : List Loc) (ls : Array Slot) (hP : va_P (dC, dI) vwCl [(h0, .inr (0, [.ref qb, .long kb, .int nx, .int (nI u), .int ek, .int en])), (qb, .inl (cB, 64, .inl fb)), (a1, .inr (1, [.ref q1, .ref q2, .ref q3, .int nx, .int (nI u), .int ed, .int th, .int ek])), (q1, .inl (cU, 64, .inl fU)), (q2, .inl (cV, 64, .inl fB)), (q3, .inl (cZ, 64, .inl fH)), (qo, .inl (cO, 1, .inr (.inl fo)))] H) (hD : va_D (fun q : Nat => s.heap.size ≤ q) [(h0, .inr (0, [.ref qb, .long kb, .int nx, .int (nI u), .int ek, .int en])), (qb, .inl (cB, 64, .inl fb)), (a1, .inr (1, [.ref q1, .ref q2, .ref q3, .int nx, .int (nI u), .int ed, .int th, .int ek])), (q1, .inl (cU, 64, .inl fU)), (q2, .inl (cV, 64, .inl fB)), (q3, .inl (cZ, 64, .inl fH)), (qo, .inl (cO, 1, .inr (.inl fo)))]) (hS : va_S (fun q : Nat => s.heap.size ≤ q) s.heap H locs) (hl : lv_has ls 7 [(4, .int x4), (0, .ref b), (1, .ref h0), (2, .ref a1), (3, .ref qo)]) : W p l e room_1 s m #[Value.ref b] below meth c H locs (7 + t) (271 + 6 * t) (lw_Z below #[Value.ref b] s) (F0 m 103 ls []) := by
  obtain ⟨hx, hb, hr, hml, hown0, hts, hX, hbl, hlocks, hgv⟩ := C0
  have hown : s.vm.findClass RL = some m.cls := hown0
  have hA : ∀ q : Nat, s.heap.size ≤ q → (fun q : Nat => s.heap.size ≤ q) q := fun _ h => h
  have hbA : ¬ (fun q : Nat => s.heap.size ≤ q) b := Nat.not_le.mpr hbl
  have hts1 : ∀ w ∈ wsL_law, w.before #[Value.ref b] s = true := fun w h => hts w (wsL_law_in w h)
  have hts2 : ∀ w ∈ wsL_m, w.before #[Value.ref b] s = true := fun w h => hts w (wsL_m_in w h)
  refine lv_aload_n hx hb dL_law_103 rfl (lv_at hl 2 rfl) ?_
  refine lv_aload_n hx hb dL_law_104 rfl (lv_at hl 1 rfl) ?_
  refine lv_iload hx hb dL_law_105 (lv_at hl 0 rfl) ?_
  refine lv_iconst (v := 1) hx hb dL_law_107 (by decide) ?_
  refine lv_iadd hx hb dL_law_108 ?_
  refine va_sld hx hb hX hbl hbA hS (ld_in (k := 1) h4 (by omega) hL) dL_law_109 ?_
  refine lv_aload_n hx hb dL_law_110 rfl (lv_at hl 1 rfl) ?_
  refine lv_iload hx hb dL_law_111 (lv_at hl 0 rfl) ?_
  refine lv_iconst (v := 2) hx hb dL_law_113 (by decide) ?_
  refine lv_iadd hx hb dL_law_114 ?_
  refine va_sld hx hb hX hbl hbA hS (ld_in (k := 2) h4 (by omega) hL) dL_law_115 ?_
  refine lv_i2l (v := (xs (x4 + 2).toNatClampNeg).toInt64) hx hb dL_law_116 rfl ?_
  refine lv_bipush (v := 32) hx hb dL_law_117 (by decide) ?_
  refine lv_lshl (v := ((xs (x4 + 2).toNatClampNeg).toInt64) <<< ((32 : Int32).toInt64 &&& 63)) hx hb dL_law_119 rfl ?_
  refine lv_aload_n hx hb dL_law_120 rfl (lv_at hl 1 rfl) ?_
  refine lv_iload hx hb dL_law_121 (lv_at hl 0 rfl) ?_
  refine lv_iconst (v := 3) hx hb dL_law_123 (by decide) ?_
  refine lv_iadd hx hb dL_law_124 ?_
  refine va_sld hx hb hX hbl hbA hS (ld_in (k := 3) h4 (by omega) hL) dL_law_125 ?_
  refine lv_i2l (v := (xs (x4 + 3).toNatClampNeg).toInt64) hx hb dL_law_126 rfl ?_
  refine W.ldc2 (v := 4294967295) hx hb hown (hts (.constantLong RL 34 4294967295) (by decide +kernel)) rfl dL_law_127 ?_
  refine W.eq (g2 := F0 m 130 ls [.long 4294967295, .long ((xs (x4 + 3).toNatClampNeg).toInt64), .long (((xs (x4 + 2).toNatClampNeg).toInt64) <<< ((32 : Int32).toInt64 &&& 63)), .int (xs (x4 + 1).toNatClampNeg), .ref h0]) rfl ?_
  refine lv_land hx hb dL_law_130 ?_
  refine lv_lor hx hb dL_law_131 ?_
  refine lv_aload_n hx hb dL_law_132 rfl (lv_at hl 1 rfl) ?_
  refine lv_iload hx hb dL_law_133 (lv_at hl 0 rfl) ?_
  refine lv_iconst (v := 4) hx hb dL_law_135 (by decide) ?_
  refine lv_iadd hx hb dL_law_136 ?_
  refine va_sld hx hb hX hbl hbA hS (ld_in (k := 4) h4 (by omega) hL) dL_law_137 ?_
  refine lv_aload_n hx hb dL_law_138 rfl (lv_at hl 4 rfl) ?_
  have hPc := hP.sub (ws' := [(h0, .inr (0, [.ref qb, .long kb, .int nx, .int (nI u), .int ek, .int en])), (qb, .inl (cB, 64, .inl fb)), (qo, .inl (cO, 1, .inr (.inl fo)))]) [0, 1, 6] rfl
  have hDc := hD.sub (ws' := [(h0, .inr (0, [.ref qb, .long kb, .int nx, .int (nI u), .int ek, .int en])), (qb, .inl (cB, 64, .inl fb)), (qo, .inl (cO, 1, .inr (.inl fo)))]) [0, 1, 6] (by decide) rfl
  have hKc := hK.sub (tys' := [(cB, .byte), (cO, .long)]) [0, 4] rfl
  have hFc := va_free (wc := [(h0, .inr (0, [.ref qb, .long kb, .int nx, .int (nI u), .int ek, .int en])), (qb, .inl (cB, 64, .inl fb)), (qo, .inl (cO, 1, .inr (.inl fo)))]) hD hS hA [0, 1, 6] rfl
  refine va_calli (vx_runSW (As := [.ref h0, .int (xs (x4 + 1).toNatClampNeg), .long ((((xs (x4 + 2).toNatClampNeg).toInt64) <<< ((32 : Int32).toInt64 &&& 63)) ||| (((xs (x4 + 3).toNatClampNeg).toInt64) &&& 4294967295)), .int (xs (x4 + 4).toNatClampNeg), .ref qo]) (rest := []) ⟨hx, hb, hml, hown, hts1⟩ (h_segment l hst dC dI h0 qb cB kb nx (nI u) ek en fb qo cO fo (xs (x4 + 1).toNatClampNeg) (((xs (x4 + 2).toNatClampNeg).toInt64 <<< ((32 : Int32).toInt64 &&& 63)) ||| ((xs (x4 + 3).toNatClampNeg).toInt64 &&& 4294967295)) (xs (x4 + 4).toNatClampNeg) H.size ) (vx_cwSW 5 hts1 gL_law_L_segment rfl rfl rfl (by decide +kernel) ⟨Nat.le_of_ble_eq_true rfl, Nat.le_of_ble_eq_true rfl⟩) ⟨fun a U g mk q => by obtain ⟨q0, q1, qP, qK, qD, qZ⟩ := q; exact ⟨q0, q1, qP, va_K.moved (u := U) (U := U.calling g mk a) (Vm.Alike.refl U.vm) qK, qD, thr_blind qZ⟩, fun U hU hW => ⟨rfl, by rw [hU], by rw [hU]; exact hPc, va_K.moved hW.alike hKc, hDc.weaken (fun _ _ _ _ => trivial), thr_call hZ hS hFc hU hW⟩⟩ rfl rfl hl.1 rfl (lv_room (Nat.le_of_ble_eq_true rfl)) dL_law_139 ⟨(show _ ≤ 1034 by omega), (show _ ≤ 8481 by omega)⟩) hS (fun q _ h => hFc q h) hFc (fun r1 uv tS H1 locs ht hvm hw1 hB hz1 hk1 hS => ?_)
  obtain ⟨k7, n7, u7, f7, o7⟩ := uv
  obtain ⟨hP1, hK1, hD1⟩ := hB
  rw [ht] at hP1
  have hK1 := va_K.moved hvm.symm hK1
  try dsimp only at hw1
  obtain ⟨hP, hD⟩ := va_join (wr := [(a1, .inr (1, [.ref q1, .ref q2, .ref q3, .int nx, .int (nI u), .int ed, .int th, .int ek])), (q1, .inl (cU, 64, .inl fU)), (q2, .inl (cV, 64, .inl fB)), (q3, .inl (cZ, 64, .inl fH))]) (w1 := [(h0, .inr (0, [.ref qb, .long k7, .int n7, .int u7, .int ek, .int en])), (qb, .inl (cB, 64, .inl f7)), (qo, .inl (cO, 1, .inr (.inl o7)))]) hP hD [0, 1, 6] [2, 3, 4, 5] rfl rfl (by decide) (by decide) hk1 hFc hP1 hD1
  generalize H1 = H at hP hS ⊢
  have hP := hP.sub (ws' := [(h0, .inr (0, [.ref qb, .long k7, .int n7, .int u7, .int ek, .int en])), (qb, .inl (cB, 64, .inl f7)), (a1, .inr (1, [.ref q1, .ref q2, .ref q3, .int nx, .int (nI u), .int ed, .int th, .int ek])), (q1, .inl (cU, 64, .inl fU)), (q2, .inl (cV, 64, .inl fB)), (q3, .inl (cZ, 64, .inl fH)), (qo, .inl (cO, 1, .inr (.inl o7)))]) [4, 5, 0, 1, 2, 3, 6] rfl
  have hD := hD.sub (ws' := [(h0, .inr (0, [.ref qb, .long k7, .int n7, .int u7, .int ek, .int en])), (qb, .inl (cB, 64, .inl f7)), (a1, .inr (1, [.ref q1, .ref q2, .ref q3, .int nx, .int (nI u), .int ed, .int th, .int ek])), (q1, .inl (cU, 64, .inl fU)), (q2, .inl (cV, 64, .inl fB)), (q3, .inl (cZ, 64, .inl fH)), (qo, .inl (cO, 1, .inr (.inl o7)))]) [4, 5, 0, 1, 2, 3, 6] (by decide) rfl
  refine lv_istore (lv' := [(5, .int r1), (4, .int x4), (0, .ref b), (1, .ref h0), (2, .ref a1), (3, .ref qo)]) hx hb dL_law_142 hl (by decide) rfl (fun ls hl => ?_)
  refine lv_aload_n hx hb dL_law_144 rfl (lv_at hl 4 rfl) ?_
  refine lv_aload_n hx hb dL_law_145 rfl (lv_at hl 2 rfl) ?_
  refine lv_iload hx hb dL_law_146 (lv_at hl 1 rfl) ?_
  refine lv_iconst (v := 1) hx hb dL_law_148 (by decide) ?_
  refine lv_iadd hx hb dL_law_149 ?_
  refine va_sld hx hb hX hbl hbA hS (ld_in (k := 1) h4 (by omega) hL) dL_law_150 ?_
  refine lv_aload_n hx hb dL_law_151 rfl (lv_at hl 2 rfl) ?_
  refine lv_iload hx hb dL_law_152 (lv_at hl 1 rfl) ?_
  refine lv_iconst (v := 2) hx hb dL_law_154 (by decide) ?_
  refine lv_iadd hx hb dL_law_155 ?_
  refine va_sld hx hb hX hbl hbA hS (ld_in (k := 2) h4 (by omega) hL) dL_law_156 ?_
  refine lv_i2l (v := (xs (x4 + 2).toNatClampNeg).toInt64) hx hb dL_law_157 rfl ?_
  refine lv_bipush (v := 32) hx hb dL_law_158 (by decide) ?_
  refine lv_lshl (v := ((xs (x4 + 2).toNatClampNeg).toInt64) <<< ((32 : Int32).toInt64 &&& 63)) hx hb dL_law_160 rfl ?_
  refine lv_aload_n hx hb dL_law_161 rfl (lv_at hl 2 rfl) ?_
  refine lv_iload hx hb dL_law_162 (lv_at hl 1 rfl) ?_
  refine lv_iconst (v := 3) hx hb dL_law_164 (by decide) ?_
  refine lv_iadd hx hb dL_law_165 ?_
  refine va_sld hx hb hX hbl hbA hS (ld_in (k := 3) h4 (by omega) hL) dL_law_166 ?_
  refine lv_i2l (v := (xs (x4 + 3).toNatClampNeg).toInt64) hx hb dL_law_167 rfl ?_
  refine W.ldc2 (v := 4294967295) hx hb hown (hts (.constantLong RL 34 4294967295) (by decide +kernel)) rfl dL_law_168 ?_
  refine W.eq (g2 := F0 m 171 ls [.long 4294967295, .long ((xs (x4 + 3).toNatClampNeg).toInt64), .long (((xs (x4 + 2).toNatClampNeg).toInt64) <<< ((32 : Int32).toInt64 &&& 63)), .int (xs (x4 + 1).toNatClampNeg), .ref a1]) rfl ?_
  refine lv_land hx hb dL_law_171 ?_
  refine lv_lor hx hb dL_law_172 ?_
  refine lv_aload_n hx hb dL_law_173 rfl (lv_at hl 2 rfl) ?_
  refine lv_iload hx hb dL_law_174 (lv_at hl 1 rfl) ?_
  refine lv_iconst (v := 4) hx hb dL_law_176 (by decide) ?_
  refine lv_iadd hx hb dL_law_177 ?_
  refine va_sld hx hb hX hbl hbA hS (ld_in (k := 4) h4 (by omega) hL) dL_law_178 ?_
  have hPc := hP.sub (ws' := [(a1, .inr (1, [.ref q1, .ref q2, .ref q3, .int nx, .int (nI u), .int ed, .int th, .int ek])), (q1, .inl (cU, 64, .inl fU)), (q2, .inl (cV, 64, .inl fB)), (q3, .inl (cZ, 64, .inl fH))]) [2, 3, 4, 5] rfl
  have hDc := hD.sub (ws' := [(a1, .inr (1, [.ref q1, .ref q2, .ref q3, .int nx, .int (nI u), .int ed, .int th, .int ek])), (q1, .inl (cU, 64, .inl fU)), (q2, .inl (cV, 64, .inl fB)), (q3, .inl (cZ, 64, .inl fH))]) [2, 3, 4, 5] (by decide) rfl
  have hKc := hK.sub (tys' := [(cU, .int), (cV, .int), (cZ, .boolean)]) [1, 2, 3] rfl
  have hFc := va_free (wc := [(a1, .inr (1, [.ref q1, .ref q2, .ref q3, .int nx, .int (nI u), .int ed, .int th, .int ek])), (q1, .inl (cU, 64, .inl fU)), (q2, .inl (cV, 64, .inl fB)), (q3, .inl (cZ, 64, .inl fH))]) hD hS hA [2, 3, 4, 5] rfl
  refine va_calli (va_runV (As := [.int (xs (x4 + 1).toNatClampNeg), .long ((((xs (x4 + 2).toNatClampNeg).toInt64) <<< ((32 : Int32).toInt64 &&& 63)) ||| (((xs (x4 + 3).toNatClampNeg).toInt64) &&& 4294967295)), .int (xs (x4 + 4).toNatClampNeg)]) (rest := []) ⟨hx, hb, hml, hown, hts2⟩ (m_segment l dC dI a1 q1 q2 q3 cU cV cZ nx (nI u) ed th ek fU fB fH bs u e9 S (xs (x4 + 1).toNatClampNeg) (((xs (x4 + 2).toNatClampNeg).toInt64 <<< ((32 : Int32).toInt64 &&& 63)) ||| ((xs (x4 + 3).toNatClampNeg).toInt64 &&& 4294967295)) (xs (x4 + 4).toNatClampNeg) H.size hI.2.1 hI.2.2.1 hI.2.2.2.2.2.2 hI.1 rfl (inv_ed hI)) (cwV 3 hts2 gL_m_X1_segment rfl rfl rfl (by decide +kernel) ⟨Nat.le_of_ble_eq_true rfl, Nat.le_of_ble_eq_true rfl⟩) ⟨fun a U g mk q => by obtain ⟨q0, q1, qP, qK, qD⟩ := q; exact ⟨q0, q1, qP, va_K.moved (u := U) (U := U.calling g mk a) (Vm.Alike.refl U.vm) qK, qD⟩, va_recv hKc hPc (ci := 1) (q0 := 0) rfl rfl, fun U hU hW => ⟨rfl, by rw [hU], by rw [hU]; exact hPc, va_K.moved hW.alike hKc, hDc.weaken (fun _ _ _ _ => trivial)⟩⟩ rfl rfl hl.1 rfl (lv_room (Nat.le_of_ble_eq_true rfl)) dL_law_179 ⟨(show _ ≤ 1034 by omega), (show _ ≤ 8481 by omega)⟩) hS (fun q _ h => hFc q h) hFc (fun r2 uv tS H1 locs ht hvm hw2 hB hz1 hk1 hS => ?_)
  obtain ⟨n8, m8, t8, g1, g2, g3⟩ := uv
  obtain ⟨hP1, hK1, hD1⟩ := hB
  rw [ht] at hP1
  have hK1 := va_K.moved hvm.symm hK1
  try dsimp only at hw2
  obtain ⟨hP, hD⟩ := va_join (wr := [(h0, .inr (0, [.ref qb, .long k7, .int n7, .int u7, .int ek, .int en])), (qb, .inl (cB, 64, .inl f7)), (qo, .inl (cO, 1, .inr (.inl o7)))]) (w1 := [(a1, .inr (1, [.ref q1, .ref q2, .ref q3, .int n8, .int m8, .int ed, .int t8, .int ek])), (q1, .inl (cU, 64, .inl g1)), (q2, .inl (cV, 64, .inl g2)), (q3, .inl (cZ, 64, .inl g3))]) hP hD [2, 3, 4, 5] [0, 1, 6] rfl rfl (by decide) (by decide) hk1 hFc hP1 hD1
  generalize H1 = H at hP hS ⊢
  have hP := hP.sub (ws' := [(h0, .inr (0, [.ref qb, .long k7, .int n7, .int u7, .int ek, .int en])), (qb, .inl (cB, 64, .inl f7)), (a1, .inr (1, [.ref q1, .ref q2, .ref q3, .int n8, .int m8, .int ed, .int t8, .int ek])), (q1, .inl (cU, 64, .inl g1)), (q2, .inl (cV, 64, .inl g2)), (q3, .inl (cZ, 64, .inl g3)), (qo, .inl (cO, 1, .inr (.inl o7)))]) [0, 1, 3, 4, 5, 6, 2] rfl
  have hD := hD.sub (ws' := [(h0, .inr (0, [.ref qb, .long k7, .int n7, .int u7, .int ek, .int en])), (qb, .inl (cB, 64, .inl f7)), (a1, .inr (1, [.ref q1, .ref q2, .ref q3, .int n8, .int m8, .int ed, .int t8, .int ek])), (q1, .inl (cU, 64, .inl g1)), (q2, .inl (cV, 64, .inl g2)), (q3, .inl (cZ, 64, .inl g3)), (qo, .inl (cO, 1, .inr (.inl o7)))]) [0, 1, 3, 4, 5, 6, 2] (by decide) rfl
  rcases hw1 with ⟨w1, w2, w3, w4, w5, w6⟩ | ⟨w1, r9, w2, i, j, k9, w3, w4, w5, w6, w7, w8, w9, wa, wb, wc⟩
  · rcases hw2 with ⟨v1, v2, v3, v4, v5, v6, v7⟩ | ⟨i2, u', v1, v2, v3, v4, v5, v6, v7, v8, v9, va⟩
    · have w1 := w1.symm
      subst w1
      have w3 := w3.symm
      subst w3
      have w4 := w4.symm
      subst w4
      have w5 := w5.symm
      subst w5
      have w6 := w6.symm
      subst w6
      have v2 := v2.symm
      subst v2
      have v3 := v3.symm
      subst v3
      have v4 := v4.symm
      subst v4
      have v5 := v5.symm
      subst v5
      have v6 := v6.symm
      subst v6
      have v7 := v7.symm
      subst v7
      refine lv_istore (lv' := [(6, .int r2), (5, .int 1), (4, .int x4), (0, .ref b), (1, .ref h0), (2, .ref a1), (3, .ref qo)]) hx hb dL_law_182 hl (by decide) rfl (fun ls hl => ?_)
      refine lv_aload_n hx hb dL_law_184 rfl (lv_at hl 5 rfl) ?_
      have hPc := hP.sub (ws' := [(a1, .inr (1, [.ref q1, .ref q2, .ref q3, .int nx, .int (nI u), .int ed, .int 1, .int ek])), (q1, .inl (cU, 64, .inl fU)), (q2, .inl (cV, 64, .inl fB)), (q3, .inl (cZ, 64, .inl fH))]) [2, 3, 4, 5] rfl
      have hDc := hD.sub (ws' := [(a1, .inr (1, [.ref q1, .ref q2, .ref q3, .int nx, .int (nI u), .int ed, .int 1, .int ek])), (q1, .inl (cU, 64, .inl fU)), (q2, .inl (cV, 64, .inl fB)), (q3, .inl (cZ, 64, .inl fH))]) [2, 3, 4, 5] (by decide) rfl
      have hKc := hK.sub (tys' := [(cU, .int), (cV, .int), (cZ, .boolean)]) [1, 2, 3] rfl
      have hFc := va_free (wc := [(a1, .inr (1, [.ref q1, .ref q2, .ref q3, .int nx, .int (nI u), .int ed, .int 1, .int ek])), (q1, .inl (cU, 64, .inl fU)), (q2, .inl (cV, 64, .inl fB)), (q3, .inl (cZ, 64, .inl fH))]) hD hS hA [2, 3, 4, 5] rfl
      refine va_calli (va_runV (As := []) (rest := []) ⟨hx, hb, hml, hown, hts1⟩ (m_thrown l dC dI a1 q1 q2 q3 cU cV cZ nx (nI u) ed 1 ek fU fB fH H.size ) (cwV 0 hts1 gL_law_X1_thrown rfl rfl rfl (by decide +kernel) ⟨Nat.le_of_ble_eq_true rfl, Nat.le_of_ble_eq_true rfl⟩) ⟨fun a U g mk q => by obtain ⟨q0, q1, qP, qK, qD⟩ := q; exact ⟨q0, q1, qP, va_K.moved (u := U) (U := U.calling g mk a) (Vm.Alike.refl U.vm) qK, qD⟩, va_recv hKc hPc (ci := 1) (q0 := 0) rfl rfl, fun U hU hW => ⟨rfl, by rw [hU], by rw [hU]; exact hPc, va_K.moved hW.alike hKc, hDc.weaken (fun _ _ _ _ => trivial)⟩⟩ rfl rfl hl.1 rfl (lv_room (Nat.le_of_ble_eq_true rfl)) dL_law_185 ⟨(show _ ≤ 1034 by omega), (show _ ≤ 8481 by omega)⟩) hS (fun q _ h => hFc q h) hFc (fun r_1 uv tS H1 locs ht hvm hw_2 hB hz1 hk1 hS => ?_)
      obtain ⟨hP1, hK1, hD1⟩ := hB
      rw [ht] at hP1
      have hK1 := va_K.moved hvm.symm hK1
      try dsimp only at hw_2
      obtain ⟨hP, hD⟩ := va_join (wr := [(h0, .inr (0, [.ref qb, .long kb, .int nx, .int (nI u), .int ek, .int en])), (qb, .inl (cB, 64, .inl fb)), (qo, .inl (cO, 1, .inr (.inl o7)))]) (w1 := [(a1, .inr (1, [.ref q1, .ref q2, .ref q3, .int nx, .int (nI u), .int ed, .int 1, .int ek])), (q1, .inl (cU, 64, .inl fU)), (q2, .inl (cV, 64, .inl fB)), (q3, .inl (cZ, 64, .inl fH))]) hP hD [2, 3, 4, 5] [0, 1, 6] rfl rfl (by decide) (by decide) hk1 hFc hP1 hD1
      generalize H1 = H at hP hS ⊢
      have hP := hP.sub (ws' := [(h0, .inr (0, [.ref qb, .long kb, .int nx, .int (nI u), .int ek, .int en])), (qb, .inl (cB, 64, .inl fb)), (a1, .inr (1, [.ref q1, .ref q2, .ref q3, .int nx, .int (nI u), .int ed, .int 1, .int ek])), (q1, .inl (cU, 64, .inl fU)), (q2, .inl (cV, 64, .inl fB)), (q3, .inl (cZ, 64, .inl fH)), (qo, .inl (cO, 1, .inr (.inl o7)))]) [0, 1, 3, 4, 5, 6, 2] rfl
      have hD := hD.sub (ws' := [(h0, .inr (0, [.ref qb, .long kb, .int nx, .int (nI u), .int ek, .int en])), (qb, .inl (cB, 64, .inl fb)), (a1, .inr (1, [.ref q1, .ref q2, .ref q3, .int nx, .int (nI u), .int ed, .int 1, .int ek])), (q1, .inl (cU, 64, .inl fU)), (q2, .inl (cV, 64, .inl fB)), (q3, .inl (cZ, 64, .inl fH)), (qo, .inl (cO, 1, .inr (.inl o7)))]) [0, 1, 3, 4, 5, 6, 2] (by decide) rfl
      subst hw_2
      refine lv_iload hx hb dL_law_188 (lv_at hl 1 rfl) ?_
      refine lv_icmp_eq (tgt := 195) hx hb dL_law_190 (by decide) (fun c_190 => ?_) (fun c_190 => ?_)
      · refine lv_iload hx hb dL_law_195 (lv_at hl 1 rfl) ?_
        refine lv_if_ne (tgt := 212) hx hb dL_law_197 (by decide) (fun c_197 => ?_) (fun c_197 => ?_)
        · refine lv_goto (tgt := 418) hx hb dL_law_212 (by decide) ?_
          obtain ⟨x_3, ex_3⟩ : ∃ y : Int32, y = x4 + 5 := ⟨_, rfl⟩
          refine lv_iinc (v := x_3) (lv' := [(4, .int x_3), (6, .int r2), (5, .int 1), (0, .ref b), (1, .ref h0), (2, .ref a1), (3, .ref qo)]) hx hb dL_law_418 hl (k := 2) rfl (by rw [ex_3]; rfl) (by decide) rfl (fun ls hl => ?_)
          refine lv_goto (tgt := 23) hx hb dL_law_421 (by decide) ?_
          refine W.widen (k := 7 + (t + 1)) (n := 271 + 6 * (t + 1)) (by omega) (by omega) ?_
          exact ih x_3 kb nx ek en ed 1 bs u e9 S fb fU fB fH o7 (x4_up h4 ex_3) hI H _ ls hP hD hS (lv_sub hl [0, 3, 4, 5, 6] rfl)
        · exact absurd c_197 (by decide)
      · exact absurd rfl c_190
    · exact (nI_ne8 v1 v2 w2).elim
  · rcases hw2 with ⟨v1, v2, v3, v4, v5, v6, v7⟩ | ⟨i2, u', v1, v2, v3, v4, v5, v6, v7, v8, v9, va⟩
    · exact (nI_ne8 w3 w4 v1).elim
    · have ei : i = i2 := (nI_eq (by omega) (by omega)).mp (w4.symm.trans v2)
      subst ei
      obtain ⟨eu, hI8⟩ := g_seg hI w3 w5 w6 w7 w8 w9 v8 v9 va
      have en7 : bs + nI u' = n7 := by rw [wb, hI.1, eu, ← nI_add, Int32.add_assoc]
      have eu7 : nI u' = u7 := by rw [wc, eu, nI_add]
      subst en7
      subst eu7
      have w1 := w1.symm
      subst w1
      have v3 := v3.symm
      subst v3
      have v6 := v6.symm
      subst v6
      have v7 := v7.symm
      subst v7
      refine lv_istore (lv' := [(6, .int r2), (5, .int 0), (4, .int x4), (0, .ref b), (1, .ref h0), (2, .ref a1), (3, .ref qo)]) hx hb dL_law_182 hl (by decide) rfl (fun ls hl => ?_)
      refine lv_aload_n hx hb dL_law_184 rfl (lv_at hl 5 rfl) ?_
      have hPc := hP.sub (ws' := [(a1, .inr (1, [.ref q1, .ref q2, .ref q3, .int (bs + nI u'), .int (nI u'), .int ed, .int 0, .int ek])), (q1, .inl (cU, 64, .inl g1)), (q2, .inl (cV, 64, .inl g2)), (q3, .inl (cZ, 64, .inl g3))]) [2, 3, 4, 5] rfl
      have hDc := hD.sub (ws' := [(a1, .inr (1, [.ref q1, .ref q2, .ref q3, .int (bs + nI u'), .int (nI u'), .int ed, .int 0, .int ek])), (q1, .inl (cU, 64, .inl g1)), (q2, .inl (cV, 64, .inl g2)), (q3, .inl (cZ, 64, .inl g3))]) [2, 3, 4, 5] (by decide) rfl
      have hKc := hK.sub (tys' := [(cU, .int), (cV, .int), (cZ, .boolean)]) [1, 2, 3] rfl
      have hFc := va_free (wc := [(a1, .inr (1, [.ref q1, .ref q2, .ref q3, .int (bs + nI u'), .int (nI u'), .int ed, .int 0, .int ek])), (q1, .inl (cU, 64, .inl g1)), (q2, .inl (cV, 64, .inl g2)), (q3, .inl (cZ, 64, .inl g3))]) hD hS hA [2, 3, 4, 5] rfl
      refine va_calli (va_runV (As := []) (rest := []) ⟨hx, hb, hml, hown, hts1⟩ (m_thrown l dC dI a1 q1 q2 q3 cU cV cZ (bs + nI u') (nI u') ed 0 ek g1 g2 g3 H.size ) (cwV 0 hts1 gL_law_X1_thrown rfl rfl rfl (by decide +kernel) ⟨Nat.le_of_ble_eq_true rfl, Nat.le_of_ble_eq_true rfl⟩) ⟨fun a U g mk q => by obtain ⟨q0, q1, qP, qK, qD⟩ := q; exact ⟨q0, q1, qP, va_K.moved (u := U) (U := U.calling g mk a) (Vm.Alike.refl U.vm) qK, qD⟩, va_recv hKc hPc (ci := 1) (q0 := 0) rfl rfl, fun U hU hW => ⟨rfl, by rw [hU], by rw [hU]; exact hPc, va_K.moved hW.alike hKc, hDc.weaken (fun _ _ _ _ => trivial)⟩⟩ rfl rfl hl.1 rfl (lv_room (Nat.le_of_ble_eq_true rfl)) dL_law_185 ⟨(show _ ≤ 1034 by omega), (show _ ≤ 8481 by omega)⟩) hS (fun q _ h => hFc q h) hFc (fun r_4 uv tS H1 locs ht hvm hw_5 hB hz1 hk1 hS => ?_)
      obtain ⟨hP1, hK1, hD1⟩ := hB
      rw [ht] at hP1
      have hK1 := va_K.moved hvm.symm hK1
      try dsimp only at hw_5
      obtain ⟨hP, hD⟩ := va_join (wr := [(h0, .inr (0, [.ref qb, .long k7, .int (bs + nI u'), .int (nI u'), .int ek, .int en])), (qb, .inl (cB, 64, .inl f7)), (qo, .inl (cO, 1, .inr (.inl o7)))]) (w1 := [(a1, .inr (1, [.ref q1, .ref q2, .ref q3, .int (bs + nI u'), .int (nI u'), .int ed, .int 0, .int ek])), (q1, .inl (cU, 64, .inl g1)), (q2, .inl (cV, 64, .inl g2)), (q3, .inl (cZ, 64, .inl g3))]) hP hD [2, 3, 4, 5] [0, 1, 6] rfl rfl (by decide) (by decide) hk1 hFc hP1 hD1
      generalize H1 = H at hP hS ⊢
      have hP := hP.sub (ws' := [(h0, .inr (0, [.ref qb, .long k7, .int (bs + nI u'), .int (nI u'), .int ek, .int en])), (qb, .inl (cB, 64, .inl f7)), (a1, .inr (1, [.ref q1, .ref q2, .ref q3, .int (bs + nI u'), .int (nI u'), .int ed, .int 0, .int ek])), (q1, .inl (cU, 64, .inl g1)), (q2, .inl (cV, 64, .inl g2)), (q3, .inl (cZ, 64, .inl g3)), (qo, .inl (cO, 1, .inr (.inl o7)))]) [0, 1, 3, 4, 5, 6, 2] rfl
      have hD := hD.sub (ws' := [(h0, .inr (0, [.ref qb, .long k7, .int (bs + nI u'), .int (nI u'), .int ek, .int en])), (qb, .inl (cB, 64, .inl f7)), (a1, .inr (1, [.ref q1, .ref q2, .ref q3, .int (bs + nI u'), .int (nI u'), .int ed, .int 0, .int ek])), (q1, .inl (cU, 64, .inl g1)), (q2, .inl (cV, 64, .inl g2)), (q3, .inl (cZ, 64, .inl g3)), (qo, .inl (cO, 1, .inr (.inl o7)))]) [0, 1, 3, 4, 5, 6, 2] (by decide) rfl
      subst hw_5
      refine lv_iload hx hb dL_law_188 (lv_at hl 1 rfl) ?_
      refine lv_icmp_eq (tgt := 195) hx hb dL_law_190 (by decide) (fun c_190 => ?_) (fun c_190 => ?_)
      · refine lv_iload hx hb dL_law_195 (lv_at hl 1 rfl) ?_
        refine lv_if_ne (tgt := 212) hx hb dL_law_197 (by decide) (fun c_197 => ?_) (fun c_197 => ?_)
        · exact absurd rfl c_197
        · refine lv_aload_n hx hb dL_law_200 rfl (lv_at hl 6 rfl) ?_
          refine lv_iconst (v := 0) hx hb dL_law_201 (by decide) ?_
          refine va_lald hx hb hK hP 6 4 rfl rfl inb1_0 dL_law_202 ?_
          refine lv_iload hx hb dL_law_203 (lv_at hl 0 rfl) ?_
          refine lv_i2l (v := r2.toInt64) hx hb dL_law_205 rfl ?_
          refine W.lcmp hx hb dL_law_206 ?_
          refine lv_if_eq (tgt := 212) hx hb dL_law_207 (by decide) (fun c_207 => ?_) (fun c_207 => ?_)
          · refine lv_goto (tgt := 418) hx hb dL_law_212 (by decide) ?_
            obtain ⟨x_6, ex_6⟩ : ∃ y : Int32, y = x4 + 5 := ⟨_, rfl⟩
            refine lv_iinc (v := x_6) (lv' := [(4, .int x_6), (6, .int r2), (5, .int 0), (0, .ref b), (1, .ref h0), (2, .ref a1), (3, .ref qo)]) hx hb dL_law_418 hl (k := 2) rfl (by rw [ex_6]; rfl) (by decide) rfl (fun ls hl => ?_)
            refine lv_goto (tgt := 23) hx hb dL_law_421 (by decide) ?_
            refine W.widen (k := 7 + (t + 1)) (n := 271 + 6 * (t + 1)) (by omega) (by omega) ?_
            exact ih x_6 k7 (bs + nI u') ek en ed 0 bs u' e9 (a_sg bs ek e9 (xs (x4 + 1).toNatClampNeg) (((xs (x4 + 2).toNatClampNeg).toInt64 <<< ((32 : Int32).toInt64 &&& 63)) ||| ((xs (x4 + 3).toNatClampNeg).toInt64 &&& 4294967295)) i S) f7 g1 g2 g3 o7 (x4_up h4 ex_6) hI8 H _ ls hP hD hS (lv_sub hl [0, 3, 4, 5, 6] rfl)
          · exact absurd (lcmp_eq (by rw [cl_0, w2, wa, v5, eu, pk_sub (by omega), show u + j - u = j by omega])) c_207
      · exact absurd rfl c_190
