set_option maxHeartbeats 4000000 in
set_option maxRecDepth 100000 in
theorem c_startOfBlock (l : Launch) (dC : Nat → ClassId) (dI : Nat → Nat → Nat) (h0 qb : Nat) (cB : ClassId) (kb : Int64) (nx un ek en : Int32) (fb : Nat → Int32) (i : Int32) (i0 : Nat) (sz : Nat) (hi : i = nI i0) (hlt : i0 < sg_c (sg_b (c_st kb)) 64) : Met l yX0_startOfBlock wsX0_startOfBlock ({ frames := 1, cells := 0, slots := 0, locals := 20 }) (va_Pc [.ref h0, .int i] (fun U => U.heap.size = sz ∧ va_P (dC, dI) vwCl [(h0, .inr (0, [.ref qb, .long kb, .int nx, .int un, .int ek, .int en])), (qb, .inl (cB, 64, .inl fb))] U.heap ∧ va_K (dC, dI) vwCl [(cB, .byte)] U ∧ va_D (fun _ => True) [(h0, .inr (0, [.ref qb, .long kb, .int nx, .int un, .int ek, .int en])), (qb, .inl (cB, 64, .inl fb))])) (va_Qi (fun (r : Int32) (u : Unit) => match u with | () => ∃ k : Nat, k < 64 ∧ r = nI k ∧ sg_b (c_st kb) k = true ∧ sg_c (sg_b (c_st kb)) k = i0) (fun (u : Unit) (t : State) => match u with | () => va_P (dC, dI) vwCl [(h0, .inr (0, [.ref qb, .long kb, .int nx, .int un, .int ek, .int en])), (qb, .inl (cB, 64, .inl fb))] t.heap ∧ va_K (dC, dI) vwCl [(cB, .byte)] t ∧ va_D (va_A [(h0, .inr (0, [.ref qb, .long kb, .int nx, .int un, .int ek, .int en])), (qb, .inl (cB, 64, .inl fb))] sz) [(h0, .inr (0, [.ref qb, .long kb, .int nx, .int un, .int ek, .int en])), (qb, .inl (cB, 64, .inl fb))]) (va_A [(h0, .inr (0, [.ref qb, .long kb, .int nx, .int un, .int ek, .int en])), (qb, .inl (cB, 64, .inl fb))] sz)) 0 0 (va_A [(h0, .inr (0, [.ref qb, .long kb, .int nx, .int un, .int ek, .int en])), (qb, .inl (cB, 64, .inl fb))] sz) := by
  refine Met.ofW (cc := cX0_startOfBlock) (maxL := 6) (ret := (some .int)) (by decide) rfl ?_
  intro p e s m args below meth c s₁ B hml hv
  obtain ⟨rfl, hsz, hP, hK, hD0⟩ := hv
  have hx := B.exec
  have hb := B.bytes
  have hr := B.returns
  have hts := atoms_spec (ws := wsX0_startOfBlock) B.pre
  have hown : s.vm.findClass RX0 = some m.cls := findClass_of_methodNamed B.named
  have hlocks := B.notSynchronized
  subst hsz
  have hD := hD0.self (sz := s.heap.size)
  generalize hAe : va_A [(h0, .inr (0, [.ref qb, .long kb, .int nx, .int un, .int ek, .int en])), (qb, .inl (cB, 64, .inl fb))] s.heap.size = A at hD ⊢
  have hA : ∀ q : Nat, s.heap.size ≤ q → A q := fun q h => by rw [← hAe]; exact Or.inr h
  have hS : va_S A s.heap s.heap [] := va_S.rf
  have hP : va_P (dC, dI) vwCl [(h0, .inr (0, [.ref qb, .long kb, .int nx, .int un, .int ek, .int en])), (qb, .inl (cB, 64, .inl fb))] s.heap := hP
  have hl := lv_entry ([.ref h0, .int i]) (n := 6) (Nat.le_of_ble_eq_true rfl)
  rw [lg_entry_eq]
  generalize (lg_sl ([.ref h0, .int i]) ++ List.replicate (6 - (lg_sl ([.ref h0, .int i])).length) Slot.unset).toArray = ls at hl ⊢
  have hl : lv_has ls 6 [(0, .ref h0), (1, .int i)] := hl
  have hi_0 : ∀ w ∈ u_ws RX0 TX0 6, w ∈ wsX0_startOfBlock := by decide +kernel
  have loop : ∀ (n k : Nat) (x9 y9 : Int32), k + n = 64 → x9 = nI k → y9 = nI (sg_c (sg_b (c_st kb)) k) → sg_c (sg_b (c_st kb)) k ≤ i0 → ∀ (H : Heap) (locs : List Loc) (ls : Array Slot), va_P (dC, dI) vwCl [(h0, .inr (0, [.ref qb, .long kb, .int nx, .int un, .int ek, .int en])), (qb, .inl (cB, 64, .inl fb))] H → va_D A [(h0, .inr (0, [.ref qb, .long kb, .int nx, .int un, .int ek, .int en])), (qb, .inl (cB, 64, .inl fb))] → va_S A s.heap H locs → lv_has ls 6 [(5, .int x9), (4, .int y9), (2, .long (c_st kb)), (0, .ref h0), (1, .int i)] → W p l e (headSpec wsX0_startOfBlock ({ frames := 1, cells := 0, slots := 0, locals := 20 })).room s m ([.ref h0, .int i] : List Value).toArray below meth c H locs 0 0 (MQ below (va_Qi (fun (r : Int32) (u : Unit) => match u with | () => ∃ k : Nat, k < 64 ∧ r = nI k ∧ sg_b (c_st kb) k = true ∧ sg_c (sg_b (c_st kb)) k = i0) (fun (u : Unit) (t : State) => match u with | () => va_P (dC, dI) vwCl [(h0, .inr (0, [.ref qb, .long kb, .int nx, .int un, .int ek, .int en])), (qb, .inl (cB, 64, .inl fb))] t.heap ∧ va_K (dC, dI) vwCl [(cB, .byte)] t ∧ va_D A [(h0, .inr (0, [.ref qb, .long kb, .int nx, .int un, .int ek, .int en])), (qb, .inl (cB, 64, .inl fb))]) A) ([.ref h0, .int i] : List Value).toArray s 0 0 A) (F0 m 11 ls []) := by
    intro n
    induction n with
    | zero =>
      intro k x9 y9 hk h1 h2 h3 H locs ls hP hD hS hl
      have hk : k = 64 := by omega
      subst hk
      exact absurd hlt (by omega)
    | succ n ih =>
      intro k x9 y9 hk h1 h2 h3 H locs ls hP hD hS hl
      have hc := sg_c_le (sg_b (c_st kb)) k
      have hc4 := sg_c_le (sg_b (c_st kb)) 64
      refine lv_iload hx hb dX0_startOfBlock_11 (lv_at hl 0 rfl) ?_
      refine lv_bipush (v := 64) hx hb dX0_startOfBlock_13 (by decide) ?_
      refine lv_icmp_ge (tgt := 47) hx hb dX0_startOfBlock_15 (by decide) (fun c_15 => ?_) (fun c_15 => ?_)
      · exact absurd ((ge64 h1 (by omega)).mp c_15) (by omega)
      · refine lv_lload_n hx hb dX0_startOfBlock_18 rfl (lv_at hl 2 rfl) ?_
        refine lv_iload hx hb dX0_startOfBlock_19 (lv_at hl 0 rfl) ?_
        refine lv_lushr (v := g_sh (c_st kb) x9) hx hb dX0_startOfBlock_21 rfl ?_
        refine lv_lconst (v := 1) hx hb dX0_startOfBlock_22 rfl ?_
        refine lv_land hx hb dX0_startOfBlock_23 ?_
        refine lv_lconst (v := 0) hx hb dX0_startOfBlock_24 rfl ?_
        refine W.lcmp hx hb dX0_startOfBlock_25 ?_
        refine lv_if_eq (tgt := 41) hx hb dX0_startOfBlock_26 (by decide) (fun c_26 => ?_) (fun c_26 => ?_)
        · obtain ⟨x_1, ex_1⟩ : ∃ y : Int32, y = x9 + 1 := ⟨_, rfl⟩
          refine lv_iinc (v := x_1) (lv' := [(5, .int x_1), (4, .int y9), (2, .long (c_st kb)), (0, .ref h0), (1, .int i)]) hx hb dX0_startOfBlock_41 hl (k := 0) rfl (by rw [ex_1]; rfl) (by decide) rfl (fun ls hl => ?_)
          refine lv_goto (tgt := 11) hx hb dX0_startOfBlock_44 (by decide) ?_
          have hz : sg_b (c_st kb) k = false := by
            have q := sg_tst (x := c_st kb) (k := k) (by omega)
            rw [← h1] at q
            cases w : sg_b (c_st kb) k with
            | false => rfl
            | true => exact absurd (lcmp0 c_26) (q.mpr w)
          have hs : sg_c (sg_b (c_st kb)) (k + 1) = sg_c (sg_b (c_st kb)) k := by simp [sg_c, hz]
          exact ih (k + 1) x_1 y9 (by omega) (by rw [ex_1, h1, nI_succ]) (by rw [hs]; exact h2) (by omega) H locs ls hP hD hS (lv_sub hl [0, 1, 2, 3, 4] rfl)
        · refine lv_iload hx hb dX0_startOfBlock_29 (lv_at hl 1 rfl) ?_
          refine lv_iload_n hx hb dX0_startOfBlock_31 rfl (lv_at hl 4 rfl) ?_
          refine lv_icmp_ne (tgt := 38) hx hb dX0_startOfBlock_32 (by decide) (fun c_32 => ?_) (fun c_32 => ?_)
          · obtain ⟨x_2, ex_2⟩ : ∃ y : Int32, y = y9 + 1 := ⟨_, rfl⟩
            refine lv_iinc (v := x_2) (lv' := [(4, .int x_2), (5, .int x9), (2, .long (c_st kb)), (0, .ref h0), (1, .int i)]) hx hb dX0_startOfBlock_38 hl (k := 1) rfl (by rw [ex_2]; rfl) (by decide) rfl (fun ls hl => ?_)
            obtain ⟨x_3, ex_3⟩ : ∃ y : Int32, y = x9 + 1 := ⟨_, rfl⟩
            refine lv_iinc (v := x_3) (lv' := [(5, .int x_3), (4, .int x_2), (2, .long (c_st kb)), (0, .ref h0), (1, .int i)]) hx hb dX0_startOfBlock_41 hl (k := 1) rfl (by rw [ex_3]; rfl) (by decide) rfl (fun ls hl => ?_)
            refine lv_goto (tgt := 11) hx hb dX0_startOfBlock_44 (by decide) ?_
            have hz : sg_b (c_st kb) k = true := by
              have q := sg_tst (x := c_st kb) (k := k) (by omega)
              rw [← h1] at q
              exact q.mp (lcmp0n c_26)
            have hs : sg_c (sg_b (c_st kb)) (k + 1) = sg_c (sg_b (c_st kb)) k + 1 := by simp [sg_c, hz]
            have hn : sg_c (sg_b (c_st kb)) k ≠ i0 := fun q => c_32 (by rw [h2, hi, q])
            exact ih (k + 1) x_3 x_2 (by omega) (by rw [ex_3, h1, nI_succ]) (by rw [ex_2, h2, hs, nI_succ]) (by omega) H locs ls hP hD hS (lv_sub hl [0, 1, 2, 3, 4] rfl)
          · refine lv_iload hx hb dX0_startOfBlock_35 (lv_at hl 0 rfl) ?_
            exact W.iret (v := x9) hx hb hr (fun t ht hW => ⟨⟨x9, (), rfl, ⟨k, by omega, h1, by have q := sg_tst (x := c_st kb) (k := k) (by omega); rw [← h1] at q; exact q.mp (lcmp0n c_26), by rw [h2, hi] at c_32; exact (nI_eq (by omega) (by omega)).mp c_32⟩, by rw [ht]; exact hP, va_K.moved hW.alike hK, hD⟩, hS.F ht⟩) hS.2.2 dX0_startOfBlock_37
  refine lv_aload_n hx hb dX0_startOfBlock_0 rfl (lv_at hl 0 rfl) ?_
  have hPc := hP.sub (ws' := [(h0, .inr (0, [.ref qb, .long kb, .int nx, .int un, .int ek, .int en])), (qb, .inl (cB, 64, .inl fb))]) [0, 1] rfl
  have hDc := hD.sub (ws' := [(h0, .inr (0, [.ref qb, .long kb, .int nx, .int un, .int ek, .int en])), (qb, .inl (cB, 64, .inl fb))]) [0, 1] (by decide) rfl
  have hKc := hK.sub (tys' := [(cB, .byte)]) [0] rfl
  have hFc := va_free (wc := [(h0, .inr (0, [.ref qb, .long kb, .int nx, .int un, .int ek, .int en])), (qb, .inl (cB, 64, .inl fb))]) hD hS hA [0, 1] rfl
  refine va_calll (va_runV (As := []) (rest := []) ⟨hx, hb, hml, hown, hts⟩ (c_blockStarts l dC dI h0 qb cB kb nx un ek en fb s.heap.size ) (cwV 0 hts gX0_startOfBlock_X0_blockStarts rfl rfl rfl (by decide +kernel) ⟨Nat.le_of_ble_eq_true rfl, Nat.le_of_ble_eq_true rfl⟩) ⟨fun a U g mk q => by obtain ⟨q0, q1, qP, qK, qD⟩ := q; exact ⟨q0, q1, qP, va_K.moved (u := U) (U := U.calling g mk a) (Vm.Alike.refl U.vm) qK, qD⟩, va_recv hKc hPc (ci := 0) (q0 := 0) rfl rfl, fun U hU hW => ⟨rfl, by rw [hU], by rw [hU]; exact hPc, va_K.moved hW.alike hKc, hDc.weaken (fun _ _ _ _ => trivial)⟩⟩ rfl rfl hl.1 rfl (lv_room (Nat.le_of_ble_eq_true rfl)) dX0_startOfBlock_1 ⟨(Nat.zero_le _), (Nat.zero_le _)⟩) hS (fun q _ h => hFc q h) hFc (fun r_4 u t H1 locs ht hvm hw_5 hB hz1 hk1 hS => ?_)
  obtain ⟨hP1, hK1, hD1⟩ := hB
  rw [ht] at hP1
  have hK1 := va_K.moved hvm.symm hK1
  try dsimp only at hw_5
  obtain ⟨hP, hD⟩ := va_join (wr := []) (w1 := [(h0, .inr (0, [.ref qb, .long kb, .int nx, .int un, .int ek, .int en])), (qb, .inl (cB, 64, .inl fb))]) hP hD [0, 1] [] rfl rfl (by decide) (by decide) hk1 hFc hP1 hD1
  generalize H1 = H at hP hS ⊢
  have hP : va_P (dC, dI) vwCl [(h0, .inr (0, [.ref qb, .long kb, .int nx, .int un, .int ek, .int en])), (qb, .inl (cB, 64, .inl fb))] H := hP
  have hD : va_D A [(h0, .inr (0, [.ref qb, .long kb, .int nx, .int un, .int ek, .int en])), (qb, .inl (cB, 64, .inl fb))] := hD
  subst hw_5
  refine lv_lstore_n (lv' := [(2, .long (c_st kb)), (0, .ref h0), (1, .int i)]) hx hb dX0_startOfBlock_4 rfl hl (by decide) rfl (fun ls hl => ?_)
  refine lv_iconst (v := 0) hx hb dX0_startOfBlock_5 (by decide) ?_
  refine lv_istore (lv' := [(4, .int 0), (2, .long (c_st kb)), (0, .ref h0), (1, .int i)]) hx hb dX0_startOfBlock_6 hl (by decide) rfl (fun ls hl => ?_)
  refine lv_iconst (v := 0) hx hb dX0_startOfBlock_8 (by decide) ?_
  refine lv_istore (lv' := [(5, .int 0), (4, .int 0), (2, .long (c_st kb)), (0, .ref h0), (1, .int i)]) hx hb dX0_startOfBlock_9 hl (by decide) rfl (fun ls hl => ?_)
  exact loop 64 0 0 0 (by omega) nI_0.symm nI_0.symm (Nat.zero_le _) H _ ls hP hD hS (lv_sub hl [0, 1, 2, 3, 4] rfl)
