set_option maxHeartbeats 4000000 in
set_option maxRecDepth 100000 in
theorem law_loop {p : Program} {l : Launch} {e : Env} {s : State} {m : MethodId} {below : List Frame} {meth : Method} {c : Code} {dC : Nat → ClassId} {dI : Nat → Nat → Nat} {b h0 qb a1 q1 q2 q3 qo : Nat} {cB cU cV cZ cO : ClassId} {L : Nat} {xs : Nat → Int32} (hst : l.stackTraces = false) (hL : L ≤ 2560) (C0 : lw_At p s m meth c b L xs) (hZ : thr (fun q : Nat => s.heap.size ≤ q) s s.heap) (hK : va_K (dC, dI) vwCl [(cB, .byte), (cU, .int), (cV, .int), (cZ, .boolean), (cO, .long)] s) : ∀ (n t : Nat), t + n = 513 → LawAt p l e s m below meth c dC dI b h0 qb a1 q1 q2 q3 qo cB cU cV cZ cO t := by
  obtain ⟨hx, hb, hr, hml, hown0, hts, hX, hbl, hlocks, hgv⟩ := id C0
  have hbA : ¬ (fun q : Nat => s.heap.size ≤ q) b := Nat.not_le.mpr hbl
  intro n
  induction n with
  | zero =>
    intro t ht5 x4 kb nx ek en ed th bs u e9 S fb fU fB fH fo h4 hI H locs ls hP hD hS hl
    refine lv_iload hx hb dL_law_23 (lv_at hl 0 rfl) ?_
    refine lv_aload_n hx hb dL_law_25 rfl (lv_at hl 1 rfl) ?_
    refine va_slen hx hb hX hbl hbA hS dL_law_26 ?_
    refine lv_iconst (v := 5) hx hb dL_law_27 (by decide) ?_
    refine lv_isub hx hb dL_law_28 ?_
    refine lv_icmp_gt (tgt := 424) hx hb dL_law_29 (by decide) (fun c_29 => ?_) (fun c_29 => ?_)
    · refine lv_iconst (v := 1) hx hb dL_law_424 (by decide) ?_
      refine va_forget (fun q hq => hS.2.2 q hq) ?_
      refine W.widen (k := 1034) (n := 8481) (by omega) (by omega) ?_
      exact lw_ret hx hb hr hlocks dL_law_425
    · exact absurd (by rw [h4, law_in hL (by omega)]; omega) c_29
  | succ n ih =>
    intro t ht5 x4 kb nx ek en ed th bs u e9 S fb fU fB fH fo h4 hI H locs ls hP hD hS hl
    refine lv_iload hx hb dL_law_23 (lv_at hl 0 rfl) ?_
    refine lv_aload_n hx hb dL_law_25 rfl (lv_at hl 1 rfl) ?_
    refine va_slen hx hb hX hbl hbA hS dL_law_26 ?_
    refine lv_iconst (v := 5) hx hb dL_law_27 (by decide) ?_
    refine lv_isub hx hb dL_law_28 ?_
    refine lv_icmp_gt (tgt := 424) hx hb dL_law_29 (by decide) (fun c_29 => ?_) (fun c_29 => ?_)
    · refine lv_iconst (v := 1) hx hb dL_law_424 (by decide) ?_
      refine va_forget (fun q hq => hS.2.2 q hq) ?_
      refine W.widen (k := 1034) (n := 8481) (by omega) (by omega) ?_
      exact lw_ret hx hb hr hlocks dL_law_425
    · refine lv_aload_n hx hb dL_law_32 rfl (lv_at hl 1 rfl) ?_
      refine lv_iload hx hb dL_law_33 (lv_at hl 0 rfl) ?_
      refine va_sld hx hb hX hbl hbA hS (ld_0 h4 (by have q := c_29; rw [h4, law_in hL (by omega)] at q; omega) hL) dL_law_35 ?_
      refine lv_bipush (v := 7) hx hb dL_law_36 (by decide) ?_
      refine lv_iand hx hb dL_law_38 ?_
      have hLt : 5 * t + 5 ≤ L := by
        have q := c_29
        rw [h4, law_in hL (by omega)] at q
        omega
      obtain ⟨j, hj, ej⟩ := pk_andE (xs x4.toNatClampNeg) (m := 7) 3 (by decide)
      have hj8 : j = 0 ∨ j = 1 ∨ j = 2 ∨ j = 3 ∨ j = 4 ∨ j = 5 ∨ j = 6 ∨ j = 7 := by
        have : j < 8 := hj
        omega
      rcases hj8 with e8 | e8 | e8 | e8 | e8 | e8 | e8 | e8
      · rw [e8] at ej
        refine lv_tableIn (off := 41) (tgt := 80) hx hb dL_law_39 (by rw [ej]; decide) (by rw [ej]; decide) (by rw [ej]; decide) (by decide) ?_
        exact law_0 hst C0 hZ hK (by omega) hLt hL (ih (t + 1) (by omega)) x4 kb nx ek en ed th bs u e9 S fb fU fB fH fo h4 hI H locs ls hP hD hS (lv_sub hl [0, 1, 2, 3, 4] rfl)
      · rw [e8] at ej
        refine lv_tableIn (off := 64) (tgt := 103) hx hb dL_law_39 (by rw [ej]; decide) (by rw [ej]; decide) (by rw [ej]; decide) (by decide) ?_
        exact law_1 hst C0 hZ hK (by omega) hLt hL (ih (t + 1) (by omega)) x4 kb nx ek en ed th bs u e9 S fb fU fB fH fo h4 hI H locs ls hP hD hS (lv_sub hl [0, 1, 2, 3, 4] rfl)
      · rw [e8] at ej
        refine lv_tableIn (off := 176) (tgt := 215) hx hb dL_law_39 (by rw [ej]; decide) (by rw [ej]; decide) (by rw [ej]; decide) (by decide) ?_
        exact law_2 hst C0 hZ hK (by omega) hLt hL (ih (t + 1) (by omega)) x4 kb nx ek en ed th bs u e9 S fb fU fB fH fo h4 hI H locs ls hP hD hS (lv_sub hl [0, 1, 2, 3, 4] rfl)
      · rw [e8] at ej
        refine lv_tableIn (off := 201) (tgt := 240) hx hb dL_law_39 (by rw [ej]; decide) (by rw [ej]; decide) (by rw [ej]; decide) (by decide) ?_
        exact law_3 hst C0 hZ hK (by omega) hLt hL (ih (t + 1) (by omega)) x4 kb nx ek en ed th bs u e9 S fb fU fB fH fo h4 hI H locs ls hP hD hS (lv_sub hl [0, 1, 2, 3, 4] rfl)
      · rw [e8] at ej
        refine lv_tableIn (off := 214) (tgt := 253) hx hb dL_law_39 (by rw [ej]; decide) (by rw [ej]; decide) (by rw [ej]; decide) (by decide) ?_
        exact law_4 hst C0 hZ hK (by omega) hLt hL (ih (t + 1) (by omega)) x4 kb nx ek en ed th bs u e9 S fb fU fB fH fo h4 hI H locs ls hP hD hS (lv_sub hl [0, 1, 2, 3, 4] rfl)
      · rw [e8] at ej
        refine lv_tableIn (off := 270) (tgt := 309) hx hb dL_law_39 (by rw [ej]; decide) (by rw [ej]; decide) (by rw [ej]; decide) (by decide) ?_
        exact law_5 hst C0 hZ hK (by omega) hLt hL (ih (t + 1) (by omega)) x4 kb nx ek en ed th bs u e9 S fb fU fB fH fo h4 hI H locs ls hP hD hS (lv_sub hl [0, 1, 2, 3, 4] rfl)
      · rw [e8] at ej
        refine lv_tableIn (off := 354) (tgt := 393) hx hb dL_law_39 (by rw [ej]; decide) (by rw [ej]; decide) (by rw [ej]; decide) (by decide) ?_
        exact law_6 hst C0 hZ hK (by omega) hLt hL (ih (t + 1) (by omega)) x4 kb nx ek en ed th bs u e9 S fb fU fB fH fo h4 hI H locs ls hP hD hS (lv_sub hl [0, 1, 2, 3, 4] rfl)
      · rw [e8] at ej
        refine lv_tableOut (tgt := 418) hx hb dL_law_39 (Or.inr (by rw [ej]; decide)) (by decide) ?_
        obtain ⟨x_1, ex_1⟩ : ∃ y : Int32, y = x4 + 5 := ⟨_, rfl⟩
        refine lv_iinc (v := x_1) (lv' := [(4, .int x_1), (0, .ref b), (1, .ref h0), (2, .ref a1), (3, .ref qo)]) hx hb dL_law_418 hl (k := 0) rfl (by rw [ex_1]; rfl) (by decide) rfl (fun ls hl => ?_)
        refine lv_goto (tgt := 23) hx hb dL_law_421 (by decide) ?_
        refine W.widen (k := 7 + (t + 1)) (n := 271 + 6 * (t + 1)) (by omega) (by omega) ?_
        exact ih (t + 1) (by omega) x_1 kb nx ek en ed th bs u e9 S fb fU fB fH fo (x4_up h4 ex_1) hI H _ ls hP hD hS (lv_sub hl [0, 1, 2, 3, 4] rfl)
