def LawAt (p : Program) (l : Launch) (e : Env) (s : State) (m : MethodId) (below : List Frame) (meth : Method) (c : Code) (dC : Nat → ClassId) (dI : Nat → Nat → Nat) (b h0 qb a1 q1 q2 q3 qo : Nat) (cB cU cV cZ cO : ClassId) (t : Nat) : Prop :=
  ∀ (x4 : Int32) (kb : Int64) (nx ek en ed th bs : Int32) (u e9 : Nat) (S : aS) (fb fU fB fH : Nat → Int32) (fo : Nat → Int64), x4 = nI (5 * t) → INV nx ek en ed kb fb fU fB fH bs u e9 S → ∀ (H : Heap) (locs : List Loc) (ls : Array Slot), va_P (dC, dI) vwCl [(h0, .inr (0, [.ref qb, .long kb, .int nx, .int (nI u), .int ek, .int en])), (qb, .inl (cB, 64, .inl fb)), (a1, .inr (1, [.ref q1, .ref q2, .ref q3, .int nx, .int (nI u), .int ed, .int th, .int ek])), (q1, .inl (cU, 64, .inl fU)), (q2, .inl (cV, 64, .inl fB)), (q3, .inl (cZ, 64, .inl fH)), (qo, .inl (cO, 1, .inr (.inl fo)))] H → va_D (fun q : Nat => s.heap.size ≤ q) [(h0, .inr (0, [.ref qb, .long kb, .int nx, .int (nI u), .int ek, .int en])), (qb, .inl (cB, 64, .inl fb)), (a1, .inr (1, [.ref q1, .ref q2, .ref q3, .int nx, .int (nI u), .int ed, .int th, .int ek])), (q1, .inl (cU, 64, .inl fU)), (q2, .inl (cV, 64, .inl fB)), (q3, .inl (cZ, 64, .inl fH)), (qo, .inl (cO, 1, .inr (.inl fo)))] → va_S (fun q : Nat => s.heap.size ≤ q) s.heap H locs → lv_has ls 7 [(4, .int x4), (0, .ref b), (1, .ref h0), (2, .ref a1), (3, .ref qo)] → W p l e room_1 s m #[Value.ref b] below meth c H locs (7 + t) (271 + 6 * t) (lw_Z below #[Value.ref b] s) (F0 m 23 ls [])
theorem ld_in {x4 : Int32} {t k L : Nat} (h : x4 = nI (5 * t)) (hk : 5 * t + k < L) (hL : L ≤ 2560) : vp_in (x4 + nI k) L := by
  rw [h, nI_add]
  exact vp_in_nI hk (by omega)
theorem ld_0 {x4 : Int32} {t L : Nat} (h : x4 = nI (5 * t)) (hk : 5 * t < L) (hL : L ≤ 2560) : vp_in x4 L := by
  rw [h]
  exact vp_in_nI hk (by omega)
theorem x4_up {x4 y : Int32} {t : Nat} (h : x4 = nI (5 * t)) (hy : y = x4 + 5) : y = nI (5 * (t + 1)) := by
  rw [hy, h, show 5 * (t + 1) = 5 * t + 5 by omega, ← nI_add]
  rfl
theorem law_in {L i : Nat} (hL : L ≤ 2560) (hi : i ≤ 2565) : (Int32.ofNat L - 5 < nI i) ↔ ¬ i + 5 ≤ L := by
  have e1 : (Int32.ofNat L - 5 : Int32).toInt = (L : Int) - 5 := pk_sub_toInt (a := L) (b := 5) (by omega) (by decide)
  rw [Int32.lt_iff_toInt_lt, e1, nI_toInt (by omega)]
  omega
theorem lcmp_eq {x y : Int64} (h : x = y) : lg_cmp x y = 0 := by
  rw [h]
  unfold lg_cmp
  simp

