abbrev aS : Type := (Nat → Bool) × (Nat → Int32)
abbrev a_ok (bs N ek : Int32) (e : Nat) (T : Nat → Bool) : Prop := ¬ (N - bs) < 0 ∧ (N - bs) < 64 ∧ T (N - bs).toNatClampNeg = false ∧ (ek = 0 ∨ (N - bs).toNatClampNeg < e)
theorem a_ok_iff {bs N ek : Int32} {e : Nat} {T : Nat → Bool} : a_ok bs N ek e T ↔ ∃ q, q < 64 ∧ N = bs + nI q ∧ T q = false ∧ (ek = 0 ∨ q < e) := by
  constructor
  · rintro ⟨h1, h2, h3, h4⟩
    rcases pk_ix (N - bs) (n := 64) (by decide) with c | c | ⟨k, hk, c⟩
    · exact absurd c h1
    · exact absurd h2 (by
        have e : (64 : Int32) ≤ N - bs := c
        rw [Int32.lt_iff_toInt_lt]
        rw [Int32.le_iff_toInt_le] at e
        omega)
    · rw [c, nI_clamp (by omega)] at h3 h4
      exact ⟨k, hk, by rw [← c, Int32.add_comm, Int32.sub_add_cancel], h3, h4⟩
  · rintro ⟨q, hq, rfl, h3, h4⟩
    have e : bs + nI q - bs = nI q := by rw [Int32.add_comm, Int32.add_sub_cancel]
    unfold a_ok
    rw [e, nI_clamp (by omega)]
    exact ⟨nI_pos (by omega), nI_lt hq (by decide), h3, h4⟩
def a_tk (bs ek : Int32) (e : Nat) (N v : Int32) (S : aS) : aS := if a_ok bs N ek e S.1 then (updB S.1 (N - bs).toNatClampNeg, upd S.2 (N - bs).toNatClampNeg v) else S
theorem a_tk_t {bs ek N v : Int32} {e q : Nat} {S : aS} (hq : q < 64) (hN : N = bs + nI q) (hT : S.1 q = false) (hE : ek = 0 ∨ q < e) : a_tk bs ek e N v S = (updB S.1 q, upd S.2 q v) := by
  unfold a_tk
  rw [if_pos (a_ok_iff.mpr ⟨q, hq, hN, hT, hE⟩)]
  have e : N - bs = nI q := by rw [hN, Int32.add_comm, Int32.add_sub_cancel]
  rw [e, nI_clamp (by omega)]
theorem a_tk_f {bs ek N v : Int32} {e : Nat} {S : aS} (h : ¬ ∃ q, q < 64 ∧ N = bs + nI q ∧ S.1 q = false ∧ (ek = 0 ∨ q < e)) : a_tk bs ek e N v S = S := by
  unfold a_tk
  rw [if_neg (fun z => h (a_ok_iff.mp z))]
def a_by (v : Int64) (i : Nat) : Int32 := (v >>> ((8 * nI i).toInt64 &&& 63)).toInt32 &&& 255
def a_sg (bs ek : Int32) (e : Nat) (n : Int32) (v : Int64) : Nat → aS → aS
  | 0, S => S
  | i + 1, S => a_tk bs ek e (n + nI i) (a_by v i) (a_sg bs ek e n v i S)
/-- what a state keeps -/
def IV (u e : Nat) (ek : Int32) (T : Nat → Bool) : Prop := u ≤ 64 ∧ (∀ q, q < u → T q = true) ∧ (∀ q, 64 ≤ q → T q = false) ∧ (ek = 0 ∨ (u ≤ e ∧ e ≤ 64 ∧ ∀ q, e ≤ q → T q = false))
theorem updB_s {T : Nat → Bool} {k : Nat} : updB T k k = true := if_pos rfl
theorem updB_n {T : Nat → Bool} {k j : Nat} (h : j ≠ k) : updB T k j = T j := if_neg h
theorem updB_le {T : Nat → Bool} {k j : Nat} (h : T j = true) : updB T k j = true := by
  unfold updB
  split
  · rfl
  · exact h
theorem IV_put {u e q : Nat} {ek : Int32} {T : Nat → Bool} (h : IV u e ek T) (hq : q < 64) (hE : ek = 0 ∨ q < e) : IV u e ek (updB T q) := by
  obtain ⟨h1, h2, h3, h4⟩ := h
  refine ⟨h1, fun p hp => updB_le (h2 p hp), fun p hp => by rw [updB_n (by omega)]; exact h3 p hp, ?_⟩
  rcases h4 with h4 | ⟨g1, g2, g3⟩
  · exact Or.inl h4
  · rcases hE with hE | hE
    · exact Or.inl hE
    · exact Or.inr ⟨g1, g2, fun p hp => by rw [updB_n (by omega)]; exact g3 p hp⟩
theorem IV_tk {u e : Nat} {bs ek N v : Int32} {S : aS} (h : IV u e ek S.1) : IV u e ek (a_tk bs ek e N v S).1 := by
  by_cases c : ∃ q, q < 64 ∧ N = bs + nI q ∧ S.1 q = false ∧ (ek = 0 ∨ q < e)
  · obtain ⟨q, c1, c2, c3, c4⟩ := c
    rw [a_tk_t c1 c2 c3 c4]
    exact IV_put h c1 c4
  · rw [a_tk_f c]
    exact h
theorem IV_sg {u e : Nat} {bs ek n : Int32} {v : Int64} {S : aS} (h : IV u e ek S.1) (i : Nat) : IV u e ek (a_sg bs ek e n v i S).1 := by
  induction i with
  | zero => exact h
  | succ i ih => exact IV_tk ih
/-- the class's long and bytes -/
def CRs (bs : Int32) (u : Nat) (S : aS) (C : Int64 × (Nat → Int32)) : Prop := (∀ k, sg_b C.1 k = S.1 (u + k)) ∧ ∀ q, q < 64 → S.1 q = true → C.2 (sl bs q) &&& 255 = S.2 q
theorem CR_tk {u e : Nat} {bs ek en N v w : Int32} {S : aS} {C : Int64 × (Nat → Int32)} (h : IV u e ek S.1) (hc : CRs bs u S C) (he : ek = 0 ∨ en = bs + nI e) (hv : vp_nar .byte v &&& 255 = w) :
    CRs bs u (a_tk bs ek e N w S) (c_tk (bs + nI u) (nI u) ek en N v C) := by
  obtain ⟨h1, h2, h3, h4⟩ := id h
  obtain ⟨g1, g2⟩ := id hc
  have key := tk_iff (bs := bs) (N := N) (ek := ek) (en := en) (u := u) (e := e) (T := S.1) (held := c_held C.1) h1 h2 (fun k hk => by rw [sg_held (by omega), g1 k]) (by
    rcases h4 with h4 | ⟨z1, z2, -⟩
    · exact Or.inl h4
    · rcases he with he | he
      · exact Or.inl he
      · exact Or.inr ⟨z1, z2, he⟩)
  unfold c_tk
  by_cases c : ∃ q, q < 64 ∧ N = bs + nI q ∧ S.1 q = false ∧ (ek = 0 ∨ q < e)
  · rw [if_pos (key.mpr c)]
    obtain ⟨q, c1, c2, c3, c4⟩ := c
    rw [a_tk_t c1 c2 c3 c4]
    have huq : u ≤ q := by
      apply Nat.le_of_not_lt
      intro z
      rw [h2 q z] at c3
      cases c3
    have e1 : N - (bs + nI u) = nI (q - u) := by
      have : nI q = nI u + nI (q - u) := by rw [nI_add]; congr 1; omega
      rw [c2, this, ← Int32.add_assoc, Int32.add_comm (bs + nI u), Int32.add_sub_cancel]
    refine ⟨fun k => ?_, fun p hp hT => ?_⟩
    · show sg_b (C.1 ||| _) k = updB S.1 q (u + k)
      rw [e1, sg_b_or (by omega), g1 k]
      unfold updB
      by_cases z : u + k = q
      · rw [if_pos z, show decide (q - u = k) = true from decide_eq_true (by omega), Bool.or_true]
      · rw [if_neg z, show decide (q - u = k) = false from decide_eq_false (by omega), Bool.or_false]
    · show upd C.2 (N &&& 63).toNatClampNeg (vp_nar .byte v) (sl bs p) &&& 255 = upd S.2 q w p
      have e2 : (N &&& 63).toNatClampNeg = sl bs q := by rw [c2]; rfl
      rw [e2]
      by_cases z : p = q
      · rw [z, pk_us, pk_us]
        exact hv
      · rw [pk_un (fun y => z (sl_inj hp c1 y)), pk_un z]
        have hT : updB S.1 q p = true := hT
        rw [updB_n z] at hT
        exact g2 p hp hT
  · rw [if_neg (fun z => c (key.mp z)), a_tk_f c]
    exact hc
theorem by_eq (v : Int64) {i : Nat} (hi : i < 8) : vp_nar .byte (c_by v i) &&& 255 = a_by v i := by
  unfold c_by a_by
  have e8 : (8 : Int32) * nI i = nI (8 * i) := pk_mul 8 i
  rw [pk_vb, e8]
  have h0 : ∀ x : Int32, x.toInt8.toInt32 &&& 255 = x &&& 255 := by
    intro x
    rw [pk_and x.toInt8.toInt32 8 (by decide), pk_and x 8 (by decide)]
    congr 1
    apply Nat.eq_of_testBit_eq
    intro j
    rw [Nat.testBit_mod_two_pow, Nat.testBit_mod_two_pow]
    by_cases hj : j < 8
    · congr 1
      show x.toInt8.toInt32.toBitVec.getLsbD j = x.toBitVec.getLsbD j
      rw [Int8.toBitVec_toInt32, BitVec.getLsbD_signExtend]
      rw [Int32.toBitVec_toInt8, BitVec.signExtend_eq_setWidth_of_le _ (by decide), BitVec.getLsbD_setWidth]
      simp [hj, show j < 32 by omega]
    · simp [hj]
  rw [h0, pk_and _ 8 (by decide), pk_and _ 8 (by decide)]
  congr 1
  apply Nat.eq_of_testBit_eq
  intro j
  rw [Nat.testBit_mod_two_pow, Nat.testBit_mod_two_pow]
  by_cases hj : j < 8
  · congr 1
    show (g_sh v (nI (8 * i))).toInt32.toBitVec.getLsbD j = (v >>> ((nI (8 * i)).toInt64 &&& 63)).toInt32.toBitVec.getLsbD j
    rw [Int64.toBitVec_toInt32, Int64.toBitVec_toInt32, BitVec.signExtend_eq_setWidth_of_le _ (by decide), BitVec.signExtend_eq_setWidth_of_le _ (by decide), BitVec.getLsbD_setWidth, BitVec.getLsbD_setWidth]
    congr 1
    have a1 : (g_sh v (nI (8 * i))).toBitVec.getLsbD j = v.toBitVec.getLsbD (8 * i + j) := sg_b_sh (x := v) (a := 8 * i) (by omega) j
    have a2 : (v >>> ((nI (8 * i)).toInt64 &&& 63)).toBitVec = v.toBitVec.sshiftRight (8 * i) := by
      show v.toBitVec.sshiftRight (((nI (8 * i)).toInt64 &&& 63).toBitVec.smod 64).toNat = _
      rw [sg_cu (8 * i) (by omega)]
    rw [a1, a2, BitVec.getLsbD_sshiftRight]
    simp [show 8 * i + j < 64 by omega, show ¬ 64 ≤ j by omega]
  · simp [hj]
theorem CR_sg {u e : Nat} {bs ek en n : Int32} {v : Int64} {S : aS} {C : Int64 × (Nat → Int32)} (h : IV u e ek S.1) (hc : CRs bs u S C) (he : ek = 0 ∨ en = bs + nI e) :
    ∀ i, i ≤ 8 → CRs bs u (a_sg bs ek e n v i S) (c_sg (bs + nI u) (nI u) ek en n v i C) := by
  intro i
  induction i with
  | zero => exact fun _ => hc
  | succ i ih => exact fun hi => CR_tk (IV_sg h i) (ih (by omega)) he (by_eq v (by omega))
/-- NEXT moves on: j bytes -/
theorem CR_mv {u e : Nat} {bs ek : Int32} {S : aS} {hb hb' : Int64} {fb : Nat → Int32} {j : Nat} (h : IV u e ek S.1) (hc : CRs bs u S (hb, fb)) (hj : j ≤ 64) (h1 : ∀ i, i < j → sg_b hb i = true) (h2 : j < 64 → sg_b hb j = false) (h3 : uN hb' = uN hb / 2 ^ j) :
    IV (u + j) e ek S.1 ∧ S.1 (u + j) = false ∧ CRs bs (u + j) S (hb', fb) := by
  obtain ⟨v1, v2, v3, v4⟩ := h
  obtain ⟨g1, g2⟩ := hc
  have run : ∀ q, q < u + j → S.1 q = true := by
    intro q hq
    by_cases z : q < u
    · exact v2 q z
    · have := h1 (q - u) (by omega)
      rw [g1, show u + (q - u) = q by omega] at this
      exact this
  have le : u + j ≤ 64 := by
    apply Nat.le_of_not_lt
    intro z
    have := run 64 z
    rw [v3 64 (Nat.le_refl _)] at this
    cases this
  refine ⟨⟨le, run, v3, ?_⟩, ?_, fun k => ?_, g2⟩
  · rcases v4 with v4 | ⟨w1, w2, w3⟩
    · exact Or.inl v4
    · refine Or.inr ⟨?_, w2, w3⟩
      apply Nat.le_of_not_lt
      intro z
      have := run e z
      rw [w3 e (Nat.le_refl _)] at this
      cases this
  · by_cases z : j < 64
    · rw [← g1 j]; exact h2 z
    · exact v3 _ (by omega)
  · show sg_b hb' k = _
    have e1 : sg_b hb' k = sg_b hb (j + k) := by
      unfold sg_b
      rw [h3, Nat.testBit_div_two_pow, Nat.add_comm]
    rw [e1, g1, Nat.add_assoc]
/-- a byte is read -/
theorem CR_rd {u : Nat} {bs : Int32} {S : aS} {C : Int64 × (Nat → Int32)} (hc : CRs bs (u + 1) S C) (h3 : ∀ q, 64 ≤ q → S.1 q = false) : CRs (bs + 1) u (fun q => S.1 (q + 1), fun q => S.2 (q + 1)) C := by
  obtain ⟨g1, g2⟩ := hc
  refine ⟨fun k => by rw [g1, show u + 1 + k = u + k + 1 by omega], fun q hq hT => ?_⟩
  have hT : S.1 (q + 1) = true := hT
  have hq1 : q + 1 < 64 := by
    apply Nat.lt_of_not_le
    intro z
    rw [h3 _ z] at hT
    cases hT
  have e1 : sl (bs + 1) q = sl bs (q + 1) := by
    unfold sl
    rw [nI_succ, Int32.add_assoc, Int32.add_comm 1]
  rw [e1]
  exact g2 (q + 1) hq1 hT
theorem IV_rd {u e : Nat} {ek : Int32} {T : Nat → Bool} (h : IV (u + 1) e ek T) : IV u (e - 1) ek (fun q => T (q + 1)) := by
  obtain ⟨h1, h2, h3, h4⟩ := h
  refine ⟨by omega, fun q hq => h2 _ (by omega), fun q hq => h3 _ (by omega), ?_⟩
  rcases h4 with h4 | ⟨z1, z2, z3⟩
  · exact Or.inl h4
  · exact Or.inr ⟨by omega, by omega, fun q hq => z3 _ (by omega)⟩
/-- the model's three arrays -/
def MRa (u : Nat) (S : aS) (fU fB fH : Nat → Int32) : Prop := (∀ k, k < 64 → fH k = if S.1 (u + k) = true then 1 else 0) ∧ (∀ k, k < 64 → S.1 (u + k) = true → fB k = S.2 (u + k)) ∧ ∀ q, q < u → fU q = S.2 q
theorem MR_put {u k : Nat} {S : aS} {fU fB fH : Nat → Int32} {w : Int32} (h : MRa u S fU fB fH) : MRa u (updB S.1 (u + k), upd S.2 (u + k) w) fU (upd fB k w) (upd fH k 1) := by
  obtain ⟨h1, h2, h3⟩ := h
  refine ⟨fun j hj => ?_, fun j hj hT => ?_, fun q hq => ?_⟩
  · show upd fH k 1 j = if updB S.1 (u + k) (u + j) = true then 1 else 0
    by_cases z : j = k
    · rw [z, pk_us, updB_s, if_pos rfl]
    · rw [pk_un z, updB_n (by omega)]
      exact h1 j hj
  · show upd fB k w j = upd S.2 (u + k) w (u + j)
    by_cases z : j = k
    · rw [z, pk_us, pk_us]
    · have hT : updB S.1 (u + k) (u + j) = true := hT
      rw [updB_n (by omega)] at hT
      rw [pk_un z, pk_un (by omega)]
      exact h2 j hj hT
  · show fU q = upd S.2 (u + k) w q
    rw [pk_un (by omega)]
    exact h3 q hq
theorem MR_up {u : Nat} {S : aS} {fU fB fH fB' fH' : Nat → Int32} (h : MRa u S fU fB fH) (hT : S.1 u = true) (h64 : ∀ q, 64 ≤ q → S.1 q = false) (hB : ∀ k, k < 63 → fB' k = fB (k + 1)) (hH : ∀ k, k < 63 → fH' k = fH (k + 1)) (hl : fH' 63 = 0) : MRa (u + 1) S (upd fU u (fB 0)) fB' fH' := by
  obtain ⟨h1, h2, h3⟩ := h
  refine ⟨fun j hj => ?_, fun j hj hT' => ?_, fun q hq => ?_⟩
  · by_cases z : j < 63
    · rw [hH j z, h1 (j + 1) (by omega), show u + (j + 1) = u + 1 + j by omega]
    · rw [show j = 63 by omega, hl, h64 _ (by omega)]
      rfl
  · by_cases z : j < 63
    · rw [hB j z, h2 (j + 1) (by omega) (by rw [show u + (j + 1) = u + 1 + j by omega]; exact hT'), show u + (j + 1) = u + 1 + j by omega]
    · rw [h64 _ (by omega)] at hT'
      cases hT'
  · by_cases z : q = u
    · rw [z, pk_us]
      have := h2 0 (by decide) hT
      exact this
    · rw [pk_un z]
      exact h3 q (by omega)
theorem MR_rd {u : Nat} {S : aS} {fU fU' fB fH : Nat → Int32} (h : MRa (u + 1) S fU fB fH) (hU : ∀ k, k < u → fU' k = fU (k + 1)) : MRa u (fun q => S.1 (q + 1), fun q => S.2 (q + 1)) fU' fB fH := by
  obtain ⟨h1, h2, h3⟩ := h
  refine ⟨fun j hj => ?_, fun j hj hT => ?_, fun q hq => ?_⟩
  · rw [h1 j hj, show u + 1 + j = u + j + 1 by omega]
  · have hT : S.1 (u + j + 1) = true := hT
    rw [h2 j hj (by rw [show u + 1 + j = u + j + 1 by omega]; exact hT), show u + 1 + j = u + j + 1 by omega]
  · rw [hU q hq, h3 (q + 1) (by omega)]
