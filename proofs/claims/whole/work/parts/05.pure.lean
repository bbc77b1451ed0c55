/-! the mathematical value: bs (the number of the first byte that is not read), u bytes wait, T q: the byte at bs + q is taken, B q: that byte; e: the END's distance from bs -/
def updB (T : Nat → Bool) (k : Nat) : Nat → Bool := fun j => if j = k then true else T j
def bI (c : Prop) [Decidable c] : Int32 := if c then 1 else 0
theorem bI_t {c : Prop} [Decidable c] (h : c) : (1 : Int32) = bI c := (if_pos h).symm
theorem bI_f {c : Prop} [Decidable c] (h : ¬ c) : (0 : Int32) = bI c := (if_neg h).symm
theorem bI_iff {c d : Prop} [Decidable c] [Decidable d] (h : c ↔ d) : bI c = bI d := by
  unfold bI
  by_cases hc : c
  · rw [if_pos hc, if_pos (h.mp hc)]
  · rw [if_neg hc, if_neg (fun q => hc (h.mpr q))]
theorem bI_0 {c : Prop} [Decidable c] : bI c = 0 ↔ ¬ c := by
  unfold bI
  by_cases hc : c
  · rw [if_pos hc]; exact ⟨fun h => absurd h (by decide), fun h => absurd hc h⟩
  · rw [if_neg hc]; exact ⟨fun _ => hc, fun _ => rfl⟩
abbrev c_held (hb : Int64) (a : Int32) : Prop := ¬ a < 0 ∧ a < 64 ∧ ¬ (g_sh hb a &&& 1) = 0
abbrev c_from (hb : Int64) (a : Int32) : Prop := ¬ a < 0 ∧ a < 64 ∧ ¬ g_sh hb a = 0
abbrev c_bef (nx ek en a : Int32) : Prop := ek = 0 ∨ a < en - nx
abbrev c_ok (nx un ek en : Int32) (hb : Int64) (a : Int32) : Prop := ¬ a < 0 ∧ a < 64 - un ∧ ¬ c_held hb a ∧ c_bef nx ek en a
def c_tk (nx un ek en n v : Int32) (S : Int64 × (Nat → Int32)) : Int64 × (Nat → Int32) :=
  if c_ok nx un ek en S.1 (n - nx) then (S.1 ||| ((1 : Int64) <<< ((n - nx).toInt64 &&& 63)), upd S.2 (n &&& 63).toNatClampNeg (vp_nar .byte v)) else S
def c_by (v : Int64) (i : Nat) : Int32 := (g_sh v (8 * nI i)).toInt32.toInt8.toInt32
def c_sg (nx un ek en n : Int32) (v : Int64) : Nat → Int64 × (Nat → Int32) → Int64 × (Nat → Int32)
  | 0, S => S
  | i + 1, S => c_tk nx un ek en (n + nI i) (c_by v i) (c_sg nx un ek en n v i S)
def c_st (hb : Int64) : Int64 := hb &&& ((hb <<< ((1 : Int32).toInt64 &&& 63)) ^^^ (-1))
/-- the beginnings of blocks -/
def st (p : Nat → Bool) (k : Nat) : Bool := p k && !(decide (0 < k) && p (k - 1))
/-! bits -/
theorem sg_b_big {x : Int64} {k : Nat} (h : 64 ≤ k) : sg_b x k = false := Nat.testBit_lt_two_pow (Nat.lt_of_lt_of_le (uN_lt x) (Nat.pow_le_pow_right (n := 2) (by decide) h))
theorem sg_b_sh {x : Int64} {a : Nat} (ha : a < 64) (k : Nat) : sg_b (g_sh x (nI a)) k = sg_b x (a + k) := by
  unfold sg_b
  rw [g_sh_uN x ha, Nat.testBit_div_two_pow, Nat.add_comm]
theorem sg_b_bit (x : Int64) : (x &&& 1) = 0 ↔ sg_b x 0 = false := by
  rw [uN_bit]
  unfold sg_b
  rw [Nat.testBit_zero]
  have := Nat.mod_two_eq_zero_or_one (uN x)
  rcases this with h | h <;> rw [h] <;> decide
theorem sg_held {hb : Int64} {k : Nat} (h : k < 64) : c_held hb (nI k) ↔ sg_b hb k = true := by
  unfold c_held
  rw [sg_b_bit, sg_b_sh h, Nat.add_zero]
  constructor
  · intro q
    simpa using q.2.2
  · intro q
    exact ⟨nI_pos (by omega), nI_lt h (by decide), by rw [q]; decide⟩
theorem sg_held_out {hb : Int64} {a : Int32} (h : ¬ ∃ k, k < 64 ∧ a = nI k) : ¬ c_held hb a := by
  intro q
  rcases pk_ix a (n := 64) (by decide) with c | c | c
  · exact q.1 c
  · exact absurd q.2.1 (by
      have e : (64 : Int32) ≤ a := c
      rw [Int32.le_iff_toInt_le] at e
      rw [Int32.lt_iff_toInt_lt]
      omega)
  · exact h c
theorem sg_z {x : Int64} : x = 0 ↔ ∀ k, sg_b x k = false := by
  constructor
  · intro h k
    rw [h]
    exact Nat.zero_testBit k
  · intro h
    exact uN_inj (Nat.eq_of_testBit_eq (fun k => by rw [show (uN x).testBit k = false from h k]; exact (Nat.zero_testBit k).symm))
theorem sg_from {hb : Int64} {k : Nat} (h : k < 64) : c_from hb (nI k) ↔ ∃ j, j < 64 ∧ k ≤ j ∧ sg_b hb j = true := by
  unfold c_from
  constructor
  · intro q
    apply Classical.byContradiction
    intro hn
    apply q.2.2
    rw [sg_z]
    intro j
    rw [sg_b_sh h]
    by_cases hj : k + j < 64
    · cases hs : sg_b hb (k + j) with
      | false => rfl
      | true => exact absurd ⟨k + j, hj, by omega, hs⟩ hn
    · exact sg_b_big (by omega)
  · rintro ⟨j, h1, h2, h3⟩
    refine ⟨nI_pos (by omega), nI_lt h (by decide), fun q => ?_⟩
    have := sg_z.mp q (j - k)
    rw [sg_b_sh h, Nat.add_sub_cancel' h2, h3] at this
    cases this
theorem sg_cu : ∀ k, k < 64 → (((nI k).toInt64 &&& 63).toBitVec.smod 64).toNat = k := by decide +kernel
theorem sg_one {a : Nat} (ha : a < 64) : uN ((1 : Int64) <<< ((nI a).toInt64 &&& 63)) = 2 ^ a := by
  show ((1 : Int64).toBitVec <<< (((nI a).toInt64 &&& 63).toBitVec.smod 64).toNat).toNat = _
  rw [sg_cu a ha, BitVec.toNat_shiftLeft, Nat.shiftLeft_eq]
  have e : (1 : Int64).toBitVec.toNat = 1 := by decide
  rw [e, Nat.one_mul, Nat.mod_eq_of_lt (Nat.pow_lt_pow_right (by decide) ha)]
theorem sg_b_or {x : Int64} {a : Nat} (ha : a < 64) (k : Nat) : sg_b (x ||| ((1 : Int64) <<< ((nI a).toInt64 &&& 63))) k = (sg_b x k || decide (a = k)) := by
  unfold sg_b
  rw [uN_orr, Nat.testBit_or, sg_one ha, Nat.testBit_two_pow]
theorem sg_m1 : uN (-1 : Int64) = 2 ^ 64 - 1 := by decide
theorem sg_b_st (hb : Int64) {k : Nat} (hk : k < 64) : sg_b (c_st hb) k = st (sg_b hb) k := by
  unfold c_st sg_b st
  rw [uN_and, uN_xorr, uN_shl, sg_m1, Nat.testBit_and, Nat.testBit_xor, Nat.testBit_two_pow_sub_one]
  have e : ((2 * uN hb) % 18446744073709551616).testBit k = (decide (0 < k) && (uN hb).testBit (k - 1)) := by
    rw [show (18446744073709551616 : Nat) = 2 ^ 64 from rfl, Nat.testBit_mod_two_pow]
    cases k with
    | zero => simp
    | succ k => rw [show 2 * uN hb = 2 ^ 1 * uN hb by omega, Nat.testBit_two_pow_mul]; simp [hk]
  rw [e]
  simp [hk]
/-! numbers of bytes and their slots -/
def bN (x : Int32) : Nat := x.toBitVec.toNat
def sl (bs : Int32) (q : Nat) : Nat := ((bs + nI q) &&& 63).toNatClampNeg
theorem sl_eq (bs : Int32) (q : Nat) : sl bs q = (bN bs + q) % 64 := by
  unfold sl
  rw [pk_and (bs + nI q) 6 (by decide), nI_clamp (by omega)]
  unfold bN
  have e : (bs + nI q).toBitVec.toNat = (bs.toBitVec.toNat + q % 2 ^ 32) % 2 ^ 32 := by
    rw [Int32.toBitVec_add, BitVec.toNat_add]
    rfl
  rw [e]
  omega
theorem sl_inj {bs : Int32} {p q : Nat} (hp : p < 64) (hq : q < 64) (h : sl bs p = sl bs q) : p = q := by
  rw [sl_eq, sl_eq] at h
  omega
theorem sl_lt (bs : Int32) (q : Nat) : sl bs q < 64 := by
  rw [sl_eq]; exact Nat.mod_lt _ (by decide)
theorem nI_sub0 (x : Int32) (u : Nat) : x - nI u + nI u = x := Int32.sub_add_cancel x (nI u)
/-- a byte may be taken: in the words of the distance a from NEXT, and of the distance x from the base -/
theorem tk_iff {bs N ek en : Int32} {u e : Nat} {T : Nat → Bool} {held : Int32 → Prop} (hu : u ≤ 64) (hrun : ∀ q, q < u → T q = true) (hheld : ∀ k, k + u < 64 → (held (nI k) ↔ T (u + k) = true))
    (hek : ek = 0 ∨ (u ≤ e ∧ e ≤ 64 ∧ en = bs + nI e)) :
    (¬ (N - (bs + nI u)) < 0 ∧ (N - (bs + nI u)) < 64 - nI u ∧ ¬ held (N - (bs + nI u)) ∧ c_bef (bs + nI u) ek en (N - (bs + nI u))) ↔ ∃ q, q < 64 ∧ N = bs + nI q ∧ T q = false ∧ (ek = 0 ∨ q < e) := by
  have e64 : (64 : Int32) - nI u = nI (64 - u) := pk_sub (a := 64) hu
  constructor
  · rintro ⟨h1, h2, h3, h4⟩
    rw [e64] at h2
    rcases pk_ix (N - (bs + nI u)) (n := 64 - u) (by omega) with c | c | ⟨k, hk, c⟩
    · exact absurd c h1
    · exact absurd h2 (by
        rw [Int32.lt_iff_toInt_lt]
        rw [Int32.le_iff_toInt_le] at c
        omega)
    · have hN : N = bs + nI (u + k) := by
        rw [← nI_add, ← Int32.add_assoc, ← c, Int32.add_comm (bs + nI u), Int32.sub_add_cancel]
      refine ⟨u + k, by omega, hN, ?_, ?_⟩
      · rw [c, hheld k (by omega)] at h3
        simpa using h3
      · rcases hek with q | ⟨q1, q2, q3⟩
        · exact Or.inl q
        · rcases h4 with h4 | h4
          · exact Or.inl h4
          · right
            rw [c, q3] at h4
            have e1 : bs + nI e - (bs + nI u) = nI (e - u) := by
              have : nI e = nI u + nI (e - u) := by rw [nI_add]; congr 1; omega
              rw [this, ← Int32.add_assoc, Int32.add_comm (bs + nI u), Int32.add_sub_cancel]
            rw [e1, nI_ltI (by omega) (by omega)] at h4
            omega
  · rintro ⟨q, hq, rfl, hT, hE⟩
    have huq : u ≤ q := by
      apply Nat.le_of_not_lt
      intro h
      rw [hrun q h] at hT
      cases hT
    have e1 : bs + nI q - (bs + nI u) = nI (q - u) := by
      have : nI q = nI u + nI (q - u) := by rw [nI_add]; congr 1; omega
      rw [this, ← Int32.add_assoc, Int32.add_comm (bs + nI u), Int32.add_sub_cancel]
    rw [e1, e64]
    refine ⟨nI_pos (by omega), nI_lt (by omega) (by omega), ?_, ?_⟩
    · rw [hheld _ (by omega), show u + (q - u) = q by omega, hT]
      decide
    · rcases hE with h | h
      · exact Or.inl h
      · rcases hek with q0 | ⟨q1, q2, q3⟩
        · exact Or.inl q0
        · right
          rw [q3]
          have e2 : bs + nI e - (bs + nI u) = nI (e - u) := by
            have : nI e = nI u + nI (e - u) := by rw [nI_add]; congr 1; omega
            rw [this, ← Int32.add_assoc, Int32.add_comm (bs + nI u), Int32.add_sub_cancel]
          rw [e2]
          exact nI_lt (by omega) (by omega)
