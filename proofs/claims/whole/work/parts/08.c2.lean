theorem bI_1 {c : Prop} [Decidable c] : ¬ bI c = 0 ↔ c := by
  rw [bI_0]
  exact Decidable.not_not
theorem c_tk_t {nx un ek en n v : Int32} {S : Int64 × (Nat → Int32)} (h : c_ok nx un ek en S.1 (n - nx)) : (S.1 ||| ((1 : Int64) <<< ((n - nx).toInt64 &&& 63)), upd S.2 (n &&& 63).toNatClampNeg (vp_nar .byte v)) = c_tk nx un ek en n v S := (if_pos h).symm
theorem c_tk_f {nx un ek en n v : Int32} {S : Int64 × (Nat → Int32)} (h : ¬ c_ok nx un ek en S.1 (n - nx)) : S = c_tk nx un ek en n v S := (if_neg h).symm
theorem ge64 {z : Int32} {j : Nat} (h : z = nI j) (hj : j < 2 ^ 31) : (64 : Int32) ≤ z ↔ 64 ≤ j := by
  rw [h]
  exact nI_leI (a := 64) (by decide) hj
theorem sg_bj {x y : Int64} {j : Nat} (h : uN y = uN x / 2 ^ j) {i : Nat} : sg_b y i = sg_b x (j + i) := by
  unfold sg_b
  rw [h, Nat.testBit_div_two_pow, Nat.add_comm]
theorem sg_div {x y : Int64} {j : Nat} (h : uN y = uN x / 2 ^ j) : uN (g_sh y 1) = uN x / 2 ^ (j + 1) := by
  have e : uN (g_sh y 1) = uN y / 2 ^ 1 := g_sh_uN y (k := 1) (by decide)
  rw [e, h, Nat.div_div_eq_div_mul, ← Nat.pow_add]
theorem sg_tst {x : Int64} {k : Nat} (h : k < 64) : (¬ (g_sh x (nI k) &&& 1) = 0) ↔ sg_b x k = true := by
  rw [sg_b_bit, sg_b_sh h, Nat.add_zero]
  simp
