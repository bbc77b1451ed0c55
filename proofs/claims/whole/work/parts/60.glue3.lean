section Glue3
variable {nx ek en ed bs : Int32} {kb : Int64} {fb fU fB fH : Nat → Int32} {u e9 : Nat} {S : aS}
theorem g_told (h : INV nx ek en ed kb fb fU fB fH bs u e9 S) {n r9 r2 : Int32} (hc : (n = 0 ∧ r9 = nx) ∨ (n = 1 ∧ r9 = 64 - nI u) ∨ (n = 2 ∧ r9 = nI u) ∨ (n = 3 ∧ r9 = g_bc kb) ∨ (n = 4 ∧ r9 = g_bc (c_st kb)) ∨ (n = 5 ∧ r9 = (if ek = 0 then 0 else 1))) (hm : (n = 0 ∧ r2 = nx) ∨ (n = 1 ∧ r2 = 64 - nI u) ∨ (n = 2 ∧ r2 = nI u) ∨ (n = 3 ∧ r2 = nI (sg_c (pH fH) 64)) ∨ (n = 4 ∧ r2 = nI (sg_c (st (pH fH)) 64)) ∨ (n = 5 ∧ r2 = (if ek = 0 then 0 else 1))) : r9 = r2 := by
  rcases hc with ⟨a1, a2⟩ | ⟨a1, a2⟩ | ⟨a1, a2⟩ | ⟨a1, a2⟩ | ⟨a1, a2⟩ | ⟨a1, a2⟩
  · rcases hm with ⟨b1, b2⟩ | ⟨b1, b2⟩ | ⟨b1, b2⟩ | ⟨b1, b2⟩ | ⟨b1, b2⟩ | ⟨b1, b2⟩
    · rw [a2, b2]
    · exact absurd (a1.symm.trans b1) (by decide)
    · exact absurd (a1.symm.trans b1) (by decide)
    · exact absurd (a1.symm.trans b1) (by decide)
    · exact absurd (a1.symm.trans b1) (by decide)
    · exact absurd (a1.symm.trans b1) (by decide)
  · rcases hm with ⟨b1, b2⟩ | ⟨b1, b2⟩ | ⟨b1, b2⟩ | ⟨b1, b2⟩ | ⟨b1, b2⟩ | ⟨b1, b2⟩
    · exact absurd (a1.symm.trans b1) (by decide)
    · rw [a2, b2]
    · exact absurd (a1.symm.trans b1) (by decide)
    · exact absurd (a1.symm.trans b1) (by decide)
    · exact absurd (a1.symm.trans b1) (by decide)
    · exact absurd (a1.symm.trans b1) (by decide)
  · rcases hm with ⟨b1, b2⟩ | ⟨b1, b2⟩ | ⟨b1, b2⟩ | ⟨b1, b2⟩ | ⟨b1, b2⟩ | ⟨b1, b2⟩
    · exact absurd (a1.symm.trans b1) (by decide)
    · exact absurd (a1.symm.trans b1) (by decide)
    · rw [a2, b2]
    · exact absurd (a1.symm.trans b1) (by decide)
    · exact absurd (a1.symm.trans b1) (by decide)
    · exact absurd (a1.symm.trans b1) (by decide)
  · rcases hm with ⟨b1, b2⟩ | ⟨b1, b2⟩ | ⟨b1, b2⟩ | ⟨b1, b2⟩ | ⟨b1, b2⟩ | ⟨b1, b2⟩
    · exact absurd (a1.symm.trans b1) (by decide)
    · exact absurd (a1.symm.trans b1) (by decide)
    · exact absurd (a1.symm.trans b1) (by decide)
    · rw [a2, b2, g_bc_eq, sg_c_congr 64 (fun k hk => (inv_bit h hk).symm)]
    · exact absurd (a1.symm.trans b1) (by decide)
    · exact absurd (a1.symm.trans b1) (by decide)
  · rcases hm with ⟨b1, b2⟩ | ⟨b1, b2⟩ | ⟨b1, b2⟩ | ⟨b1, b2⟩ | ⟨b1, b2⟩ | ⟨b1, b2⟩
    · exact absurd (a1.symm.trans b1) (by decide)
    · exact absurd (a1.symm.trans b1) (by decide)
    · exact absurd (a1.symm.trans b1) (by decide)
    · exact absurd (a1.symm.trans b1) (by decide)
    · rw [a2, b2, g_bc_eq, inv_cnt h (Nat.le_refl 64)]
    · exact absurd (a1.symm.trans b1) (by decide)
  · rcases hm with ⟨b1, b2⟩ | ⟨b1, b2⟩ | ⟨b1, b2⟩ | ⟨b1, b2⟩ | ⟨b1, b2⟩ | ⟨b1, b2⟩
    · exact absurd (a1.symm.trans b1) (by decide)
    · exact absurd (a1.symm.trans b1) (by decide)
    · exact absurd (a1.symm.trans b1) (by decide)
    · exact absurd (a1.symm.trans b1) (by decide)
    · exact absurd (a1.symm.trans b1) (by decide)
    · rw [a2, b2]
theorem st_lt {p : Nat → Bool} {k : Nat} (hk : k < 64) (h : p k = true) : sg_c p k < sg_c p 64 := by
  have h1 := sg_cs h
  have h2 := sg_c_mono' p (show k + 1 ≤ 64 by omega)
  omega
theorem g_blk_cm (h : INV nx ek en ed kb fb fU fB fH bs u e9 S) {i : Int32} {i0 k : Nat} (hc : i < 0 ∨ g_bc (c_st kb) ≤ i) (m1 : i = nI i0) (m2 : i0 < 2 ^ 31) (m3 : k < 64) (m4 : st (pH fH) k = true) (m5 : sg_c (st (pH fH)) k = i0) : False := by
  have hl := st_lt m3 m4
  have hN := sg_c_le (st (pH fH)) 64
  rcases hc with z | z
  · rw [m1] at z
    exact nI_pos m2 z
  · rw [m1, g_bc_eq, inv_cnt h (Nat.le_refl 64)] at z
    have := (nI_leI (by omega) m2).mp z
    omega
theorem g_blk_mc (h : INV nx ek en ed kb fb fU fB fH bs u e9 S) {i : Int32} {i0 : Nat} (m1 : i = nI i0) (m2 : i0 < sg_c (sg_b (c_st kb)) 64) (hm : i < 0 ∨ ∃ i1 : Nat, i = nI i1 ∧ i1 < 2 ^ 31 ∧ sg_c (st (pH fH)) 64 ≤ i1) : False := by
  have hN := sg_c_le (sg_b (c_st kb)) 64
  rcases hm with z | ⟨i1, z1, z2, z3⟩
  · rw [m1] at z
    exact nI_pos (by omega) z
  · have := (nI_eq (by omega) z2).mp (m1.symm.trans z1)
    rw [inv_cnt h (Nat.le_refl 64)] at m2
    omega
theorem g_blk (h : INV nx ek en ed kb fb fU fB fH bs u e9 S) {i b r9 r2 : Int32} {i0 k i1 k1 : Nat} (a1 : i = nI i0) (a2 : i0 < sg_c (sg_b (c_st kb)) 64) (a3 : k < 64) (a4 : sg_b (c_st kb) k = true) (a5 : sg_c (sg_b (c_st kb)) k = i0)
    (a6 : (b = 0 ∧ r9 = nx + nI k) ∨ (¬ b = 0 ∧ ∃ j : Nat, r9 = nI j ∧ k + j ≤ 64 ∧ (∀ i, i < j → sg_b kb (k + i) = true) ∧ (k + j < 64 → sg_b kb (k + j) = false)))
    (m1 : i = nI i1) (m2 : i1 < 2 ^ 31) (m3 : k1 < 64) (m4 : st (pH fH) k1 = true) (m5 : sg_c (st (pH fH)) k1 = i1)
    (m6 : (b = 0 ∧ r2 = nx + nI k1) ∨ (¬ b = 0 ∧ ∃ j : Nat, r2 = nI j ∧ k1 + j ≤ 64 ∧ (∀ i, i < j → pH fH (k1 + i) = true) ∧ (k1 + j < 64 → pH fH (k1 + j) = false))) : r9 = r2 := by
  have hN := sg_c_le (sg_b (c_st kb)) 64
  have ei : i0 = i1 := (nI_eq (by omega) m2).mp (a1.symm.trans m1)
  rw [inv_st h a3] at a4
  rw [inv_cnt h (by omega)] at a5
  have ek1 : k = k1 := sg_c_uni a4 m4 (by rw [a5, m5, ei])
  subst ek1
  rcases a6 with ⟨c1, c2⟩ | ⟨c1, j, c2, c3, c4, c5⟩
  · rcases m6 with ⟨d1, d2⟩ | ⟨d1, -⟩
    · rw [c2, d2]
    · exact absurd c1 d1
  · rcases m6 with ⟨d1, -⟩ | ⟨d1, j1, d2, d3, d4, d5⟩
    · exact absurd d1 c1
    · have : j = j1 := by
        rcases Nat.lt_trichotomy j j1 with z | z | z
        · have w := d4 j z
          rw [inv_bit h (by omega), c5 (by omega)] at w
          cases w
        · exact z
        · have w := c4 j1 z
          rw [← inv_bit h (by omega), d5 (by omega)] at w
          cases w
      rw [c2, d2, this]
end Glue3
