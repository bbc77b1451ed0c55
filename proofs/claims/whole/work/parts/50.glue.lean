/-- the class and the reference hold one mathematical value -/
def INV (nx ek en ed : Int32) (kb : Int64) (fb fU fB fH : Nat → Int32) (bs : Int32) (u e9 : Nat) (S : aS) : Prop := nx = bs + nI u ∧ IV u e9 ek S.1 ∧ S.1 u = false ∧ (ek = 0 ∨ ek = 1) ∧ CRs bs u S (kb, fb) ∧ (ek = 0 ∨ (en = bs + nI e9 ∧ ed = bs + nI e9)) ∧ MRa u S fU fB fH
section Glue
variable {nx ek en ed bs : Int32} {kb : Int64} {fb fU fB fH : Nat → Int32} {u e9 : Nat} {S : aS}
theorem inv_en (h : INV nx ek en ed kb fb fU fB fH bs u e9 S) : ek = 0 ∨ en = bs + nI e9 := h.2.2.2.2.2.1.imp id (fun z => z.1)
theorem inv_ed (h : INV nx ek en ed kb fb fU fB fH bs u e9 S) : ek = 0 ∨ ed = bs + nI e9 := h.2.2.2.2.2.1.imp id (fun z => z.2)
theorem inv_bit (h : INV nx ek en ed kb fb fU fB fH bs u e9 S) {k : Nat} (hk : k < 64) : pH fH k = sg_b kb k := by
  obtain ⟨-, -, -, -, h5, -, h7⟩ := h
  have e1 : sg_b kb k = S.1 (u + k) := h5.1 k
  rw [e1]
  cases w : S.1 (u + k) with
  | true => exact pH_t ((MR_nz h7 hk).mpr w)
  | false =>
    refine pH_f ?_
    rw [h7.1 k hk, w]
    rfl
theorem st_congr {p q : Nat → Bool} {n : Nat} (h : ∀ k, k < n → p k = q k) {k : Nat} (hk : k < n) : st p k = st q k := by
  unfold st
  rw [h k hk]
  cases k with
  | zero => rfl
  | succ k => rw [show k + 1 - 1 = k from rfl, h k (by omega)]
theorem inv_st (h : INV nx ek en ed kb fb fU fB fH bs u e9 S) {k : Nat} (hk : k < 64) : sg_b (c_st kb) k = st (pH fH) k := by
  rw [sg_b_st kb hk]
  exact st_congr (n := 64) (fun j hj => (inv_bit h hj).symm) hk
theorem inv_cnt (h : INV nx ek en ed kb fb fU fB fH bs u e9 S) {k : Nat} (hk : k ≤ 64) : sg_c (sg_b (c_st kb)) k = sg_c (st (pH fH)) k := sg_c_congr k (fun j hj => inv_st h (by omega))
theorem g_new {n : Int32} : INV n 0 0 ed 0 fb fU fB fH n 0 0 (fun _ => false, fun _ => 0) ↔ ∀ k, k < 64 → fH k = 0 := by
  constructor
  · intro h k hk
    have := h.2.2.2.2.2.2.1 k hk
    exact this
  · intro h
    refine ⟨by rw [nI_0, Int32.add_zero], ⟨by omega, fun q hq => absurd hq (by omega), fun _ _ => rfl, Or.inl rfl⟩, rfl, Or.inl rfl, ⟨fun k => Nat.zero_testBit k, fun q _ z => (by cases z)⟩, Or.inl rfl, ⟨fun k hk => h k hk, fun k _ z => (by cases z), fun q hq => absurd hq (by omega)⟩⟩
theorem run_uni {T : Nat → Bool} {a b : Nat} (h1 : ∀ q, q < a → T q = true) (h2 : T a = false) (h3 : ∀ q, q < b → T q = true) (h4 : T b = false) : a = b := by
  rcases Nat.lt_trichotomy a b with z | z | z
  · rw [h3 a z] at h2; cases h2
  · exact z
  · rw [h1 b z] at h4; cases h4
theorem g_seg (h : INV nx ek en ed kb fb fU fB fH bs u e9 S) {n : Int32} {v : Int64} {i j u' : Nat} {k9 kb' : Int64} {fb' gU gB gH : Nat → Int32} (hi : i ≤ 8)
    (c1 : (k9, fb') = c_sg nx (nI u) ek en n v i (kb, fb)) (c2 : j ≤ 64) (c3 : ∀ i, i < j → sg_b k9 i = true) (c4 : j < 64 → sg_b k9 j = false) (c5 : uN kb' = uN k9 / 2 ^ j)
    (m1 : IV u' e9 ek (a_sg bs ek e9 n v i S).1) (m2 : (a_sg bs ek e9 n v i S).1 u' = false) (m3 : MRa u' (a_sg bs ek e9 n v i S) gU gB gH) :
    u' = u + j ∧ INV (bs + nI u') ek en ed kb' fb' gU gB gH bs u' e9 (a_sg bs ek e9 n v i S) := by
  obtain ⟨h1, h2, h3, h4, h5, h6, h7⟩ := id h
  have a1 := CR_sg (n := n) (v := v) h2 h5 (inv_en h) i hi
  rw [← h1, ← c1] at a1
  obtain ⟨b1, b2, b3⟩ := CR_mv (IV_sg h2 i) a1 c2 c3 c4 c5
  have eu : u' = u + j := run_uni m1.2.1 m2 b1.2.1 b2
  subst eu
  exact ⟨rfl, rfl, m1, m2, h4, b3, h6, m3⟩
theorem g_eok (h : INV nx ek en ed kb fb fU fB fH bs u e9 S) (n : Int32) : c_eok nx (nI u) ek kb n ↔ m_eok nx (nI u) ek fH n := by
  obtain ⟨h1, h2, h3, h4, h5, h6, h7⟩ := id h
  unfold c_eok m_eok
  have e64 : (64 : Int32) - nI u = nI (64 - u) := pk_sub (a := 64) h2.1
  have key : ¬ (n - nx) < 0 → (n - nx) ≤ 64 - nI u → (¬ c_from kb (n - nx) ↔ ∀ k, k < 64 → (n - nx).toNatClampNeg ≤ k → fH k = 0) := by
    intro a1 a2
    rw [e64] at a2
    obtain ⟨d, hd, ed⟩ := nI_of a1
    rw [ed] at a2 ⊢
    have hd2 := (nI_leI hd (by omega)).mp a2
    rw [nI_clamp hd]
    have hz : ∀ k, k < 64 → (fH k = 0 ↔ sg_b kb k = false) := fun k hk => by
      rw [← inv_bit h hk]
      constructor
      · exact fun z => pH_f z
      · intro z
        apply Classical.byContradiction
        intro y
        rw [pH_t y] at z
        cases z
    by_cases q : d < 64
    · rw [sg_from q]
      constructor
      · intro z k hk hdk
        rw [hz k hk]
        cases w : sg_b kb k with
        | false => rfl
        | true => exact absurd ⟨k, hk, hdk, w⟩ z
      · rintro z ⟨k, hk, hdk, w⟩
        rw [(hz k hk).mp (z k hk hdk)] at w
        cases w
    · constructor
      · intro _ k hk hdk
        omega
      · intro _ z
        have := z.2.1
        rw [show d = 64 by omega] at this
        exact absurd this (by decide)
  constructor
  · rintro ⟨a1, a2, a3, a4⟩
    exact ⟨a1, a2, Int32.not_lt.mp a3, (key a2 (Int32.not_lt.mp a3)).mp a4⟩
  · rintro ⟨a1, a2, a3, a4⟩
    exact ⟨a1, a2, Int32.not_lt.mpr a3, (key a2 a3).mpr a4⟩
theorem g_end (h : INV nx ek en ed kb fb fU fB fH bs u e9 S) {n : Int32} (hm : m_eok nx (nI u) ek fH n) : ∃ e8, INV nx 1 n n kb fb fU fB fH bs u e8 S := by
  obtain ⟨h1, h2, h3, h4, h5, h6, h7⟩ := id h
  obtain ⟨a1, a2, a3, a4⟩ := hm
  have e64 : (64 : Int32) - nI u = nI (64 - u) := pk_sub (a := 64) h2.1
  obtain ⟨d, hd, ed⟩ := nI_of a2
  rw [ed, e64] at a3
  have hd2 := (nI_leI hd (by omega)).mp a3
  have hu := h2.1
  have en' : n = bs + nI (u + d) := by
    rw [← nI_add, ← Int32.add_assoc, ← h1, ← ed, Int32.add_comm, Int32.sub_add_cancel]
  refine ⟨u + d, h1, ⟨h2.1, h2.2.1, h2.2.2.1, Or.inr ⟨by omega, by omega, fun q hq => ?_⟩⟩, h3, Or.inr rfl, h5, Or.inr ⟨en', en'⟩, h7⟩
  by_cases z : q < 64
  · have w := a4 (q - u) (by omega) (by rw [ed, nI_clamp hd]; omega)
    cases y : S.1 q with
    | false => rfl
    | true =>
      exact absurd w ((MR_nz h7 (k := q - u) (by omega)).mpr (by rw [show u + (q - u) = q by omega]; exact y))
  · exact h2.2.2.1 q (by omega)
theorem g_rd (h : INV nx ek en ed kb fb fU fB fH bs (u + 1) e9 S) {gU : Nat → Int32} (hU : ∀ k, k < u → gU k = fU (k + 1)) :
    fb ((nx - nI (u + 1)) &&& 63).toNatClampNeg &&& 255 = fU 0 ∧ INV nx ek en ed kb fb gU fB fH (bs + 1) u (e9 - 1) (fun q => S.1 (q + 1), fun q => S.2 (q + 1)) := by
  obtain ⟨h1, h2, h3, h4, h5, h6, h7⟩ := id h
  have hu := h2.1
  have T0 : S.1 0 = true := h2.2.1 0 (by omega)
  constructor
  · have e1 : nx - nI (u + 1) = bs + nI 0 := by rw [h1, Int32.add_sub_cancel, nI_0, Int32.add_zero]
    rw [e1]
    have w := h5.2 0 (by decide) T0
    exact w.trans (h7.2.2 0 (by omega)).symm
  · refine ⟨by rw [h1, nI_succ, Int32.add_assoc, Int32.add_comm (nI u)], IV_rd h2, h3, h4, CR_rd h5 h2.2.2.1, ?_, MR_rd h7 hU⟩
    rcases h6 with z | ⟨z1, z2⟩
    · exact Or.inl z
    · rcases h2.2.2.2 with w | ⟨w1, w2, -⟩
      · exact Or.inl w
      · have e2 : bs + nI e9 = bs + 1 + nI (e9 - 1) := by
          rw [show nI e9 = nI (e9 - 1 + 1) by rw [show e9 - 1 + 1 = e9 by omega], nI_succ, Int32.add_assoc, Int32.add_comm (nI (e9 - 1))]
        exact Or.inr ⟨by rw [z1, e2], by rw [z2, e2]⟩
theorem g_hd (h : INV nx ek en ed kb fb fU fB fH bs u e9 S) (d : Int32) : c_held kb d ↔ m_hd fH d := by
  by_cases c : ∃ k, k < 64 ∧ d = nI k
  · obtain ⟨k, hk, rfl⟩ := c
    rw [sg_held hk]
    unfold m_hd
    rw [nI_clamp (by omega), ← inv_bit h hk]
    constructor
    · intro z
      exact ⟨nI_pos (by omega), nI_lt hk (by decide), of_decide_eq_true z⟩
    · intro z
      exact pH_t z.2.2
  · constructor
    · intro z
      exact absurd z (sg_held_out c)
    · rintro ⟨z1, z2, -⟩
      exact absurd (lt64 z1 (Int32.not_le.mpr z2)) c
end Glue
theorem nI_ne8 {k : Int32} {i : Nat} (hi : i ≤ 8) (hk : k = nI i) (h : k < 0 ∨ 8 < k) : False := by
  rw [hk] at h
  rcases h with h | h
  · exact nI_pos (by omega) h
  · exact absurd ((nI_ltI (a := 8) (by decide) (by omega)).mp h) (by omega)
theorem lt_ti {n : Int32} : (n < 0 ∨ 5 < n) ↔ (n.toInt < 0 ∨ 5 < n.toInt) := by
  rw [Int32.lt_iff_toInt_lt, Int32.lt_iff_toInt_lt]
  rfl
theorem bI_ne {c d : Prop} [Decidable c] [Decidable d] (h : c ↔ d) : bI c = bI d := bI_iff h
