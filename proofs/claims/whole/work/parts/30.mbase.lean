def pH (f : Nat → Int32) (k : Nat) : Bool := decide (¬ f k = 0)
theorem pH_t {f : Nat → Int32} {k : Nat} (h : ¬ f k = 0) : pH f k = true := decide_eq_true h
theorem pH_f {f : Nat → Int32} {k : Nat} (h : f k = 0) : pH f k = false := decide_eq_false (fun z => z h)
abbrev m_hd (f : Nat → Int32) (d : Int32) : Prop := ¬ d < 0 ∧ d < 64 ∧ ¬ f d.toNatClampNeg = 0
def m_eok (nx mn he : Int32) (fH : Nat → Int32) (n : Int32) : Prop := he = 0 ∧ ¬ (n - nx) < 0 ∧ (n - nx) ≤ 64 - mn ∧ ∀ k, k < 64 → (n - nx).toNatClampNeg ≤ k → fH k = 0
theorem inb_of {x : Int32} {k : Nat} (h : x = nI k) (hk : k < 64) : vp_in x 64 := by rw [h]; exact vp_in_nI hk (by decide)
theorem cl_of {x : Int32} {k : Nat} (h : x = nI k) (hk : k < 2 ^ 31) : x.toNatClampNeg = k := by rw [h]; exact nI_clamp hk
theorem inb_0 : vp_in (0 : Int32) 64 := inb_of nI_0.symm (by decide)
theorem inb_d {d mn : Int32} {u : Nat} (hm : mn = nI u) (hu : u ≤ 64) (h1 : ¬ d < 0) (h2 : ¬ (64 - mn) ≤ d) : ∃ k, k + u < 64 ∧ d = nI k := by
  have e64 : (64 : Int32) - nI u = nI (64 - u) := pk_sub (a := 64) hu
  rw [hm, e64] at h2
  rcases pk_ix d (n := 64 - u) (by omega) with c | c | ⟨k, hk, c⟩
  · exact absurd c h1
  · exact absurd c h2
  · exact ⟨k, by omega, c⟩
theorem lt64 {d : Int32} (h1 : ¬ d < 0) (h2 : ¬ (64 : Int32) ≤ d) : ∃ k, k < 64 ∧ d = nI k := by
  rcases pk_ix d (n := 64) (by decide) with c | c | ⟨k, hk, c⟩
  · exact absurd c h1
  · exact absurd c h2
  · exact ⟨k, hk, c⟩
theorem nar_b {x : Int32} (h : x = 0 ∨ x = 1) : vp_nar .boolean x = x := by rcases h with h | h <;> rw [h] <;> rfl
theorem IV_up {u e : Nat} {ek : Int32} {T : Nat → Bool} (h : IV u e ek T) (hT : T u = true) : u < 64 ∧ IV (u + 1) e ek T := by
  obtain ⟨h1, h2, h3, h4⟩ := h
  have hu : u < 64 := by
    apply Nat.lt_of_not_le
    intro z
    rw [h3 u z] at hT
    cases hT
  refine ⟨hu, hu, fun q hq => ?_, h3, ?_⟩
  · by_cases z : q = u
    · rw [z]; exact hT
    · exact h2 q (by omega)
  · rcases h4 with h4 | ⟨z1, z2, z3⟩
    · exact Or.inl h4
    · refine Or.inr ⟨?_, z2, z3⟩
      apply Nat.lt_of_not_le
      intro z
      rw [z3 u z] at hT
      cases hT
theorem MR_01 {u : Nat} {S : aS} {fU fB fH : Nat → Int32} (h : MRa u S fU fB fH) (k : Nat) (hk : k < 64) : fH k = 0 ∨ fH k = 1 := by
  rw [h.1 k hk]
  split
  · exact Or.inr rfl
  · exact Or.inl rfl
theorem MR_nz {u : Nat} {S : aS} {fU fB fH : Nat → Int32} (h : MRa u S fU fB fH) {k : Nat} (hk : k < 64) : (¬ fH k = 0) ↔ S.1 (u + k) = true := by
  rw [h.1 k hk]
  constructor
  · intro q
    cases w : S.1 (u + k) with
    | true => rfl
    | false => rw [w] at q; exact absurd rfl q
  · intro q
    rw [q]
    decide
theorem nI_diff {bs : Int32} {q u : Nat} (h : u ≤ q) : bs + nI q - (bs + nI u) = nI (q - u) := by
  have : nI q = nI u + nI (q - u) := by rw [nI_add]; congr 1; omega
  rw [this, ← Int32.add_assoc, Int32.add_comm (bs + nI u), Int32.add_sub_cancel]
theorem st_0 {p : Nat → Bool} {k : Nat} (h : p k = false) : st p k = false := by unfold st; rw [h]; rfl
theorem st_1 {p : Nat → Bool} {k : Nat} (h : p k = true) (h2 : k = 0 ∨ p (k - 1) = false) : st p k = true := by
  unfold st
  rw [h]
  rcases h2 with h2 | h2
  · rw [h2]; rfl
  · rw [h2]; simp
theorem st_2 {p : Nat → Bool} {k : Nat} (h1 : 0 < k) (h2 : p (k - 1) = true) : st p k = false := by
  unfold st
  rw [h2, show decide (0 < k) = true from decide_eq_true h1]
  simp
theorem sg_cs {p : Nat → Bool} {k : Nat} (h : p k = true) : sg_c p (k + 1) = sg_c p k + 1 := by simp [sg_c, h]
theorem sg_cn {p : Nat → Bool} {k : Nat} (h : p k = false) : sg_c p (k + 1) = sg_c p k := by simp [sg_c, h]
