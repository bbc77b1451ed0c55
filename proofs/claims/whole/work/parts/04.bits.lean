-- the uN family: pasted from kit/laws/BITS.to-paste (a starting text)
def uN (x : Int64) : Nat := x.toUInt64.toNat
theorem uN_lt (x : Int64) : uN x < 18446744073709551616 := x.toUInt64.toNat_lt
theorem uN_inj {x y : Int64} (h : uN x = uN y) : x = y := congrArg UInt64.toInt64 (UInt64.toNat_inj.mp h)
theorem uN_add (x y : Int64) : uN (x + y) = (uN x + uN y) % 18446744073709551616 := by
  show (x.toUInt64 + y.toUInt64).toNat = _
  exact UInt64.toNat_add _ _
theorem uN_shl (x : Int64) : uN (x <<< ((1 : Int32).toInt64 &&& 63)) = (2 * uN x) % 18446744073709551616 := by
  have h : (((1 : Int32).toInt64 &&& 63).toBitVec.smod 64).toNat = 1 := by decide
  show (x.toBitVec <<< (((1 : Int32).toInt64 &&& 63).toBitVec.smod 64).toNat).toNat = _
  rw [h, BitVec.toNat_shiftLeft, Nat.shiftLeft_eq, Nat.mul_comm]
  rfl
theorem uN_shr (x : Int64) (s : UInt64) : uN (x.toUInt64 >>> s).toInt64 = uN x / 2 ^ (s.toNat % 64) := by
  show (x.toUInt64 >>> s).toNat = _
  rw [UInt64.toNat_shiftRight, Nat.shiftRight_eq_div_pow]
  rfl
theorem uN_bit (x : Int64) : (x &&& 1) = 0 ↔ uN x % 2 = 0 := by
  have h : uN (x &&& 1) = uN x % 2 := by
    show (x.toUInt64 &&& Int64.toUInt64 1).toNat = _
    rw [UInt64.toNat_and]
    exact Nat.and_two_pow_sub_one_eq_mod _ 1
  rw [← h]
  exact ⟨fun z => by rw [z]; rfl, fun z => uN_inj (z.trans rfl)⟩
theorem uN_sk (x : Int64) {k : Nat} (hk : k < 64) : uN (x.toUInt64 >>> ((nI k).toInt64.toUInt64 &&& Int64.toUInt64 63)).toInt64 = uN x / 2 ^ k := by
  have h : ((nI k).toInt64.toUInt64 &&& Int64.toUInt64 63).toNat % 64 = k := by
    rw [nI_l (by omega), UInt64.toNat_and]
    have e : (lN k).toUInt64.toNat = k % 2 ^ 64 := rfl
    have e2 : (Int64.toUInt64 63).toNat = 2 ^ 6 - 1 := by decide
    rw [e, e2, Nat.and_two_pow_sub_one_eq_mod]
    omega
  rw [uN_shr, h]
theorem uN_and (x y : Int64) : uN (x &&& y) = uN x &&& uN y := UInt64.toNat_and _ _
theorem uN_orr (x y : Int64) : uN (x ||| y) = uN x ||| uN y := UInt64.toNat_or _ _
theorem uN_xorr (x y : Int64) : uN (x ^^^ y) = uN x ^^^ uN y := UInt64.toNat_xor _ _
theorem uN_sub (x y : Int64) (h : uN y ≤ uN x) : uN (x - y) = uN x - uN y := by
  show (x.toUInt64 - y.toUInt64).toNat = _
  rw [UInt64.toNat_sub]
  have h1 := uN_lt x
  have h2 := uN_lt y
  show (2 ^ 64 - uN y + uN x) % 2 ^ 64 = _
  omega
/-! counting -/
def sg_c (p : Nat → Bool) : Nat → Nat
  | 0 => 0
  | n + 1 => sg_c p n + (if p n then 1 else 0)
theorem sg_c_le (p : Nat → Bool) (n : Nat) : sg_c p n ≤ n := by
  induction n with
  | zero => exact Nat.le_refl 0
  | succ n ih => simp only [sg_c]; split <;> omega
theorem sg_c_mono (p : Nat → Bool) (a b : Nat) : sg_c p a ≤ sg_c p (a + b) := by
  induction b with
  | zero => exact Nat.le_refl _
  | succ b ih => rw [← Nat.add_assoc]; simp only [sg_c]; omega
theorem sg_c_mono' (p : Nat → Bool) {a b : Nat} (h : a ≤ b) : sg_c p a ≤ sg_c p b := by
  have := sg_c_mono p a (b - a)
  rwa [Nat.add_sub_cancel' h] at this
theorem sg_c_add (p : Nat → Bool) (a b : Nat) : sg_c p (a + b) = sg_c p a + sg_c (fun k => p (a + k)) b := by
  induction b with
  | zero => rfl
  | succ b ih => rw [← Nat.add_assoc]; simp only [sg_c, ih]; omega
theorem sg_c_congr {p q : Nat → Bool} (n : Nat) (h : ∀ k, k < n → p k = q k) : sg_c p n = sg_c q n := by
  induction n with
  | zero => rfl
  | succ n ih => simp only [sg_c]; rw [ih (fun k hk => h k (by omega)), h n (by omega)]
/-- the place of the i-th that holds is one alone -/
theorem sg_c_uni {p : Nat → Bool} {a b : Nat} (ha : p a = true) (hb : p b = true) (h : sg_c p a = sg_c p b) : a = b := by
  rcases Nat.lt_trichotomy a b with q | q | q
  · have := sg_c_mono' p (show a + 1 ≤ b from q)
    simp only [sg_c, ha, if_true] at this
    omega
  · exact q
  · have := sg_c_mono' p (show b + 1 ≤ a from q)
    simp only [sg_c, hb, if_true] at this
    omega
/-! Long.bitCount -/
def pc8 (l : Nat) : Nat := sg_c (fun k => l.testBit k) 8
def m5 : Nat → Nat
  | 0 => 0
  | n + 1 => 0x55 + 256 * m5 n
def m3 : Nat → Nat
  | 0 => 0
  | n + 1 => 0x33 + 256 * m3 n
def mf : Nat → Nat
  | 0 => 0
  | n + 1 => 0x0f + 256 * mf n
def pcs : Nat → Nat → Nat
  | 0, _ => 0
  | n + 1, x => pc8 (x % 256) + 256 * pcs n (x / 256)
def pcT : Nat → Nat → Nat
  | 0, _ => 0
  | n + 1, x => pc8 (x % 256) + pcT n (x / 256)
def bcF (n x : Nat) : Nat := (((x - ((x / 2) &&& m5 n)) &&& m3 n) + (((x - ((x / 2) &&& m5 n)) / 4) &&& m3 n) + (((x - ((x / 2) &&& m5 n)) &&& m3 n) + (((x - ((x / 2) &&& m5 n)) / 4) &&& m3 n)) / 16) &&& mf n
theorem and_sp (a b c d : Nat) (ha : a < 256) (hc : c < 256) : (a + 256 * b) &&& (c + 256 * d) = (a &&& c) + 256 * (b &&& d) := by
  have e : ∀ u v : Nat, u + 256 * v = 2 ^ 8 * v + u := fun u v => by omega
  have hac : (a &&& c) < 2 ^ 8 := Nat.and_lt_two_pow _ hc
  rw [e, e, e]
  apply Nat.eq_of_testBit_eq
  intro j
  rw [Nat.testBit_and, Nat.testBit_two_pow_mul_add b ha, Nat.testBit_two_pow_mul_add d hc, Nat.testBit_two_pow_mul_add _ hac]
  split <;> rw [Nat.testBit_and]
theorem bc_a : ∀ l, l < 256 → ∀ r, r < 2 → ((l / 2 + 128 * r) &&& 0x55) = (l / 2) &&& 0x55 := by decide +kernel
theorem bc_b : ∀ l, l < 256 → ∀ r, r < 4 → ((l / 4 + 64 * r) &&& 0x33) = (l / 4) &&& 0x33 := by decide +kernel
theorem bc_c : ∀ z, z < 103 → ∀ r, r < 7 → ((z + z / 16 + 16 * r) &&& 0x0f) = (z + z / 16) &&& 0x0f := by decide +kernel
theorem bc_d : ∀ l, l < 256 → ((((l - ((l / 2) &&& 0x55)) &&& 0x33) + (((l - ((l / 2) &&& 0x55)) / 4) &&& 0x33) + (((l - ((l / 2) &&& 0x55)) &&& 0x33) + (((l - ((l / 2) &&& 0x55)) / 4) &&& 0x33)) / 16) &&& 0x0f) = pc8 l := by decide +kernel
theorem m3_16 (n : Nat) : m3 n % 16 ≤ 3 := by
  cases n with
  | zero => decide
  | succ n => simp only [m3]; omega
theorem and_m3 (a n : Nat) : (a &&& m3 n) % 16 ≤ 3 := by
  rw [show (16 : Nat) = 2 ^ 4 from rfl, Nat.and_mod_two_pow]
  exact Nat.le_trans Nat.and_le_right (m3_16 n)
theorem bcF_eq : ∀ n x, bcF n x = pcs n x := by
  intro n
  induction n with
  | zero => intro x; simp [bcF, pcs, mf]
  | succ n ih =>
    intro x
    have ih := ih (x / 256)
    simp only [pcs]
    rw [← ih]
    have hl : x % 256 < 256 := Nat.mod_lt _ (by decide)
    have hx : x = x % 256 + 256 * (x / 256) := by omega
    generalize x % 256 = l at hl hx ⊢
    generalize x / 256 = h at hx ⊢
    subst hx
    unfold bcF
    have h1 : (l + 256 * h) / 2 = (l / 2 + 128 * (h % 2)) + 256 * (h / 2) := by omega
    have h2 : ((l + 256 * h) / 2) &&& m5 (n + 1) = ((l / 2) &&& 0x55) + 256 * ((h / 2) &&& m5 n) := by
      rw [h1, m5, and_sp _ _ _ _ (by omega) (by decide), bc_a l hl _ (Nat.mod_lt _ (by decide))]
    have hd := bc_d l hl
    rw [h2]
    have ha : (l / 2) &&& 0x55 ≤ l := Nat.le_trans Nat.and_le_left (Nat.div_le_self _ _)
    have hb : (h / 2) &&& m5 n ≤ h := Nat.le_trans Nat.and_le_left (Nat.div_le_self _ _)
    generalize (l / 2) &&& 0x55 = a at ha hd ⊢
    generalize (h / 2) &&& m5 n = b at hb ⊢
    have h3 : l + 256 * h - (a + 256 * b) = (l - a) + 256 * (h - b) := by omega
    rw [h3]
    have hy : l - a < 256 := by omega
    generalize l - a = y at hy hd ⊢
    generalize h - b = g
    have h4 : (y + 256 * g) &&& m3 (n + 1) = (y &&& 0x33) + 256 * (g &&& m3 n) := by
      rw [m3, and_sp _ _ _ _ hy (by decide)]
    have h5 : ((y + 256 * g) / 4) &&& m3 (n + 1) = ((y / 4) &&& 0x33) + 256 * ((g / 4) &&& m3 n) := by
      rw [show (y + 256 * g) / 4 = (y / 4 + 64 * (g % 4)) + 256 * (g / 4) by omega, m3, and_sp _ _ _ _ (by omega) (by decide), bc_b y hy _ (Nat.mod_lt _ (by decide))]
    rw [h4, h5]
    have z1 : (y &&& 0x33) ≤ 51 := Nat.and_le_right
    have z2 : ((y / 4) &&& 0x33) ≤ 51 := Nat.and_le_right
    have z3 := and_m3 g n
    have z4 := and_m3 (g / 4) n
    generalize (y &&& 0x33) = u at z1 hd ⊢
    generalize ((y / 4) &&& 0x33) = v at z2 hd ⊢
    generalize (g &&& m3 n) = w at z3 ⊢
    generalize ((g / 4) &&& m3 n) = k at z4 ⊢
    have h6 : u + 256 * w + (v + 256 * k) + (u + 256 * w + (v + 256 * k)) / 16 = ((u + v) + (u + v) / 16 + 16 * ((w + k) % 16)) + 256 * (w + k + (w + k) / 16) := by omega
    rw [h6, mf, and_sp _ _ _ _ (by omega) (by decide), bc_c (u + v) (by omega) _ (by omega), hd]
theorem pcs_sum (n x : Nat) : sg_c (fun k => x.testBit k) (8 * n) = pcT n x := by
  induction n generalizing x with
  | zero => rfl
  | succ n ih =>
    simp only [pcT]
    have hl : x % 256 < 2 ^ 8 := Nat.mod_lt _ (by decide)
    have hx : x = 2 ^ 8 * (x / 256) + x % 256 := by omega
    have t : ∀ j, x.testBit j = if j < 8 then (x % 256).testBit j else (x / 256).testBit (j - 8) := by
      intro j
      have q := Nat.testBit_two_pow_mul_add (x / 256) hl j
      rw [← hx] at q
      exact q
    rw [show 8 * (n + 1) = 8 + 8 * n by omega, sg_c_add, ← ih (x / 256)]
    congr 1
    · exact sg_c_congr 8 (fun k hk => by rw [t, if_pos hk])
    · exact sg_c_congr _ (fun k _ => by rw [t, if_neg (by omega)]; congr 1; omega)
theorem pc8_le (l : Nat) : pc8 l ≤ 8 := sg_c_le _ 8
theorem bc_e1 (a b d : Nat) (h : a < 256) : (a + 256 * b) / 256 = b := by omega
theorem bc_e2 (a b d : Nat) (ha : a < 256) (hb : b < 256) : (a + 256 * (b + 256 * d)) / 65536 = d := by omega
theorem bc_e3 (a b c d f : Nat) (ha : a < 256) (hb : b < 256) (hc : c < 256) (hd : d < 256) : (a + 256 * (b + 256 * (c + 256 * (d + 256 * f)))) / 4294967296 = f := by
  have h1 : (a + 256 * (b + 256 * (c + 256 * (d + 256 * f)))) / 65536 = c + 256 * (d + 256 * f) := bc_e2 a b _ ha hb
  have h2 : (c + 256 * (d + 256 * f)) / 65536 = f := bc_e2 c d f hc hd
  rw [show (4294967296 : Nat) = 65536 * 65536 from rfl, ← Nat.div_div_eq_div_mul, h1, h2]
def dg8 (a0 a1 a2 a3 a4 a5 a6 a7 : Nat) : Nat := a0 + 256 * (a1 + 256 * (a2 + 256 * (a3 + 256 * (a4 + 256 * (a5 + 256 * (a6 + 256 * a7))))))
theorem dg8_lt {a0 a1 a2 a3 a4 a5 a6 a7 : Nat} (h0 : a0 < 256) (h1 : a1 < 256) (h2 : a2 < 256) (h3 : a3 < 256) (h4 : a4 < 256) (h5 : a5 < 256) (h6 : a6 < 256) (h7 : a7 < 256) : dg8 a0 a1 a2 a3 a4 a5 a6 a7 < 2 ^ 64 := by
  unfold dg8
  omega
theorem bc_end (x : Nat) : ∀ t, t = pcs 8 x → t + t / 256 < 2 ^ 64 ∧ (t + t / 256) + (t + t / 256) / 65536 < 2 ^ 64 ∧ ((t + t / 256) + (t + t / 256) / 65536) + ((t + t / 256) + (t + t / 256) / 65536) / 4294967296 < 2 ^ 64 ∧ (((t + t / 256) + (t + t / 256) / 65536) + ((t + t / 256) + (t + t / 256) / 65536) / 4294967296) % 128 = pcT 8 x := by
  intro t ht
  simp only [pcs, pcT] at ht ⊢
  have q0 := pc8_le (x % 256)
  have q1 := pc8_le (x / 256 % 256)
  have q2 := pc8_le (x / 256 / 256 % 256)
  have q3 := pc8_le (x / 256 / 256 / 256 % 256)
  have q4 := pc8_le (x / 256 / 256 / 256 / 256 % 256)
  have q5 := pc8_le (x / 256 / 256 / 256 / 256 / 256 % 256)
  have q6 := pc8_le (x / 256 / 256 / 256 / 256 / 256 / 256 % 256)
  have q7 := pc8_le (x / 256 / 256 / 256 / 256 / 256 / 256 / 256 % 256)
  generalize pc8 (x % 256) = p0 at q0 ht ⊢
  generalize pc8 (x / 256 % 256) = p1 at q1 ht ⊢
  generalize pc8 (x / 256 / 256 % 256) = p2 at q2 ht ⊢
  generalize pc8 (x / 256 / 256 / 256 % 256) = p3 at q3 ht ⊢
  generalize pc8 (x / 256 / 256 / 256 / 256 % 256) = p4 at q4 ht ⊢
  generalize pc8 (x / 256 / 256 / 256 / 256 / 256 % 256) = p5 at q5 ht ⊢
  generalize pc8 (x / 256 / 256 / 256 / 256 / 256 / 256 % 256) = p6 at q6 ht ⊢
  generalize pc8 (x / 256 / 256 / 256 / 256 / 256 / 256 / 256 % 256) = p7 at q7 ht ⊢
  have f1 : t / 256 = p1 + 256 * (p2 + 256 * (p3 + 256 * (p4 + 256 * (p5 + 256 * (p6 + 256 * (p7 + 256 * 0)))))) := by rw [ht]; exact bc_e1 _ _ 0 (by omega)
  have f2 : t + t / 256 = dg8 (p0 + p1) (p1 + p2) (p2 + p3) (p3 + p4) (p4 + p5) (p5 + p6) (p6 + p7) p7 := by
    rw [f1, ht]; clear f1 ht; unfold dg8; simp only [Nat.mul_add, Nat.mul_zero, ← Nat.mul_assoc]; omega
  have f3 : dg8 (p0 + p1) (p1 + p2) (p2 + p3) (p3 + p4) (p4 + p5) (p5 + p6) (p6 + p7) p7 / 65536 = (p2 + p3) + 256 * ((p3 + p4) + 256 * ((p4 + p5) + 256 * ((p5 + p6) + 256 * ((p6 + p7) + 256 * p7)))) := bc_e2 _ _ _ (by omega) (by omega)
  have f4 : dg8 (p0 + p1) (p1 + p2) (p2 + p3) (p3 + p4) (p4 + p5) (p5 + p6) (p6 + p7) p7 + dg8 (p0 + p1) (p1 + p2) (p2 + p3) (p3 + p4) (p4 + p5) (p5 + p6) (p6 + p7) p7 / 65536 = dg8 (p0 + p1 + p2 + p3) (p1 + p2 + p3 + p4) (p2 + p3 + p4 + p5) (p3 + p4 + p5 + p6) (p4 + p5 + p6 + p7) (p5 + p6 + p7) (p6 + p7) p7 := by
    rw [f3]; clear f1 f2 f3 ht; unfold dg8; simp only [Nat.mul_add, ← Nat.mul_assoc]; omega
  have f5 : dg8 (p0 + p1 + p2 + p3) (p1 + p2 + p3 + p4) (p2 + p3 + p4 + p5) (p3 + p4 + p5 + p6) (p4 + p5 + p6 + p7) (p5 + p6 + p7) (p6 + p7) p7 / 4294967296 = (p4 + p5 + p6 + p7) + 256 * ((p5 + p6 + p7) + 256 * ((p6 + p7) + 256 * p7)) := bc_e3 _ _ _ _ _ (by omega) (by omega) (by omega) (by omega)
  have f6 : dg8 (p0 + p1 + p2 + p3) (p1 + p2 + p3 + p4) (p2 + p3 + p4 + p5) (p3 + p4 + p5 + p6) (p4 + p5 + p6 + p7) (p5 + p6 + p7) (p6 + p7) p7 + dg8 (p0 + p1 + p2 + p3) (p1 + p2 + p3 + p4) (p2 + p3 + p4 + p5) (p3 + p4 + p5 + p6) (p4 + p5 + p6 + p7) (p5 + p6 + p7) (p6 + p7) p7 / 4294967296 = dg8 (p0 + p1 + p2 + p3 + p4 + p5 + p6 + p7) (p1 + p2 + p3 + p4 + p5 + p6 + p7) (p2 + p3 + p4 + p5 + p6 + p7) (p3 + p4 + p5 + p6 + p7) (p4 + p5 + p6 + p7) (p5 + p6 + p7) (p6 + p7) p7 := by
    rw [f5]; clear f1 f2 f3 f4 f5 ht; unfold dg8; simp only [Nat.mul_add, ← Nat.mul_assoc]; omega
  rw [f2, f4, f6]
  clear f1 f2 f3 f4 f5 f6 ht
  refine ⟨dg8_lt (by omega) (by omega) (by omega) (by omega) (by omega) (by omega) (by omega) (by omega), dg8_lt (by omega) (by omega) (by omega) (by omega) (by omega) (by omega) (by omega) (by omega), dg8_lt (by omega) (by omega) (by omega) (by omega) (by omega) (by omega) (by omega) (by omega), ?_⟩
  unfold dg8
  generalize 256 * (p2 + p3 + p4 + p5 + p6 + p7 + 256 * (p3 + p4 + p5 + p6 + p7 + 256 * (p4 + p5 + p6 + p7 + 256 * (p5 + p6 + p7 + 256 * (p6 + p7 + 256 * p7))))) = z
  omega
/-- bit k of a long -/
def sg_b (x : Int64) (k : Nat) : Bool := (uN x).testBit k
def g_sh (x : Int64) (a : Int32) : Int64 := (x.toUInt64 >>> (a.toInt64.toUInt64 &&& Int64.toUInt64 63)).toInt64
theorem g_sh_uN (x : Int64) {k : Nat} (hk : k < 64) : uN (g_sh x (nI k)) = uN x / 2 ^ k := uN_sk x hk
def g_bc1 (x : Int64) : Int64 := x - (g_sh x 1 &&& 6148914691236517205)
def g_bc2 (x : Int64) : Int64 := (x &&& 3689348814741910323) + (g_sh x 2 &&& 3689348814741910323)
def g_bc3 (x : Int64) : Int64 := (x + g_sh x 4) &&& 1085102592571150095
def g_bc4 (x : Int64) : Int64 := x + g_sh x 8
def g_bc5 (x : Int64) : Int64 := x + g_sh x 16
def g_bc6 (x : Int64) : Int64 := x + g_sh x 32
def g_bc (x : Int64) : Int32 := (g_bc6 (g_bc5 (g_bc4 (g_bc3 (g_bc2 (g_bc1 x)))))).toInt32 &&& 127
theorem bc_m5 : m5 8 = 6148914691236517205 := by decide +kernel
theorem bc_m3 : m3 8 = 3689348814741910323 := by decide +kernel
theorem bc_mf : mf 8 = 1085102592571150095 := by decide +kernel
theorem g_bc_eq (x : Int64) : g_bc x = nI (sg_c (sg_b x) 64) := by
  have hx := uN_lt x
  unfold g_bc
  have k1 : uN (g_sh x 1) = uN x / 2 := g_sh_uN x (k := 1) (by decide)
  have c5 : uN 6148914691236517205 = m5 8 := by rw [bc_m5]; decide
  have c3 : uN 3689348814741910323 = m3 8 := by rw [bc_m3]; decide
  have cf : uN 1085102592571150095 = mf 8 := by rw [bc_mf]; decide
  have b1 : uN (g_bc1 x) = uN x - ((uN x / 2) &&& m5 8) := by
    have e : uN (g_sh x 1 &&& 6148914691236517205) = (uN x / 2) &&& m5 8 := by rw [uN_and, k1, c5]
    unfold g_bc1
    rw [uN_sub _ _ (by rw [e]; exact Nat.le_trans Nat.and_le_left (Nat.div_le_self _ _)), e]
  generalize g_bc1 x = x1 at b1 ⊢
  have k2 : uN (g_sh x1 2) = uN x1 / 4 := g_sh_uN x1 (k := 2) (by decide)
  have l3 : m3 8 < 2 ^ 62 := by rw [bc_m3]; decide
  have b2 : uN (g_bc2 x1) = ((uN x1) &&& m3 8) + ((uN x1 / 4) &&& m3 8) := by
    have u1 : (uN x1 &&& m3 8) ≤ m3 8 := Nat.and_le_right
    have u2 : (uN x1 / 4 &&& m3 8) ≤ m3 8 := Nat.and_le_right
    unfold g_bc2
    rw [uN_add, uN_and, uN_and, k2, c3, Nat.mod_eq_of_lt (by omega)]
  have b2le : uN (g_bc2 x1) < 2 ^ 63 := by
    rw [b2]
    have u1 : (uN x1 &&& m3 8) ≤ m3 8 := Nat.and_le_right
    have u2 : (uN x1 / 4 &&& m3 8) ≤ m3 8 := Nat.and_le_right
    omega
  generalize g_bc2 x1 = x2 at b2 b2le ⊢
  have k3 : uN (g_sh x2 4) = uN x2 / 16 := g_sh_uN x2 (k := 4) (by decide)
  have b3 : uN (g_bc3 x2) = bcF 8 (uN x) := by
    unfold g_bc3
    rw [uN_and, uN_add, k3, cf, Nat.mod_eq_of_lt (by omega), b2, b1]
    rfl
  generalize g_bc3 x2 = x3 at b3 ⊢
  rw [bcF_eq] at b3
  obtain ⟨r1, r2, r3, r4⟩ := bc_end (uN x) _ b3
  have k4 : uN (g_sh x3 8) = uN x3 / 256 := g_sh_uN x3 (k := 8) (by decide)
  have b4 : uN (g_bc4 x3) = uN x3 + uN x3 / 256 := by
    unfold g_bc4
    rw [uN_add, k4, Nat.mod_eq_of_lt r1]
  rw [← b4] at r2 r3 r4
  generalize g_bc4 x3 = x4 at r2 r3 r4 ⊢
  have k5 : uN (g_sh x4 16) = uN x4 / 65536 := g_sh_uN x4 (k := 16) (by decide)
  have b5 : uN (g_bc5 x4) = uN x4 + uN x4 / 65536 := by
    unfold g_bc5
    rw [uN_add, k5, Nat.mod_eq_of_lt r2]
  rw [← b5] at r3 r4
  generalize g_bc5 x4 = x5 at r3 r4 ⊢
  have k6 : uN (g_sh x5 32) = uN x5 / 4294967296 := g_sh_uN x5 (k := 32) (by decide)
  have b6 : uN (g_bc6 x5) = uN x5 + uN x5 / 4294967296 := by
    unfold g_bc6
    rw [uN_add, k6, Nat.mod_eq_of_lt r3]
  rw [← b6] at r4
  generalize g_bc6 x5 = x6 at r4 ⊢
  rw [pk_and x6.toInt32 7 (by decide)]
  have hb : x6.toInt32.toBitVec.toNat % 2 ^ 7 = uN x6 % 128 := by
    rw [Int64.toBitVec_toInt32, BitVec.signExtend_eq_setWidth_of_le _ (by decide), BitVec.toNat_setWidth]
    show uN x6 % 2 ^ 32 % 2 ^ 7 = _
    omega
  rw [hb, r4, ← pcs_sum 8 (uN x)]
  rfl
