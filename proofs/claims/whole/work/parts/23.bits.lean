/-! COUNTS OF BITS -/
def r_pc (x : Nat) : Nat → Nat
  | 0 => 0
  | k + 1 => r_pc x k + x / 2 ^ k % 2
def r_bc (x : Nat) : Nat :=
  let a := x - (x / 2 &&& 1431655765)
  let b := (a &&& 858993459) + (a / 4 &&& 858993459)
  let c := (b + b / 16) &&& 252645135
  let d := c + c / 256
  (d + d / 65536) &&& 63
theorem rb_and4 (A M : Nat) {B N : Nat} (hB : B < 16) (hN : N < 16) : (16 * A + B) &&& (16 * M + N) = 16 * (A &&& M) + (B &&& N) := by
  apply Nat.eq_of_testBit_eq
  intro j
  have hBN : B &&& N < 2 ^ 4 := Nat.lt_of_le_of_lt Nat.and_le_left hB
  rw [Nat.testBit_and, show (16 : Nat) = 2 ^ 4 from rfl, Nat.testBit_two_pow_mul_add A hB, Nat.testBit_two_pow_mul_add M hN, Nat.testBit_two_pow_mul_add (A &&& M) hBN]
  split
  · rw [Nat.testBit_and]
  · rw [Nat.testBit_and]
theorem rb_1 : ∀ e, e < 2 → ∀ n, n < 16 → (8 * e + n / 2) &&& 5 = n / 2 &&& 5 := by decide
theorem rb_1l : ∀ n, n < 16 → n / 2 &&& 5 ≤ n := by decide
theorem rb_2 : ∀ e, e < 4 → ∀ n, n < 16 → (4 * e + n / 4) &&& 3 = n / 4 &&& 3 := by decide
theorem rb_p : ∀ n, n < 16 → ((n - (n / 2 &&& 5)) &&& 3) + ((n - (n / 2 &&& 5)) / 4 &&& 3) = n % 2 + n / 2 % 2 + n / 4 % 2 + n / 8 % 2 := by decide
def rb_x (a b c d : Nat) : Nat := 16 * (16 * (16 * d + c) + b) + a
theorem rb_m4 {a b c d p q r s M : Nat} (ha : a < 16) (hb : b < 16) (hc : c < 16) (hp : p < 16) (hq : q < 16) (hr : r < 16) : rb_x a b c d &&& rb_x p q r M = rb_x (a &&& p) (b &&& q) (c &&& r) (d &&& M) := by
  unfold rb_x
  rw [rb_and4 _ _ ha hp, rb_and4 _ _ hb hq, rb_and4 _ _ hc hr]
theorem rb_h {a b c d : Nat} : rb_x a b c d / 2 = rb_x (8 * (b % 2) + a / 2) (8 * (c % 2) + b / 2) (8 * (d % 2) + c / 2) (d / 2) := by unfold rb_x; omega
theorem rb_q {a b c d : Nat} : rb_x a b c d / 4 = rb_x (4 * (b % 4) + a / 4) (4 * (c % 4) + b / 4) (4 * (d % 4) + c / 4) (d / 4) := by unfold rb_x; omega
theorem rb_sub {a b c d p q r s : Nat} (h1 : p ≤ a) (h2 : q ≤ b) (h3 : r ≤ c) (h4 : s ≤ d) : rb_x a b c d - rb_x p q r s = rb_x (a - p) (b - q) (c - r) (d - s) := by unfold rb_x; omega
theorem rb_add {a b c d p q r s : Nat} : rb_x a b c d + rb_x p q r s = rb_x (a + p) (b + q) (c + r) (d + s) := by unfold rb_x; omega
theorem rb_16 {a b c d : Nat} (ha : a < 16) : rb_x a b c d / 16 = rb_x b c d 0 := by unfold rb_x; omega
theorem rb_5 : (1431655765 : Nat) = rb_x 5 5 5 349525 := by decide
theorem rb_3 : (858993459 : Nat) = rb_x 3 3 3 209715 := by decide
theorem rb_f : (252645135 : Nat) = rb_x 15 0 15 61680 := by decide
theorem rb_5t : ∀ n, n < 16 → n / 2 &&& 349525 = n / 2 &&& 5 := by decide
theorem rb_3t : ∀ n, n < 16 → n &&& 209715 = n &&& 3 ∧ n / 4 &&& 209715 = n / 4 &&& 3 := by decide
theorem rb_b0 {a b c d : Nat} (ha : a < 16) (hb : b < 16) (hc : c < 16) : rb_x a b c d % 2 + rb_x a b c d / 2 % 2 + rb_x a b c d / 4 % 2 + rb_x a b c d / 8 % 2 = a % 2 + a / 2 % 2 + a / 4 % 2 + a / 8 % 2 := by
  have e0 : rb_x a b c d % 2 = a % 2 := by unfold rb_x; omega
  have e1 : rb_x a b c d / 2 % 2 = a / 2 % 2 := by unfold rb_x; omega
  have e2 : rb_x a b c d / 4 % 2 = a / 4 % 2 := by unfold rb_x; omega
  have e3 : rb_x a b c d / 8 % 2 = a / 8 % 2 := by unfold rb_x; omega
  rw [e0, e1, e2, e3]
theorem rb_pc4 (x : Nat) : r_pc x 16 = (x % 2 + x / 2 % 2 + x / 4 % 2 + x / 8 % 2) + (x / 16 % 2 + x / 16 / 2 % 2 + x / 16 / 4 % 2 + x / 16 / 8 % 2) + (x / 256 % 2 + x / 256 / 2 % 2 + x / 256 / 4 % 2 + x / 256 / 8 % 2) + (x / 4096 % 2 + x / 4096 / 2 % 2 + x / 4096 / 4 % 2 + x / 4096 / 8 % 2) := by
  simp only [r_pc, Nat.div_div_eq_div_mul]
  have e : x / 2 ^ 0 = x := by simp
  rw [e]
  simp only [Nat.reducePow, Nat.reduceMul]
  omega
theorem rb_16s {a b c d : Nat} (ha : a < 16) (hb : b < 16) (hc : c < 16) : rb_x a b c d / 16 = 16 * (16 * d + c) + b ∧ rb_x a b c d / 256 = 16 * d + c ∧ rb_x a b c d / 4096 = d := by
  unfold rb_x
  refine ⟨by omega, by omega, by omega⟩
theorem rb_pcx {a b c d : Nat} (ha : a < 16) (hb : b < 16) (hc : c < 16) : r_pc (rb_x a b c d) 16 = (a % 2 + a / 2 % 2 + a / 4 % 2 + a / 8 % 2) + (b % 2 + b / 2 % 2 + b / 4 % 2 + b / 8 % 2) + (c % 2 + c / 2 % 2 + c / 4 % 2 + c / 8 % 2) + (d % 2 + d / 2 % 2 + d / 4 % 2 + d / 8 % 2) := by
  obtain ⟨e1, e2, e3⟩ := rb_16s (d := d) ha hb hc
  have f1 : 16 * (16 * d + c) + b = rb_x b c d 0 := by unfold rb_x; omega
  have f2 : 16 * d + c = rb_x c d 0 0 := by unfold rb_x; omega
  rw [rb_pc4, rb_b0 ha hb hc, e1, e2, e3]
  have g1 : (16 * (16 * d + c) + b) % 2 = b % 2 := by omega
  have g2 : (16 * (16 * d + c) + b) / 2 % 2 = b / 2 % 2 := by omega
  have g3 : (16 * (16 * d + c) + b) / 4 % 2 = b / 4 % 2 := by omega
  have g4 : (16 * (16 * d + c) + b) / 8 % 2 = b / 8 % 2 := by omega
  have k1 : (16 * d + c) % 2 = c % 2 := by omega
  have k2 : (16 * d + c) / 2 % 2 = c / 2 % 2 := by omega
  have k3 : (16 * d + c) / 4 % 2 = c / 4 % 2 := by omega
  have k4 : (16 * d + c) / 8 % 2 = c / 8 % 2 := by omega
  rw [g1, g2, g3, g4, k1, k2, k3, k4]
theorem rb_s1 {a b c d : Nat} (ha : a < 16) (hb : b < 16) (hc : c < 16) (hd : d < 16) : rb_x a b c d - (rb_x a b c d / 2 &&& 1431655765) = rb_x (a - (a / 2 &&& 5)) (b - (b / 2 &&& 5)) (c - (c / 2 &&& 5)) (d - (d / 2 &&& 5)) := by
  rw [rb_h, rb_5, rb_m4 (s := 0) (by omega) (by omega) (by omega) (by omega) (by omega) (by omega), rb_1 _ (by omega) a ha, rb_1 _ (by omega) b hb, rb_1 _ (by omega) c hc, rb_5t d hd, rb_sub (rb_1l a ha) (rb_1l b hb) (rb_1l c hc) (rb_1l d hd)]
theorem rb_s2 {a b c d : Nat} (ha : a < 16) (hb : b < 16) (hc : c < 16) (hd : d < 16) : (rb_x a b c d &&& 858993459) + (rb_x a b c d / 4 &&& 858993459) = rb_x ((a &&& 3) + (a / 4 &&& 3)) ((b &&& 3) + (b / 4 &&& 3)) ((c &&& 3) + (c / 4 &&& 3)) ((d &&& 3) + (d / 4 &&& 3)) := by
  rw [rb_q, rb_3, rb_m4 (s := 0) ha hb hc (by omega) (by omega) (by omega), rb_m4 (s := 0) (by omega) (by omega) (by omega) (by omega) (by omega) (by omega), rb_2 _ (by omega) a ha, rb_2 _ (by omega) b hb, rb_2 _ (by omega) c hc, (rb_3t d hd).1, (rb_3t d hd).2, rb_add]
theorem rb_z15 : ∀ y, y < 16 → y &&& 15 = y := by decide
theorem rb_z0 : ∀ y, y < 16 → y &&& 0 = 0 := by decide
theorem rb_zt : ∀ y, y < 5 → y &&& 61680 = 0 := by decide
theorem rb_s3 {a b c d : Nat} (ha : a ≤ 4) (hb : b ≤ 4) (hc : c ≤ 4) (hd : d ≤ 4) : (rb_x a b c d + rb_x a b c d / 16) &&& 252645135 = rb_x (a + b) 0 (c + d) 0 := by
  rw [rb_16 (by omega), rb_add, rb_f, Nat.add_zero, rb_m4 (s := 0) (by omega) (by omega) (by omega) (by omega) (by omega) (by omega), rb_z15 _ (by omega), rb_z0 _ (by omega), rb_z15 _ (by omega), rb_zt _ (by omega)]
theorem rb_s4 {p q : Nat} (hp : p ≤ 8) (hq : q ≤ 8) : ((rb_x p 0 q 0 + rb_x p 0 q 0 / 256) + (rb_x p 0 q 0 + rb_x p 0 q 0 / 256) / 65536) &&& 63 = p + q := by
  rw [show (63 : Nat) = 2 ^ 6 - 1 from rfl, Nat.and_two_pow_sub_one_eq_mod]
  have e1 : rb_x p 0 q 0 = 256 * q + p := by unfold rb_x; omega
  have e2 : (256 * q + p) / 256 = q := by omega
  have e3 : (256 * q + p + q) / 65536 = 0 := by omega
  rw [e1, e2, e3]
  omega
theorem r_bc_pc {x : Nat} (h : x < 65536) : r_bc x = r_pc x 16 := by
  obtain ⟨a, b, c, d, ha, hb, hc, hd, rfl⟩ : ∃ a b c d, a < 16 ∧ b < 16 ∧ c < 16 ∧ d < 16 ∧ x = rb_x a b c d := ⟨x % 16, x / 16 % 16, x / 256 % 16, x / 4096, by omega, by omega, by omega, by omega, by unfold rb_x; omega⟩
  have pa := rb_p a ha
  have pb := rb_p b hb
  have pc := rb_p c hc
  have pd := rb_p d hd
  have la : a - (a / 2 &&& 5) < 16 := by omega
  have lb : b - (b / 2 &&& 5) < 16 := by omega
  have lc : c - (c / 2 &&& 5) < 16 := by omega
  have ld : d - (d / 2 &&& 5) < 16 := by omega
  unfold r_bc
  dsimp only
  rw [rb_s1 ha hb hc hd, rb_s2 la lb lc ld, pa, pb, pc, pd, rb_s3 (by omega) (by omega) (by omega) (by omega), rb_s4 (by omega) (by omega), rb_pcx ha hb hc]
  omega
theorem r_pc_le (x : Nat) : ∀ k, r_pc x k ≤ k
  | 0 => Nat.le_refl _
  | k + 1 => by
    have := r_pc_le x k
    have : x / 2 ^ k % 2 < 2 := Nat.mod_lt _ (by omega)
    unfold r_pc
    omega
theorem mm_ush1 {a : Nat} (h : a < 4294967296) : ((nI a).toUInt32 >>> ((1 : Int32).toUInt32 &&& Int32.toUInt32 31)).toInt32 = nI (a / 2) := pk_ushrN (by omega) 1 1 (by decide)
theorem mm_ush2 {a : Nat} (h : a < 4294967296) : ((nI a).toUInt32 >>> ((2 : Int32).toUInt32 &&& Int32.toUInt32 31)).toInt32 = nI (a / 4) := pk_ushrN (by omega) 2 2 (by decide)
theorem mm_ush4 {a : Nat} (h : a < 4294967296) : ((nI a).toUInt32 >>> ((4 : Int32).toUInt32 &&& Int32.toUInt32 31)).toInt32 = nI (a / 16) := pk_ushrN (by omega) 4 4 (by decide)
theorem mm_ush8 {a : Nat} (h : a < 4294967296) : ((nI a).toUInt32 >>> ((8 : Int32).toUInt32 &&& Int32.toUInt32 31)).toInt32 = nI (a / 256) := pk_ushrN (by omega) 8 8 (by decide)
theorem mm_ush16 {a : Nat} (h : a < 4294967296) : ((nI a).toUInt32 >>> ((16 : Int32).toUInt32 &&& Int32.toUInt32 31)).toInt32 = nI (a / 65536) := pk_ushrN (by omega) 16 16 (by decide)
theorem j_bitCount {μ : pw_Mem} {x : Nat} (h : x < 65536) : fn_J6_bitCount_0f7a4 (nI x) μ = some (nI (r_pc x 16), μ) := by
  rw [← r_bc_pc h]
  have a1 : x / 2 &&& 1431655765 ≤ x / 2 := Nat.and_le_left
  have a2 : (x - (x / 2 &&& 1431655765)) &&& 858993459 ≤ x - (x / 2 &&& 1431655765) := Nat.and_le_left
  have a3 : (x - (x / 2 &&& 1431655765)) / 4 &&& 858993459 ≤ (x - (x / 2 &&& 1431655765)) / 4 := Nat.and_le_left
  unfold fn_J6_bitCount_0f7a4 r_bc
  rw [mm_ush1 (by omega), show (1431655765 : Int32) = nI 1431655765 from rfl, show (858993459 : Int32) = nI 858993459 from rfl, show (252645135 : Int32) = nI 252645135 from rfl, mm_and, mm_sub (by omega), mm_ush2 (by omega), mm_and, mm_and, mm_add, mm_ush4 (by omega), mm_add, mm_and]
  have a4 : (((x - (x / 2 &&& 1431655765)) &&& 858993459) + ((x - (x / 2 &&& 1431655765)) / 4 &&& 858993459) + (((x - (x / 2 &&& 1431655765)) &&& 858993459) + ((x - (x / 2 &&& 1431655765)) / 4 &&& 858993459)) / 16) &&& 252645135 ≤ 252645135 := Nat.and_le_right
  rw [mm_ush8 (by omega), mm_add, mm_ush16 (by omega), mm_add, show (63 : Int32) = nI 63 from rfl, mm_and]
theorem m_ones_l {μ : pw_Mem} {x : Nat} (h : x < 2147483648) (k : Int32 → pw_Mem → Option (Int32 × pw_Mem)) : ∀ (d n i : Nat), i + d = 16 → d < n → fl_X6_ones_4 k (nI x) n (nI (r_pc x i)) (nI i) μ = k (nI (r_pc x 16)) μ := by
  intro d
  induction d with
  | zero =>
    intro n i hi hn
    obtain ⟨n, rfl⟩ : ∃ q, n = q + 1 := ⟨n - 1, by omega⟩
    rw [fl_X6_ones_4, mm_l16, if_pos (nI_le (by omega) (by omega)), ← hi, Nat.add_zero]
  | succ d ih =>
    intro n i hi hn
    obtain ⟨n, rfl⟩ : ∃ q, n = q + 1 := ⟨n - 1, by omega⟩
    rw [fl_X6_ones_4, mm_l16, if_neg (nI_ge (by omega) (by omega)), mm_l1, mm_l31, mm_bit h (by omega), mm_add, mm_add]
    exact ih n (i + 1) (by omega) (by omega)
theorem m_ones {μ : pw_Mem} {x : Nat} (h : x < 2147483648) : fn_X6_ones (nI x) μ = some (nI (r_pc x 16), μ) := m_ones_l h (fun y m => some (y, m)) 16 1000 0 (by omega) (by omega)
