/-! COUNTS OF BITS -/
def r_pc (x : Nat) : Nat → Nat
  | 0 => 0
  | k + 1 => r_pc x k + x / 2 ^ k % 2
def r_bc (x : Nat) : Nat :=
  let a := x - (x / 2 &&& 1431655765)
  let b := (a &&& 858993459) + (a / 4 &&& 858993459)
  let c := (b + b / 16) &&& 252645135
  let d := c + c / 256
  (d + d / 65536) &&& 63
theorem r_bc_pc {x : Nat} (h : x < 65536) : r_bc x = r_pc x 16 := by
  sorry
theorem r_pc_le (x : Nat) : ∀ k, r_pc x k ≤ k
  | 0 => Nat.le_refl _
  | k + 1 => by
    have := r_pc_le x k
    have : x / 2 ^ k % 2 < 2 := Nat.mod_lt _ (by omega)
    unfold r_pc
    omega
theorem mm_ush1 {a : Nat} (h : a < 4294967296) : ((nI a).toUInt32 >>> ((1 : Int32).toUInt32 &&& Int32.toUInt32 31)).toInt32 = nI (a / 2) := pk_ushrN (by omega) 1 1 (by decide)
theorem mm_ush2 {a : Nat} (h : a < 4294967296) : ((nI a).toUInt32 >>> ((2 : Int32).toUInt32 &&& Int32.toUInt32 31)).toInt32 = nI (a / 4) := pk_ushrN (by omega) 2 2 (by decide)
theorem mm_ush4 {a : Nat} (h : a < 4294967296) : ((nI a).toUInt32 >>> ((4 : Int32).toUInt32 &&& Int32.toUInt32 31)).toInt32 = nI (a / 16) := pk_ushrN (by omega) 4 4 (by decide)
theorem mm_ush8 {a : Nat} (h : a < 4294967296) : ((nI a).toUInt32 >>> ((8 : Int32).toUInt32 &&& Int32.toUInt32 31)).toInt32 = nI (a / 256) := pk_ushrN (by omega) 8 8 (by decide)
theorem mm_ush16 {a : Nat} (h : a < 4294967296) : ((nI a).toUInt32 >>> ((16 : Int32).toUInt32 &&& Int32.toUInt32 31)).toInt32 = nI (a / 65536) := pk_ushrN (by omega) 16 16 (by decide)
theorem j_bitCount {μ : pw_Mem} {x : Nat} (h : x < 65536) : fn_J6_bitCount_0f7a4 (nI x) μ = some (nI (r_pc x 16), μ) := by
  rw [← r_bc_pc h]
  have a1 : x / 2 &&& 1431655765 ≤ x / 2 := Nat.and_le_left
  have a2 : (x - (x / 2 &&& 1431655765)) &&& 858993459 ≤ x - (x / 2 &&& 1431655765) := Nat.and_le_left
  have a3 : (x - (x / 2 &&& 1431655765)) / 4 &&& 858993459 ≤ (x - (x / 2 &&& 1431655765)) / 4 := Nat.and_le_left
  unfold fn_J6_bitCount_0f7a4 r_bc
  rw [mm_ush1 (by omega), show (1431655765 : Int32) = nI 1431655765 from rfl, show (858993459 : Int32) = nI 858993459 from rfl, show (252645135 : Int32) = nI 252645135 from rfl, mm_and, mm_sub (by omega), mm_ush2 (by omega), mm_and, mm_and, mm_add, mm_ush4 (by omega), mm_add, mm_and]
  have a4 : (((x - (x / 2 &&& 1431655765)) &&& 858993459) + ((x - (x / 2 &&& 1431655765)) / 4 &&& 858993459) + (((x - (x / 2 &&& 1431655765)) &&& 858993459) + ((x - (x / 2 &&& 1431655765)) / 4 &&& 858993459)) / 16) &&& 252645135 ≤ 252645135 := Nat.and_le_right
  rw [mm_ush8 (by omega), mm_add, mm_ush16 (by omega), mm_add, show (63 : Int32) = nI 63 from rfl, mm_and]
theorem m_ones_l {μ : pw_Mem} {x : Nat} (h : x < 2147483648) (k : Int32 → pw_Mem → Option (Int32 × pw_Mem)) : ∀ (d n i : Nat), i + d = 16 → d < n → fl_X6_ones_4 k (nI x) n (nI (r_pc x i)) (nI i) μ = k (nI (r_pc x 16)) μ := by
  intro d
  induction d with
  | zero =>
    intro n i hi hn
    obtain ⟨n, rfl⟩ : ∃ q, n = q + 1 := ⟨n - 1, by omega⟩
    rw [fl_X6_ones_4, mm_l16, if_pos (nI_le (by omega) (by omega)), ← hi, Nat.add_zero]
  | succ d ih =>
    intro n i hi hn
    obtain ⟨n, rfl⟩ : ∃ q, n = q + 1 := ⟨n - 1, by omega⟩
    rw [fl_X6_ones_4, mm_l16, if_neg (nI_ge (by omega) (by omega)), mm_l1, mm_l31, mm_bit h (by omega), mm_add, mm_add]
    exact ih n (i + 1) (by omega) (by omega)
theorem m_ones {μ : pw_Mem} {x : Nat} (h : x < 2147483648) : fn_X6_ones (nI x) μ = some (nI (r_pc x 16), μ) := m_ones_l h (fun y m => some (y, m)) 16 1000 0 (by omega) (by omega)
