/-! NUMBERS: whole numbers as ints -/
theorem mm_l0 : (0 : Int32) = nI 0 := rfl
theorem mm_l1 : (1 : Int32) = nI 1 := rfl
theorem mm_l2 : (2 : Int32) = nI 2 := rfl
theorem mm_l3 : (3 : Int32) = nI 3 := rfl
theorem mm_l4 : (4 : Int32) = nI 4 := rfl
theorem mm_l5 : (5 : Int32) = nI 5 := rfl
theorem mm_l6 : (6 : Int32) = nI 6 := rfl
theorem mm_l7 : (7 : Int32) = nI 7 := rfl
theorem mm_l8 : (8 : Int32) = nI 8 := rfl
theorem mm_l9 : (9 : Int32) = nI 9 := rfl
theorem mm_l10 : (10 : Int32) = nI 10 := rfl
theorem mm_l11 : (11 : Int32) = nI 11 := rfl
theorem mm_l12 : (12 : Int32) = nI 12 := rfl
theorem mm_l13 : (13 : Int32) = nI 13 := rfl
theorem mm_l14 : (14 : Int32) = nI 14 := rfl
theorem mm_l15 : (15 : Int32) = nI 15 := rfl
theorem mm_l16 : (16 : Int32) = nI 16 := rfl
theorem mm_l17 : (17 : Int32) = nI 17 := rfl
theorem mm_l18 : (18 : Int32) = nI 18 := rfl
theorem mm_l19 : (19 : Int32) = nI 19 := rfl
theorem mm_l20 : (20 : Int32) = nI 20 := rfl
theorem mm_l21 : (21 : Int32) = nI 21 := rfl
theorem mm_l22 : (22 : Int32) = nI 22 := rfl
theorem mm_l23 : (23 : Int32) = nI 23 := rfl
theorem mm_l24 : (24 : Int32) = nI 24 := rfl
theorem mm_l25 : (25 : Int32) = nI 25 := rfl
theorem mm_l26 : (26 : Int32) = nI 26 := rfl
theorem mm_l27 : (27 : Int32) = nI 27 := rfl
theorem mm_l28 : (28 : Int32) = nI 28 := rfl
theorem mm_l29 : (29 : Int32) = nI 29 := rfl
theorem mm_l30 : (30 : Int32) = nI 30 := rfl
theorem mm_l31 : (31 : Int32) = nI 31 := rfl
theorem mm_l32 : (32 : Int32) = nI 32 := rfl
theorem mm_l33 : (33 : Int32) = nI 33 := rfl
theorem mm_l34 : (34 : Int32) = nI 34 := rfl
theorem mm_l35 : (35 : Int32) = nI 35 := rfl
theorem mm_l36 : (36 : Int32) = nI 36 := rfl
theorem mm_l37 : (37 : Int32) = nI 37 := rfl
theorem mm_l38 : (38 : Int32) = nI 38 := rfl
theorem mm_l39 : (39 : Int32) = nI 39 := rfl
theorem mm_l40 : (40 : Int32) = nI 40 := rfl
theorem mm_l41 : (41 : Int32) = nI 41 := rfl
theorem mm_l42 : (42 : Int32) = nI 42 := rfl
theorem mm_l43 : (43 : Int32) = nI 43 := rfl
theorem mm_l44 : (44 : Int32) = nI 44 := rfl
theorem mm_l45 : (45 : Int32) = nI 45 := rfl
theorem mm_l46 : (46 : Int32) = nI 46 := rfl
theorem mm_l47 : (47 : Int32) = nI 47 := rfl
theorem mm_l48 : (48 : Int32) = nI 48 := rfl
theorem mm_l49 : (49 : Int32) = nI 49 := rfl
theorem mm_l50 : (50 : Int32) = nI 50 := rfl
theorem mm_l51 : (51 : Int32) = nI 51 := rfl
theorem mm_l52 : (52 : Int32) = nI 52 := rfl
theorem mm_l53 : (53 : Int32) = nI 53 := rfl
theorem mm_l54 : (54 : Int32) = nI 54 := rfl
theorem mm_l55 : (55 : Int32) = nI 55 := rfl
theorem mm_l56 : (56 : Int32) = nI 56 := rfl
theorem mm_l57 : (57 : Int32) = nI 57 := rfl
theorem mm_l58 : (58 : Int32) = nI 58 := rfl
theorem mm_l59 : (59 : Int32) = nI 59 := rfl
theorem mm_l60 : (60 : Int32) = nI 60 := rfl
theorem mm_l61 : (61 : Int32) = nI 61 := rfl
theorem mm_l62 : (62 : Int32) = nI 62 := rfl
theorem mm_l63 : (63 : Int32) = nI 63 := rfl
theorem mm_l64 : (64 : Int32) = nI 64 := rfl
theorem mm_l65 : (65 : Int32) = nI 65 := rfl
theorem mm_l66 : (66 : Int32) = nI 66 := rfl
theorem mm_l67 : (67 : Int32) = nI 67 := rfl
theorem mm_l68 : (68 : Int32) = nI 68 := rfl
theorem mm_l69 : (69 : Int32) = nI 69 := rfl
theorem mm_l76 : (76 : Int32) = nI 76 := rfl
theorem mm_l90 : (90 : Int32) = nI 90 := rfl
theorem mm_l97 : (97 : Int32) = nI 97 := rfl
theorem mm_l98 : (98 : Int32) = nI 98 := rfl
theorem mm_l100 : (100 : Int32) = nI 100 := rfl
theorem mm_l101 : (101 : Int32) = nI 101 := rfl
theorem mm_l107 : (107 : Int32) = nI 107 := rfl
theorem mm_l112 : (112 : Int32) = nI 112 := rfl
theorem mm_l114 : (114 : Int32) = nI 114 := rfl
theorem mm_l121 : (121 : Int32) = nI 121 := rfl
theorem mm_l152 : (152 : Int32) = nI 152 := rfl
theorem mm_l153 : (153 : Int32) = nI 153 := rfl
theorem mm_l154 : (154 : Int32) = nI 154 := rfl
theorem mm_l155 : (155 : Int32) = nI 155 := rfl
theorem mm_l156 : (156 : Int32) = nI 156 := rfl
theorem mm_l165 : (165 : Int32) = nI 165 := rfl
theorem mm_l171 : (171 : Int32) = nI 171 := rfl
theorem mm_l176 : (176 : Int32) = nI 176 := rfl
theorem mm_l190 : (190 : Int32) = nI 190 := rfl
theorem mm_l200 : (200 : Int32) = nI 200 := rfl
theorem mm_l210 : (210 : Int32) = nI 210 := rfl
theorem mm_l255 : (255 : Int32) = nI 255 := rfl
theorem mm_l460 : (460 : Int32) = nI 460 := rfl
theorem mm_l1000 : (1000 : Int32) = nI 1000 := rfl
theorem mm_l9999 : (9999 : Int32) = nI 9999 := rfl
theorem mm_l999999 : (999999 : Int32) = nI 999999 := rfl
theorem mm_le {a b : Nat} (ha : a < 2147483648) (hb : b < 2147483648) : (nI a ≤ nI b) = (a ≤ b) := propext (nI_leI (by omega) (by omega))
theorem mm_lt {a b : Nat} (ha : a < 2147483648) (hb : b < 2147483648) : (nI a < nI b) = (a < b) := propext (nI_ltI (by omega) (by omega))
theorem mm_eq {a b : Nat} (ha : a < 2147483648) (hb : b < 2147483648) : (nI a = nI b) = (a = b) := propext (nI_eq (by omega) (by omega))
theorem mm_ne {a b : Nat} (ha : a < 2147483648) (hb : b < 2147483648) : (nI a ≠ nI b) = (a ≠ b) := by rw [ne_eq, mm_eq ha hb]
theorem mm_add (a b : Nat) : nI a + nI b = nI (a + b) := nI_add a b
theorem mm_mul (a b : Nat) : nI a * nI b = nI (a * b) := pk_mul a b
theorem mm_sub {a b : Nat} (h : b ≤ a) : nI a - nI b = nI (a - b) := pk_sub h
theorem mm_rem {a d : Nat} (ha : a < 2147483648) (h0 : 0 < d) (hd : d < 2147483648) : nI a - nI a / nI d * nI d = nI (a % d) := pk_rem (by omega) h0 (by omega)
theorem mm_div {a d : Nat} (ha : a < 2147483648) (h0 : 0 < d) (hd : d < 2147483648) : nI a / nI d = nI (a / d) := pk_div (by omega) h0 (by omega)
theorem mm_clamp {a : Nat} (ha : a < 2147483648) : (nI a).toNatClampNeg = a := nI_clamp (by omega)
theorem mm_or (a b : Nat) : nI a ||| nI b = nI (a ||| b) := by
  apply Int32.toBitVec_inj.mp
  show BitVec.ofNat 32 a ||| BitVec.ofNat 32 b = BitVec.ofNat 32 (a ||| b)
  apply BitVec.eq_of_toNat_eq
  simp [Nat.or_mod_two_pow]
theorem mm_and (a b : Nat) : nI a &&& nI b = nI (a &&& b) := by
  apply Int32.toBitVec_inj.mp
  show BitVec.ofNat 32 a &&& BitVec.ofNat 32 b = BitVec.ofNat 32 (a &&& b)
  apply BitVec.eq_of_toNat_eq
  simp [Nat.and_mod_two_pow]
theorem mm_s31 : ∀ n, n < 32 → ((nI n &&& nI 31).toBitVec.smod 32).toNat = n := by decide +kernel
theorem mm_shl {a j : Nat} (hj : j < 32) (h : a * 2 ^ j < 4294967296) : nI a <<< (nI j &&& nI 31) = nI (a * 2 ^ j) := pk_shlN _ j (mm_s31 j hj) (by omega)
theorem mm_one {j : Nat} (hj : j < 31) : nI 1 <<< (nI j &&& nI 31) = nI (2 ^ j) := by
  have h : 2 ^ j < 2 ^ 31 := Nat.pow_lt_pow_right (by omega) hj
  rw [mm_shl (by omega) (by omega), Nat.one_mul]
theorem mm_shr {a j : Nat} (ha : a < 2147483648) (hj : j < 32) : nI a >>> (nI j &&& nI 31) = nI (a / 2 ^ j) := pk_shrN (by omega) _ j (mm_s31 j hj)
theorem mm_bit {a j : Nat} (ha : a < 2147483648) (hj : j < 32) : (nI a >>> (nI j &&& nI 31)) &&& nI 1 = nI (a / 2 ^ j % 2) := by
  rw [mm_shr ha hj, mm_and, Nat.and_one_is_mod]
theorem mm_ix {R : Type} {j n : Nat} {k : Nat → Option R} (h : j < n) (hn : n < 2147483648) : fn_ix (nI j) n k = k j := by
  unfold fn_ix
  rw [if_neg (nI_in h (by omega)), mm_clamp (by omega)]
theorem mm_nz {R : Type} {a : Nat} {k : Option R} (h : 0 < a) (ha : a < 2147483648) : fn_nz (nI a) k = k := by
  unfold fn_nz
  rw [if_neg (nI_ne0 h (by omega))]
theorem mm_bz0 {R : Type} {k : Option R} : fn_bz (nI 0) k = k := id rfl
theorem mm_bz1 {R : Type} {k : Option R} : fn_bz (nI 1) k = k := id rfl
theorem mm_bi {R : Type} {r : Int32} {μ : pw_Mem} {k : Int32 → pw_Mem → Option R} : fn_bi (some (r, μ)) k = k r μ := id rfl
theorem mm_bv {R : Type} {μ : pw_Mem} {k : pw_Mem → Option R} : fn_bv (some μ) k = k μ := id rfl
theorem mm_j0 {R : Type} {K : pw_Mem → Option R} {b : (pw_Mem → Option R) → Option R} : fn_jn0 K b = b K := id rfl
theorem mm_j1 {R : Type} {K : Int32 → pw_Mem → Option R} {b : (Int32 → pw_Mem → Option R) → Option R} : fn_jn1 K b = b K := id rfl
theorem mm_j2 {R : Type} {K : Int32 → Int32 → pw_Mem → Option R} {b : (Int32 → Int32 → pw_Mem → Option R) → Option R} : fn_jn2 K b = b K := id rfl
theorem mm_j3 {R : Type} {K : Int32 → Int32 → Int32 → pw_Mem → Option R} {b : (Int32 → Int32 → Int32 → pw_Mem → Option R) → Option R} : fn_jn3 K b = b K := id rfl
/-! MEMORY -/
theorem ms_at (μ : pw_Mem) (o j : Nat) (x : Int32) (a b : Nat) : pw_st μ o j x a b = if a = o ∧ b = j then x else μ a b := by
  unfold pw_st va_up upd
  by_cases h : a = o
  · subst h; by_cases h2 : b = j <;> simp [h2]
  · simp [h]
theorem ms_eq (μ : pw_Mem) (o j : Nat) (x : Int32) : pw_st μ o j x o j = x := by simp [ms_at]
theorem ms_ne (μ : pw_Mem) {o j : Nat} (x : Int32) {a b : Nat} (h : a ≠ o ∨ b ≠ j) : pw_st μ o j x a b = μ a b := by
  rw [ms_at, if_neg]; omega
theorem ms_row (μ : pw_Mem) {o j : Nat} (x : Int32) {a : Nat} (h : a ≠ o) : pw_st μ o j x a = μ a := by
  unfold pw_st; exact va_up_ne _ _ h
theorem ms_nj (μ : pw_Mem) {o j : Nat} (x : Int32) {a b : Nat} (h : b ≠ j) : pw_st μ o j x a b = μ a b := ms_ne μ x (Or.inr h)
theorem mm_j0i {R : Type} {K : pw_Mem → Option R} {c : Prop} {d : Decidable c} {A B : (pw_Mem → Option R) → Option R} : fn_jn0 K (fun k => @ite _ c d (A k) (B k)) = @ite _ c d (fn_jn0 K A) (fn_jn0 K B) := by unfold fn_jn0; split <;> rfl
theorem mm_j1i {R : Type} {K : Int32 → pw_Mem → Option R} {c : Prop} {d : Decidable c} {A B : (Int32 → pw_Mem → Option R) → Option R} : fn_jn1 K (fun k => @ite _ c d (A k) (B k)) = @ite _ c d (fn_jn1 K A) (fn_jn1 K B) := by unfold fn_jn1; split <;> rfl
