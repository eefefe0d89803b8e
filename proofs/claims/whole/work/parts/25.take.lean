/-! WHAT IS LOOKED AT ahead of an answer -/
def bw (a : Int32) (lo hi : Int) : Nat := if lo ≤ a.toInt ∧ a.toInt ≤ hi then 1 else 0
theorem bw_c (a : Int32) (lo hi : Int) : bw a lo hi = 0 ∨ (bw a lo hi = 1 ∧ lo ≤ a.toInt ∧ a.toInt ≤ hi) := by
  unfold bw
  by_cases h : lo ≤ a.toInt ∧ a.toInt ≤ hi
  · right; rw [if_pos h]; exact ⟨rfl, h⟩
  · left; rw [if_neg h]
theorem bw_n {a : Int32} {lo hi : Int} (h1 : lo ≤ a.toInt) (h2 : a.toInt ≤ hi) (h0 : 0 ≤ lo) : ∃ j : Nat, a = nI j ∧ lo ≤ (j : Int) ∧ (j : Int) ≤ hi ∧ j < 2147483648 := by
  have hl : a.toInt < 2147483648 := by have := Int32.toInt_lt a; omega
  refine ⟨a.toInt.toNat, ?_, by omega, by omega, by omega⟩
  apply Int32.toInt_inj.mp
  rw [nI_toInt (by omega)]
  omega
theorem bw_lt (a b : Int32) : a < b ↔ a.toInt < b.toInt := Int32.lt_iff_toInt_lt
theorem bw_le (a b : Int32) : a ≤ b ↔ a.toInt ≤ b.toInt := Int32.le_iff_toInt_le
theorem bw_ite {R : Type} {a : Int32} {lo hi : Int} {A B : R} : (if nI (bw a lo hi) = (0 : Int32) then A else B) = if bw a lo hi = 0 then A else B := by
  rcases bw_c a lo hi with h | ⟨h, -⟩ <;> rw [h] <;> rfl
theorem bw_itn {R : Type} {a : Int32} {lo hi : Int} {A B : R} : (if nI (bw a lo hi) ≠ (0 : Int32) then A else B) = if bw a lo hi = 0 then B else A := by
  rcases bw_c a lo hi with h | ⟨h, -⟩ <;> rw [h] <;> rfl
theorem bw_bz {R : Type} {a : Int32} {lo hi : Int} {k : Option R} : fn_bz (nI (bw a lo hi)) k = k := by
  rcases bw_c a lo hi with h | ⟨h, -⟩ <;> rw [h] <;> rfl
theorem x_isWithin (a b c : Int32) (μ : pw_Mem) : fn_X5_isWithin a b c μ = some (nI (bw a b.toInt c.toInt), μ) := by
  unfold fn_X5_isWithin bw
  by_cases h1 : a < b
  · rw [if_pos h1, if_neg (by rw [bw_lt] at h1; omega)]; rfl
  · rw [if_neg h1]
    by_cases h2 : c < a
    · rw [if_pos h2, if_neg (by rw [bw_lt] at h2; omega)]; rfl
    · rw [if_neg h2, if_pos (by rw [bw_lt] at h1 h2; omega)]; rfl
theorem x_isRow (a : Int32) (μ : pw_Mem) : fn_X5_isRow a μ = some (nI (bw a 0 7), μ) := by
  unfold fn_X5_isRow bw
  have z : (0 : Int32).toInt = 0 := rfl
  have e : (8 : Int32).toInt = 8 := rfl
  by_cases h1 : a < 0
  · rw [if_pos h1, if_neg (by rw [bw_lt, z] at h1; omega)]; rfl
  · rw [if_neg h1]
    by_cases h2 : (8 : Int32) ≤ a
    · rw [if_pos h2, if_neg (by rw [bw_le, e] at h2; omega)]; rfl
    · rw [if_neg h2, if_pos (by rw [bw_lt, z] at h1; rw [bw_le, e] at h2; omega)]; rfl
theorem x_isX {a c : Int32} {n : Nat} (hc : c = nI n) (hn : n < 2147483648) (μ : pw_Mem) : (if a < 0 then fn_bz (0 : Int32) (some ((0 : Int32), μ)) else (if c ≤ a then fn_bz (0 : Int32) (some ((0 : Int32), μ)) else fn_bz (1 : Int32) (some ((1 : Int32), μ)))) = some (nI (bw a 0 ((n : Int) - 1)), μ) := by
  subst hc
  unfold bw
  have z : (0 : Int32).toInt = 0 := rfl
  have e : (nI n).toInt = n := nI_toInt (by omega)
  by_cases h1 : a < 0
  · rw [if_pos h1, if_neg (by rw [bw_lt, z] at h1; omega)]; rfl
  · rw [if_neg h1]
    by_cases h2 : nI n ≤ a
    · rw [if_pos h2, if_neg (by rw [bw_le, e] at h2; omega)]; rfl
    · rw [if_neg h2, if_pos (by rw [bw_lt, z] at h1; rw [bw_le, e] at h2; omega)]; rfl
theorem x_isPulpit {μ : pw_Mem} {ρ : Rd} (h : rd_X μ 4 ρ) (h1 : ρ 1 ≤ 5) (a : Int32) : fn_X5_isPulpit a μ = some (nI (bw a 0 ((ρ 1 : Int) - 1)), μ) := x_isX h.2.2.2.2.1 (by omega) μ
theorem x_isStretch {μ : pw_Mem} {ρ : Rd} (h : rd_X μ 4 ρ) (h1 : ρ 0 ≤ 9) (a : Int32) : fn_X5_isStretch a μ = some (nI (bw a 0 ((ρ 0 : Int) - 1)), μ) := x_isX h.2.2.2.1 (by omega) μ
theorem x_isWord {μ : pw_Mem} {ρ : Rd} (h : rd_X μ 4 ρ) (h1 : ρ 2 ≤ 16) (a : Int32) : fn_X5_isWord a μ = some (nI (bw a 0 ((ρ 2 : Int) - 1)), μ) := x_isX h.1 (by omega) μ
theorem m_in64 (a b c : Int32) (μ : pw_Mem) : fn_X6_in a.toInt64 b.toInt64 c.toInt64 μ = some (nI (bw a b.toInt c.toInt), μ) := by
  have lt : ∀ x y : Int32, lg_cmp x.toInt64 y.toInt64 < 0 ↔ x.toInt < y.toInt := by
    intro x y
    have h1 : x.toInt64.toInt = x.toInt := Int32.toInt_toInt64 x
    have h2 : y.toInt64.toInt = y.toInt := Int32.toInt_toInt64 y
    unfold lg_cmp
    by_cases q : x.toInt64 > y.toInt64
    · rw [if_pos q]
      have : y.toInt64.toInt < x.toInt64.toInt := Int64.lt_iff_toInt_lt.mp q
      constructor
      · intro z; exact absurd z (by decide)
      · intro z; omega
    · rw [if_neg q]
      have : ¬ y.toInt64.toInt < x.toInt64.toInt := fun z => q (Int64.lt_iff_toInt_lt.mpr z)
      by_cases r : x.toInt64 = y.toInt64
      · rw [if_pos r]
        rw [← Int64.toInt_inj] at r
        constructor
        · intro z; exact absurd z (by decide)
        · intro z; omega
      · rw [if_neg r]
        rw [← Int64.toInt_inj] at r
        constructor
        · intro z; omega
        · intro z; decide
  have gt : ∀ x y : Int32, 0 < lg_cmp x.toInt64 y.toInt64 ↔ y.toInt < x.toInt := by
    intro x y
    have h1 : x.toInt64.toInt = x.toInt := Int32.toInt_toInt64 x
    have h2 : y.toInt64.toInt = y.toInt := Int32.toInt_toInt64 y
    unfold lg_cmp
    by_cases q : x.toInt64 > y.toInt64
    · rw [if_pos q]
      have : y.toInt64.toInt < x.toInt64.toInt := Int64.lt_iff_toInt_lt.mp q
      constructor
      · intro z; omega
      · intro z; decide
    · rw [if_neg q]
      have : ¬ y.toInt64.toInt < x.toInt64.toInt := fun z => q (Int64.lt_iff_toInt_lt.mpr z)
      constructor
      · intro z
        split at z <;> exact absurd z (by decide)
      · intro z; omega
  unfold fn_X6_in bw
  by_cases h1 : lg_cmp a.toInt64 b.toInt64 < 0
  · rw [if_pos h1, if_neg (by rw [lt] at h1; omega)]; rfl
  · rw [if_neg h1]
    by_cases h2 : 0 < lg_cmp a.toInt64 c.toInt64
    · rw [if_pos h2, if_neg (by rw [gt] at h2; omega)]; rfl
    · rw [if_neg h2, if_pos (by rw [lt] at h1; rw [gt] at h2; omega)]; rfl
theorem m_in_nat (a : Int32) {lo hi : Nat} (h1 : lo < 2147483648) (h2 : hi < 2147483648) (μ : pw_Mem) : fn_X6_in a.toInt64 (nI lo).toInt64 (nI hi).toInt64 μ = some (nI (bw a lo hi), μ) := by
  rw [m_in64, nI_toInt (by omega), nI_toInt (by omega)]
theorem m_isRow (a : Int32) (μ : pw_Mem) : fn_X6_isRow a μ = some (nI (bw a 0 7), μ) := by
  unfold fn_X6_isRow
  rw [show (0 : Int64) = (nI 0).toInt64 from rfl, show (7 : Int64) = (nI 7).toInt64 from rfl, m_in_nat a (by omega) (by omega), mm_bi]
  exact bw_bz
theorem m_isX (a : Int32) {n : Nat} (hn : n < 2147483648) (μ : pw_Mem) : fn_X6_in a.toInt64 (0 : Int64) ((nI n) - (1 : Int32)).toInt64 μ = some (nI (bw a 0 ((n : Int) - 1)), μ) := by
  rw [show (0 : Int64) = (0 : Int32).toInt64 from rfl, m_in64, show (0 : Int32).toInt = 0 from rfl]
  have e : ((nI n) - (1 : Int32)).toInt = (n : Int) - 1 := by
    by_cases q : n = 0
    · subst q; rfl
    · rw [mm_l1, mm_sub (by omega), nI_toInt (by omega)]; omega
  rw [e]
theorem m_isPulpit {μ : pw_Mem} {ρ : Rd} (h : rd_M μ 0 ρ) (h1 : ρ 1 ≤ 5) (a : Int32) : fn_X6_isPulpit a μ = some (nI (bw a 0 ((ρ 1 : Int) - 1)), μ) := by
  unfold fn_X6_isPulpit
  have e : μ 55 1 = nI (ρ 1) := h 1 (by omega)
  rw [mm_l1, mm_ix (by omega) (by omega), e, ← mm_l1, m_isX a (by omega), mm_bi]
  exact bw_bz
theorem m_isStretch {μ : pw_Mem} {ρ : Rd} (h : rd_M μ 0 ρ) (h1 : ρ 0 ≤ 9) (a : Int32) : fn_X6_isStretch a μ = some (nI (bw a 0 ((ρ 0 : Int) - 1)), μ) := by
  unfold fn_X6_isStretch
  have e : μ 55 0 = nI (ρ 0) := h 0 (by omega)
  rw [mm_l0, mm_ix (by omega) (by omega), e, m_isX a (by omega), mm_bi]
  exact bw_bz
theorem m_isRoad {μ : pw_Mem} {ρ : Rd} (h : rd_M μ 0 ρ) (h1 : ρ 0 ≤ 9) : fn_X6_isRoad μ = some (nI (if ρ 0 = 0 then 0 else 1), μ) := by
  unfold fn_X6_isRoad
  have e : μ 55 0 = nI (ρ 0) := h 0 (by omega)
  simp (disch := omega) only [mm_l0, mm_l1, mm_l2, mm_l3, mm_l4, mm_l5, mm_l6, mm_l7, mm_l8, mm_l9, mm_l10, mm_l11, mm_l12, mm_l13, mm_l14, mm_l15, mm_l16, mm_l17, mm_l18, mm_l19, mm_l20, mm_l21, mm_l22, mm_l23, mm_l24, mm_l25, mm_l26, mm_l27, mm_l28, mm_l29, mm_l30, mm_l31, mm_l32, mm_l33, mm_l34, mm_l35, mm_l36, mm_l37, mm_l38, mm_l39, mm_l40, mm_l41, mm_l42, mm_l43, mm_l44, mm_l45, mm_l46, mm_l47, mm_l48, mm_l49, mm_l50, mm_l51, mm_l52, mm_l53, mm_l54, mm_l55, mm_l56, mm_l57, mm_l58, mm_l59, mm_l60, mm_l61, mm_l62, mm_l63, mm_l64, mm_l65, mm_l66, mm_l67, mm_l68, mm_l69, mm_l76, mm_l90, mm_l97, mm_l98, mm_l100, mm_l101, mm_l107, mm_l112, mm_l114, mm_l121, mm_l152, mm_l153, mm_l154, mm_l155, mm_l156, mm_l165, mm_l171, mm_l176, mm_l190, mm_l200, mm_l210, mm_l255, mm_l460, mm_l1000, mm_l9999, mm_l999999, mm_ix, e, mm_le, mm_bz0, mm_bz1]
  by_cases q : ρ 0 = 0
  · rw [if_pos (by omega), if_pos q]
  · rw [if_neg (by omega), if_neg q]
/-! TAKING a road over -/
section TK
variable {o o1 : Nat}
theorem x_take_l1 (ho : o + 6 < o1 ∨ o1 + 6 < o) (k : pw_Mem → Option pw_Mem) : ∀ (d n i : Nat) (m : pw_Mem), i + d = 9 → d < n → ∃ m', fl_X2_take_50 k o o1 n (nI i) m = k m' ∧ (∀ j, j ≠ o + 1 → j ≠ o + 2 → m' j = m j) ∧ (∀ s, s < i → m' (o + 1) s = m (o + 1) s ∧ m' (o + 2) s = m (o + 2) s) ∧ ∀ s, i ≤ s → s < 9 → m' (o + 1) s = m (o1 + 1) s ∧ m' (o + 2) s = m (o1 + 2) s := by
  intro d
  induction d with
  | zero =>
    intro n i m hi hn
    obtain ⟨n, rfl⟩ : ∃ q, n = q + 1 := ⟨n - 1, by omega⟩
    refine ⟨m, ?_, fun _ _ _ => rfl, fun _ _ => ⟨rfl, rfl⟩, fun s h1 h2 => by omega⟩
    rw [fl_X2_take_50, mm_l9, if_pos (nI_le (by omega) (by omega))]
  | succ d ih =>
    intro n i m hi hn
    obtain ⟨n, rfl⟩ : ∃ q, n = q + 1 := ⟨n - 1, by omega⟩
    obtain ⟨m', a, b, c, e⟩ := ih n (i + 1) (pw_st (pw_st m (o + 1) i (m (o1 + 1) i)) (o + 2) i ((pw_st m (o + 1) i (m (o1 + 1) i)) (o1 + 2) i)) (by omega) (by omega)
    refine ⟨m', ?_, fun j h1 h2 => by rw [b j h1 h2, ms_row _ _ h2, ms_row _ _ h1], fun s hs => ?_, fun s h1 h2 => ?_⟩
    · rw [fl_X2_take_50, mm_l9, if_neg (nI_ge (by omega) (by omega))]
      simp (disch := omega) only [mm_ix, mm_l1, mm_add]
      exact a
    · have := c s (by omega)
      rw [this.1, this.2, ms_ne _ _ (by omega), ms_ne _ _ (by omega), ms_ne _ _ (by omega), ms_ne _ _ (by omega)]
      exact ⟨rfl, rfl⟩
    · by_cases q : s = i
      · subst q
        have := c s (by omega)
        rw [this.1, this.2, ms_ne _ _ (by omega), ms_eq, ms_eq, ms_ne _ _ (by omega)]
        exact ⟨rfl, rfl⟩
      · have := e s (by omega) h2
        rw [this.1, this.2, ms_ne _ _ (by omega), ms_ne _ _ (by omega), ms_ne _ _ (by omega), ms_ne _ _ (by omega)]
        exact ⟨rfl, rfl⟩
theorem x_take_l2 (ho : o + 6 < o1 ∨ o1 + 6 < o) (k : pw_Mem → Option pw_Mem) : ∀ (d n i : Nat) (m : pw_Mem), i + d = 5 → d < n → ∃ m', fl_X2_take_88 k o o1 n (nI i) m = k m' ∧ (∀ j, j ≠ o + 3 → j ≠ o + 4 → j ≠ o + 5 → m' j = m j) ∧ (∀ s, s < i → m' (o + 3) s = m (o + 3) s ∧ m' (o + 4) s = m (o + 4) s ∧ m' (o + 5) s = m (o + 5) s) ∧ ∀ s, i ≤ s → s < 5 → m' (o + 3) s = m (o1 + 3) s ∧ m' (o + 4) s = m (o1 + 4) s ∧ m' (o + 5) s = m (o1 + 5) s := by
  intro d
  induction d with
  | zero =>
    intro n i m hi hn
    obtain ⟨n, rfl⟩ : ∃ q, n = q + 1 := ⟨n - 1, by omega⟩
    refine ⟨m, ?_, fun _ _ _ _ => rfl, fun _ _ => ⟨rfl, rfl, rfl⟩, fun s h1 h2 => by omega⟩
    rw [fl_X2_take_88, mm_l5, if_pos (nI_le (by omega) (by omega))]
  | succ d ih =>
    intro n i m hi hn
    obtain ⟨n, rfl⟩ : ∃ q, n = q + 1 := ⟨n - 1, by omega⟩
    obtain ⟨m', a, b, c, e⟩ := ih n (i + 1) (pw_st (pw_st (pw_st m (o + 3) i (m (o1 + 3) i)) (o + 4) i ((pw_st m (o + 3) i (m (o1 + 3) i)) (o1 + 4) i)) (o + 5) i ((pw_st (pw_st m (o + 3) i (m (o1 + 3) i)) (o + 4) i ((pw_st m (o + 3) i (m (o1 + 3) i)) (o1 + 4) i)) (o1 + 5) i)) (by omega) (by omega)
    refine ⟨m', ?_, fun j h1 h2 h3 => by rw [b j h1 h2 h3, ms_row _ _ h3, ms_row _ _ h2, ms_row _ _ h1], fun s hs => ?_, fun s h1 h2 => ?_⟩
    · rw [fl_X2_take_88, mm_l5, if_neg (nI_ge (by omega) (by omega))]
      simp (disch := omega) only [mm_ix, mm_l1, mm_add]
      exact a
    · have := c s (by omega)
      rw [this.1, this.2.1, this.2.2]
      simp (disch := omega) only [ms_ne]
      exact ⟨trivial, trivial, trivial⟩
    · by_cases q : s = i
      · subst q
        have := c s (by omega)
        rw [this.1, this.2.1, this.2.2]
        refine ⟨?_, ?_, ?_⟩
        · rw [ms_ne _ _ (by omega), ms_ne _ _ (by omega), ms_eq]
        · rw [ms_ne _ _ (by omega), ms_eq, ms_ne _ _ (by omega)]
        · rw [ms_eq, ms_ne _ _ (by omega), ms_ne _ _ (by omega)]
      · have := e s (by omega) h2
        rw [this.1, this.2.1, this.2.2]
        simp (disch := omega) only [ms_ne]
        exact ⟨trivial, trivial, trivial⟩
theorem x_take {μ : pw_Mem} {ρ : Rd} (h : rd_X μ o1 ρ) (h0 : ρ 0 ≤ 9) (h1 : ρ 1 ≤ 5) (ho : o + 6 < o1 ∨ o1 + 6 < o) (hb : μ o1 0 = nI 0 ∨ μ o1 0 = nI 1) : ∃ μ', fn_X2_take o o1 μ = some μ' ∧ rd_X μ' o ρ ∧ μ' o 0 = μ o1 0 ∧ ∀ k, k < o ∨ o + 5 < k → μ' k = μ k := by
  unfold fn_X2_take
  have hz : ∀ k : Option pw_Mem, fn_bz (μ o1 0) k = k := fun k => by rcases hb with e | e <;> rw [e] <;> rfl
  rw [hz]
  generalize hM : (pw_st (pw_st (pw_st (pw_st (pw_st (pw_st μ o 0 (μ o1 0)) o 1 _) o 2 _) o 3 _) o 4 _) o 5 _) = M
  have g0 : M o 0 = μ o1 0 := by rw [← hM]; simp (disch := omega) only [ms_ne, ms_eq]
  have g1 : M o 1 = μ o1 1 := by rw [← hM]; simp (disch := omega) only [ms_ne, ms_eq]
  have g2 : M o 2 = μ o1 2 := by rw [← hM]; simp (disch := omega) only [ms_ne, ms_eq]
  have g3 : M o 3 = μ o1 3 := by rw [← hM]; simp (disch := omega) only [ms_ne, ms_eq]
  have g4 : M o 4 = μ o1 4 := by rw [← hM]; simp (disch := omega) only [ms_ne, ms_eq]
  have g5 : M o 5 = μ o1 5 := by rw [← hM]; simp (disch := omega) only [ms_ne, ms_eq]
  have gr : ∀ j, j ≠ o → M j = μ j := fun j hj => by rw [← hM]; rw [ms_row _ _ hj, ms_row _ _ hj, ms_row _ _ hj, ms_row _ _ hj, ms_row _ _ hj, ms_row _ _ hj]
  clear hM
  obtain ⟨m1, a1, a2, -, a4⟩ := x_take_l1 ho (fun m86 => fl_X2_take_88 (fun m135 => some m135) o o1 1000 (nI 0) m86) 9 1000 0 M (by omega) (by omega)
  obtain ⟨m2, b1, b2, -, b4⟩ := x_take_l2 ho (fun m135 => some m135) 5 1000 0 m1 (by omega) (by omega)
  refine ⟨m2, a1.trans b1, ?_, ?_, ?_⟩
  · obtain ⟨c1, c2, c3, c4, c5, c6, c7⟩ := h
    have e : m2 o = M o := by rw [b2 o (by omega) (by omega) (by omega), a2 o (by omega) (by omega)]
    refine ⟨by rw [e, g1]; exact c1, by rw [e, g2]; exact c2, by rw [e, g3]; exact c3, by rw [e, g4]; exact c4, by rw [e, g5]; exact c5, fun s hs => ?_, fun p hp => ?_⟩
    · have q := a4 s (by omega) (by omega)
      rw [b2 (o + 1) (by omega) (by omega) (by omega), b2 (o + 2) (by omega) (by omega) (by omega), q.1, q.2, gr _ (by omega), gr _ (by omega)]
      exact c6 s hs
    · have q := b4 p (by omega) (by omega)
      rw [q.1, q.2.1, q.2.2, a2 _ (by omega) (by omega), a2 _ (by omega) (by omega), a2 _ (by omega) (by omega), gr _ (by omega), gr _ (by omega), gr _ (by omega)]
      exact c7 p hp
  · rw [b2 o (by omega) (by omega) (by omega), a2 o (by omega) (by omega), g0]
  · intro j hj
    rw [b2 j (by omega) (by omega) (by omega), a2 j (by omega) (by omega), gr j (by omega)]
end TK
def r_hours (ρ : Rd) : Nat → Rd
  | 0 => ρ
  | d + 1 => r_hour (r_hours ρ d)
theorem rk_hourR {ρ : Rd} (ok : rk ρ) : rk (r_hour ρ) := rk_hourS ok _
theorem rk_hours {ρ : Rd} (ok : rk ρ) : ∀ d, rk (r_hours ρ d)
  | 0 => ok
  | d + 1 => rk_hourR (rk_hours ok d)
theorem r_hours_lo (ρ : Rd) {j : Nat} (h : j < 18) : ∀ d, r_hours ρ d j = ρ j
  | 0 => rfl
  | d + 1 => by rw [r_hours, r_hour, r_hourS_lo _ _ h]; exact r_hours_lo ρ h d
theorem x_goHours_l {o : Nat} {ρ : Rd} (ok : rk ρ) {D : Nat} (hD : D ≤ 900) (k : pw_Mem → Option pw_Mem) : ∀ (d n i : Nat) (m : pw_Mem), rd_X m o (r_hours ρ i) → i + d = D → d < n → ∃ m', fl_X2_goHours_2 k o (nI D) n (nI i) m = k m' ∧ rd_X m' o (r_hours ρ D) ∧ (∀ j, j < o ∨ o + 6 < j → m' j = m j) ∧ m' o 0 = m o 0 := by
  intro d
  induction d with
  | zero =>
    intro n i m h hi hn
    obtain ⟨n, rfl⟩ : ∃ q, n = q + 1 := ⟨n - 1, by omega⟩
    refine ⟨m, ?_, by rw [← hi]; exact h, fun _ _ => rfl, rfl⟩
    rw [fl_X2_goHours_2, if_pos (nI_le (by omega) (by omega))]
  | succ d ih =>
    intro n i m h hi hn
    obtain ⟨n, rfl⟩ : ∃ q, n = q + 1 := ⟨n - 1, by omega⟩
    obtain ⟨m1, a1, a2, a3, -, a5⟩ := x_goHour h (rk_hours ok i)
    obtain ⟨m', b1, b2, b3, b4⟩ := ih n (i + 1) m1 a2 (by omega) (by omega)
    refine ⟨m', ?_, b2, fun j hj => by rw [b3 j hj, a3 j hj], by rw [b4, a5]⟩
    rw [fl_X2_goHours_2, if_neg (nI_ge (by omega) (by omega)), a1, mm_bv, mm_l1, mm_add]
    exact b1
theorem x_goHours {o : Nat} {ρ : Rd} {μ : pw_Mem} (h : rd_X μ o ρ) (ok : rk ρ) {D : Nat} (hD : D ≤ 900) : ∃ μ', fn_X2_goHours o (nI D) μ = some μ' ∧ rd_X μ' o (r_hours ρ D) ∧ (∀ j, j < o ∨ o + 6 < j → μ' j = μ j) ∧ μ' o 0 = μ o 0 := x_goHours_l ok hD (fun m => some m) D 1000 0 μ h (by omega) (by omega)
/-- the road that stands is taken over by the foretold one, D hours on -/
theorem x_foretell {ρ : Rd} {μ : pw_Mem} (h : rd_X μ 4 ρ) (ok : rk ρ) (hs : μ 4 0 = nI 1) {D : Nat} (hD : D ≤ 900) : ∃ μ', fn_X5_foretell (nI D) μ = some μ' ∧ rd_X μ' 11 (r_hours ρ D) ∧ ∀ k, k < 11 ∨ 17 < k → μ' k = μ k := by
  obtain ⟨m1, a1, a2, a3, a4⟩ := x_take (o := 11) h (by have := ok.1; omega) ok.2.1 (by omega) (Or.inr hs)
  obtain ⟨m2, b1, b2, b3, b4⟩ := x_goHours a2 ok hD
  refine ⟨m2, ?_, b2, fun k hk => by rw [b3 k (by omega), a4 k (by omega)]⟩
  unfold fn_X5_foretell
  rw [a1, mm_bv, b1, mm_bv]
theorem m_copyOf_l {a b N : Nat} (ha : a + N ≤ 670) (hb : b + N ≤ 670) (hd : a + N ≤ b ∨ b + N ≤ a) (k : pw_Mem → Option pw_Mem) : ∀ (d n i : Nat) (m : pw_Mem), i + d = N → d < n → ∃ m', fl_X6_copyOf_3 k (nI a) (nI b) (nI N) n (nI i) m = k m' ∧ (∀ j, j ≠ 55 → m' j = m j) ∧ (∀ j, j < b + i ∨ b + N ≤ j → m' 55 j = m 55 j) ∧ ∀ j, i ≤ j → j < N → m' 55 (b + j) = m 55 (a + j) := by
  intro d
  induction d with
  | zero =>
    intro n i m hi hn
    obtain ⟨n, rfl⟩ : ∃ q, n = q + 1 := ⟨n - 1, by omega⟩
    refine ⟨m, ?_, fun _ _ => rfl, fun _ _ => rfl, fun j h1 h2 => by omega⟩
    rw [fl_X6_copyOf_3, if_pos (nI_le (by omega) (by omega))]
  | succ d ih =>
    intro n i m hi hn
    obtain ⟨n, rfl⟩ : ∃ q, n = q + 1 := ⟨n - 1, by omega⟩
    obtain ⟨m', c1, c2, c3, c4⟩ := ih n (i + 1) (pw_st m 55 (b + i) (m 55 (a + i))) (by omega) (by omega)
    refine ⟨m', ?_, fun j hj => by rw [c2 j hj, ms_row _ _ hj], fun j hj => by rw [c3 j (by omega), ms_nj _ _ (by omega)], fun j h1 h2 => ?_⟩
    · rw [fl_X6_copyOf_3, if_neg (nI_ge (by omega) (by omega))]
      simp (disch := omega) only [mm_add, mm_ix, mm_l1]
      exact c1
    · by_cases q : j = i
      · subst q; rw [c3 _ (by omega), ms_eq]
      · rw [c4 j (by omega) h2, ms_nj _ _ (by omega)]
theorem m_copyOf {a b N : Nat} (ha : a + N ≤ 670) (hb : b + N ≤ 670) (hd : a + N ≤ b ∨ b + N ≤ a) (μ : pw_Mem) : ∃ μ', fn_X6_copyOf (nI a) (nI b) (nI N) μ = some μ' ∧ (∀ j, j ≠ 55 → μ' j = μ j) ∧ (∀ j, j < b ∨ b + N ≤ j → μ' 55 j = μ 55 j) ∧ ∀ j, j < N → μ' 55 (b + j) = μ 55 (a + j) := by
  obtain ⟨m', c1, c2, c3, c4⟩ := m_copyOf_l ha hb hd (fun m => some m) N 1000 0 μ (by omega) (by omega)
  exact ⟨m', c1, c2, c3, fun j hj => c4 j (by omega) hj⟩
theorem m_tries {μ : pw_Mem} {ρ : Rd} (h : rd_M μ 0 ρ) : ∃ μ', fn_X6_tries μ = some μ' ∧ rd_M μ' 38 ρ ∧ (∀ j, j ≠ 55 → μ' j = μ j) ∧ ∀ j, j < 38 ∨ 76 ≤ j → μ' 55 j = μ 55 j := by
  obtain ⟨m', c1, c2, c3, c4⟩ := m_copyOf (a := 0) (b := 38) (N := 38) (by omega) (by omega) (by omega) μ
  refine ⟨m', ?_, fun i hi => by rw [c4 i hi]; exact h i hi, c2, c3⟩
  unfold fn_X6_tries
  rw [mm_l0, mm_l38, c1, mm_bv]
theorem m_goesOn_l {ρ : Rd} (ok : rk ρ) {D : Nat} (hD : D ≤ 900) (k : pw_Mem → Option pw_Mem) : ∀ (d n i : Nat) (m : pw_Mem), rd_M m 38 (r_hours ρ i) → i + d = D → d < n → ∃ m', fl_X6_goesOn_2 k (nI D) n (nI i) m = k m' ∧ rd_M m' 38 (r_hours ρ D) ∧ (∀ j, j ≠ 55 → m' j = m j) ∧ ∀ j, j < 38 ∨ 76 ≤ j → m' 55 j = m 55 j := by
  intro d
  induction d with
  | zero =>
    intro n i m h hi hn
    obtain ⟨n, rfl⟩ : ∃ q, n = q + 1 := ⟨n - 1, by omega⟩
    refine ⟨m, ?_, by rw [← hi]; exact h, fun _ _ => rfl, fun _ _ => rfl⟩
    rw [fl_X6_goesOn_2, if_pos (nI_le (by omega) (by omega))]
  | succ d ih =>
    intro n i m h hi hn
    obtain ⟨n, rfl⟩ : ∃ q, n = q + 1 := ⟨n - 1, by omega⟩
    obtain ⟨m1, a1, a2, a3, a4⟩ := m_hour h (rk_hours ok i) (by omega)
    obtain ⟨m', b1, b2, b3, b4⟩ := ih n (i + 1) m1 a2 (by omega) (by omega)
    refine ⟨m', ?_, b2, fun j hj => by rw [b3 j hj, a3 j hj], fun j hj => by rw [b4 j hj, a4 j (by omega)]⟩
    rw [fl_X6_goesOn_2, if_neg (nI_ge (by omega) (by omega)), mm_l38, mm_l0, a1, mm_bv, mm_l1, mm_add]
    exact b1
theorem m_goesOn {ρ : Rd} {μ : pw_Mem} (h : rd_M μ 38 ρ) (ok : rk ρ) {D : Nat} (hD : D ≤ 900) : ∃ μ', fn_X6_goesOn (nI D) μ = some μ' ∧ rd_M μ' 38 (r_hours ρ D) ∧ (∀ j, j ≠ 55 → μ' j = μ j) ∧ ∀ j, j < 38 ∨ 76 ≤ j → μ' 55 j = μ 55 j := m_goesOn_l ok hD (fun m => some m) D 1000 0 μ h (by omega) (by omega)
