/-! READINGS of a road -/
def r_wg (ρ : Rd) : Nat → Nat
  | 0 => 0
  | i + 1 => if ρ (29 + i) = 2 ^ ρ 2 - 1 then r_wg ρ i ||| 2 ^ i else r_wg ρ i
def r_any (ρ : Rd) (g : Nat) : Nat → Nat
  | 0 => 0
  | i + 1 => if g / 2 ^ i % 2 = 1 then r_any ρ g i ||| ρ (29 + i) else r_any ρ g i
def r_wh (ρ : Rd) : Nat → Nat
  | 0 => 0
  | i + 1 => r_wh ρ i + r_pc (ρ (29 + i)) 16
def r_on (ρ : Rd) (s : Nat) : Nat → Nat
  | 0 => 0
  | i + 1 => if ρ (19 + i) = s then r_on ρ s i ||| 2 ^ i else r_on ρ s i
theorem r_wg_lt (ρ : Rd) : ∀ i, r_wg ρ i < 2 ^ i
  | 0 => by show 0 < 2 ^ 0; decide
  | i + 1 => by
    have := r_wg_lt ρ i
    have h2 : 2 ^ i < 2 ^ (i + 1) := Nat.pow_lt_pow_right (by omega) (by omega)
    unfold r_wg
    split
    · exact Nat.or_lt_two_pow (by omega) h2
    · omega
theorem r_any_lt {ρ : Rd} (ok : rk ρ) (g : Nat) : ∀ i, i ≤ ρ 0 → r_any ρ g i < 2 ^ ρ 2
  | 0, _ => Nat.two_pow_pos _
  | i + 1, h => by
    have := r_any_lt ok g i (by omega)
    unfold r_any
    split
    · exact Nat.or_lt_two_pow this (ok.2.2.2.2.1 i (by omega)).2
    · exact this
section RR
variable {μ : pw_Mem} {o b : Nat} {ρ : Rd}
theorem x_wholeGates_l (h : rd_X μ o ρ) (ok : rk ρ) (k : Int32 → pw_Mem → Option (Int32 × pw_Mem)) : ∀ (d n i : Nat), i + d = ρ 0 → d < n → fl_X2_wholeGates_4 k o n (nI (r_wg ρ i)) (nI i) μ = k (nI (r_wg ρ (ρ 0))) μ := by
  intro d
  have ok' := ok
  obtain ⟨h0, h1, h2, h3, h4, h5⟩ := ok
  have hpw := r_pow16 ok'
  induction d with
  | zero =>
    intro n i hi hn
    obtain ⟨n, rfl⟩ : ∃ q, n = q + 1 := ⟨n - 1, by omega⟩
    rw [fl_X2_wholeGates_4, h.2.2.2.1, if_pos (nI_le (by omega) (by omega)), ← hi, Nat.add_zero]
  | succ d ih =>
    intro n i hi hn
    obtain ⟨n, rfl⟩ : ∃ q, n = q + 1 := ⟨n - 1, by omega⟩
    have e2 := (h.2.2.2.2.2.1 i (by omega)).2
    have g2 := (h4 i (by omega)).2
    have := ih n (i + 1) (by omega) (by omega)
    rw [r_wg] at this
    rw [fl_X2_wholeGates_4, h.2.2.2.1, if_neg (nI_ge (by omega) (by omega)), mm_ix (by omega) (by omega), x_allWords h ok', mm_bi, e2]
    simp (disch := omega) only [mm_l0, mm_l1, mm_l2, mm_l3, mm_l4, mm_l5, mm_l6, mm_l7, mm_l8, mm_l9, mm_l10, mm_l11, mm_l12, mm_l13, mm_l14, mm_l15, mm_l16, mm_l17, mm_l18, mm_l19, mm_l20, mm_l21, mm_l22, mm_l23, mm_l24, mm_l25, mm_l26, mm_l27, mm_l28, mm_l29, mm_l30, mm_l31, mm_l32, mm_l33, mm_l34, mm_l35, mm_l36, mm_l37, mm_l38, mm_l39, mm_l40, mm_l41, mm_l42, mm_l43, mm_l44, mm_l45, mm_l46, mm_l47, mm_l48, mm_l49, mm_l50, mm_l51, mm_l52, mm_l53, mm_l54, mm_l55, mm_l56, mm_l57, mm_l58, mm_l59, mm_l60, mm_l61, mm_l62, mm_l63, mm_l64, mm_l65, mm_l66, mm_l67, mm_l68, mm_l69, mm_l76, mm_l90, mm_l97, mm_l98, mm_l100, mm_l101, mm_l107, mm_l112, mm_l114, mm_l121, mm_l152, mm_l153, mm_l154, mm_l155, mm_l156, mm_l165, mm_l171, mm_l176, mm_l190, mm_l200, mm_l210, mm_l255, mm_l460, mm_l1000, mm_l9999, mm_l999999, mm_j1, mm_ne, mm_one, mm_or, mm_add]
    by_cases q : ρ (29 + i) = 2 ^ ρ 2 - 1
    · rw [if_neg (by omega)]; rw [if_pos q] at this; exact this
    · rw [if_pos q]; rw [if_neg q] at this; exact this
theorem x_wholeGates (h : rd_X μ o ρ) (ok : rk ρ) : fn_X2_wholeGates o μ = some (nI (r_wg ρ (ρ 0)), μ) := by
  have h0 := ok.1
  exact x_wholeGates_l h ok (fun y m => some (y, m)) (ρ 0) 1000 0 (by omega) (by omega)
theorem m_all (h : rd_M μ b ρ) (ok : rk ρ) (hb : b ≤ 600) : fn_X6_all (nI b) μ = some (nI (2 ^ ρ 2 - 1), μ) := by
  have h2 := ok.2.2.1
  have := Nat.two_pow_pos (ρ 2)
  unfold fn_X6_all
  rw [mm_l2, mm_add, mm_ix (by omega) (by omega), h 2 (by omega), mm_l1, mm_l31, mm_one (by omega), mm_sub (by omega)]
theorem m_wholeOnes_l (h : rd_M μ b ρ) (ok : rk ρ) (hb : b ≤ 600) (k : Int32 → pw_Mem → Option (Int32 × pw_Mem)) : ∀ (d n i : Nat), i + d = ρ 0 → d < n → fl_X6_wholeOnes_4 k (nI b) n (nI (r_wg ρ i)) (nI i) μ = k (nI (r_wg ρ (ρ 0))) μ := by
  intro d
  have ok' := ok
  obtain ⟨h0, h1, h2, h3, h4, h5⟩ := ok
  have hpw := r_pow16 ok'
  have e0 : μ 55 (b + 0) = nI (ρ 0) := h 0 (by omega)
  induction d with
  | zero =>
    intro n i hi hn
    obtain ⟨n, rfl⟩ : ∃ q, n = q + 1 := ⟨n - 1, by omega⟩
    rw [fl_X6_wholeOnes_4, mm_l0, mm_add, mm_ix (by omega) (by omega), e0, if_pos (nI_le (by omega) (by omega)), ← hi, Nat.add_zero]
  | succ d ih =>
    intro n i hi hn
    obtain ⟨n, rfl⟩ : ∃ q, n = q + 1 := ⟨n - 1, by omega⟩
    have e2 : μ 55 (b + 29 + i) = nI (ρ (29 + i)) := by rw [Nat.add_assoc]; exact h _ (by omega)
    have g2 := (h4 i (by omega)).2
    have := ih n (i + 1) (by omega) (by omega)
    rw [r_wg] at this
    rw [fl_X6_wholeOnes_4, mm_l0, mm_add, mm_ix (by omega) (by omega), e0, if_neg (nI_ge (by omega) (by omega)), mm_l29, mm_add, mm_add, mm_ix (by omega) (by omega), m_all h ok' hb, mm_bi, e2]
    simp (disch := omega) only [mm_l0, mm_l1, mm_l2, mm_l3, mm_l4, mm_l5, mm_l6, mm_l7, mm_l8, mm_l9, mm_l10, mm_l11, mm_l12, mm_l13, mm_l14, mm_l15, mm_l16, mm_l17, mm_l18, mm_l19, mm_l20, mm_l21, mm_l22, mm_l23, mm_l24, mm_l25, mm_l26, mm_l27, mm_l28, mm_l29, mm_l30, mm_l31, mm_l32, mm_l33, mm_l34, mm_l35, mm_l36, mm_l37, mm_l38, mm_l39, mm_l40, mm_l41, mm_l42, mm_l43, mm_l44, mm_l45, mm_l46, mm_l47, mm_l48, mm_l49, mm_l50, mm_l51, mm_l52, mm_l53, mm_l54, mm_l55, mm_l56, mm_l57, mm_l58, mm_l59, mm_l60, mm_l61, mm_l62, mm_l63, mm_l64, mm_l65, mm_l66, mm_l67, mm_l68, mm_l69, mm_l76, mm_l90, mm_l97, mm_l98, mm_l100, mm_l101, mm_l107, mm_l112, mm_l114, mm_l121, mm_l152, mm_l153, mm_l154, mm_l155, mm_l156, mm_l165, mm_l171, mm_l176, mm_l190, mm_l200, mm_l210, mm_l255, mm_l460, mm_l1000, mm_l9999, mm_l999999, mm_j1, mm_ne, mm_one, mm_or, mm_add]
    by_cases q : ρ (29 + i) = 2 ^ ρ 2 - 1
    · rw [if_neg (by omega)]; rw [if_pos q] at this; exact this
    · rw [if_pos q, Nat.or_zero]; rw [if_neg q] at this; exact this
theorem m_wholeOnes (h : rd_M μ b ρ) (ok : rk ρ) (hb : b ≤ 600) : fn_X6_wholeOnes (nI b) μ = some (nI (r_wg ρ (ρ 0)), μ) := by
  have h0 := ok.1
  exact m_wholeOnes_l h ok hb (fun y m => some (y, m)) (ρ 0) 1000 0 (by omega) (by omega)
theorem x_heardAtAny_l (h : rd_X μ o ρ) (ok : rk ρ) {g : Nat} (hg : g < 65536) (k : Int32 → pw_Mem → Option (Int32 × pw_Mem)) : ∀ (d n i : Nat), i + d = ρ 0 → d < n → fl_X2_heardAtAny_4 k o (nI g) n (nI (r_any ρ g i)) (nI i) μ = k (nI (r_any ρ g (ρ 0))) μ := by
  intro d
  have ok' := ok
  obtain ⟨h0, h1, h2, h3, h4, h5⟩ := ok
  induction d with
  | zero =>
    intro n i hi hn
    obtain ⟨n, rfl⟩ : ∃ q, n = q + 1 := ⟨n - 1, by omega⟩
    rw [fl_X2_heardAtAny_4, h.2.2.2.1, if_pos (nI_le (by omega) (by omega)), ← hi, Nat.add_zero]
  | succ d ih =>
    intro n i hi hn
    obtain ⟨n, rfl⟩ : ∃ q, n = q + 1 := ⟨n - 1, by omega⟩
    have e2 := (h.2.2.2.2.2.1 i (by omega)).2
    have hb : g / 2 ^ i % 2 < 2 := Nat.mod_lt _ (by omega)
    have := ih n (i + 1) (by omega) (by omega)
    rw [r_any] at this
    rw [fl_X2_heardAtAny_4, h.2.2.2.1, if_neg (nI_ge (by omega) (by omega))]
    simp (disch := omega) only [mm_l0, mm_l1, mm_l2, mm_l3, mm_l4, mm_l5, mm_l6, mm_l7, mm_l8, mm_l9, mm_l10, mm_l11, mm_l12, mm_l13, mm_l14, mm_l15, mm_l16, mm_l17, mm_l18, mm_l19, mm_l20, mm_l21, mm_l22, mm_l23, mm_l24, mm_l25, mm_l26, mm_l27, mm_l28, mm_l29, mm_l30, mm_l31, mm_l32, mm_l33, mm_l34, mm_l35, mm_l36, mm_l37, mm_l38, mm_l39, mm_l40, mm_l41, mm_l42, mm_l43, mm_l44, mm_l45, mm_l46, mm_l47, mm_l48, mm_l49, mm_l50, mm_l51, mm_l52, mm_l53, mm_l54, mm_l55, mm_l56, mm_l57, mm_l58, mm_l59, mm_l60, mm_l61, mm_l62, mm_l63, mm_l64, mm_l65, mm_l66, mm_l67, mm_l68, mm_l69, mm_l76, mm_l90, mm_l97, mm_l98, mm_l100, mm_l101, mm_l107, mm_l112, mm_l114, mm_l121, mm_l152, mm_l153, mm_l154, mm_l155, mm_l156, mm_l165, mm_l171, mm_l176, mm_l190, mm_l200, mm_l210, mm_l255, mm_l460, mm_l1000, mm_l9999, mm_l999999, mm_j1, mm_ix, mm_bit, mm_eq, e2, mm_or, mm_add]
    by_cases q : g / 2 ^ i % 2 = 1
    · rw [if_neg (by omega)]; rw [if_pos q] at this; exact this
    · rw [if_pos (by omega)]; rw [if_neg q] at this; exact this
theorem x_heardAtAny (h : rd_X μ o ρ) (ok : rk ρ) {g : Nat} (hg : g < 65536) : fn_X2_heardAtAny o (nI g) μ = some (nI (r_any ρ g (ρ 0)), μ) := by
  have h0 := ok.1
  exact x_heardAtAny_l h ok hg (fun y m => some (y, m)) (ρ 0) 1000 0 (by omega) (by omega)
theorem x_wordsHeard_l (h : rd_X μ o ρ) (ok : rk ρ) (k : Int32 → pw_Mem → Option (Int32 × pw_Mem)) : ∀ (d n i : Nat), i + d = ρ 0 → d < n → fl_X2_wordsHeard_4 k o n (nI (r_wh ρ i)) (nI i) μ = k (nI (r_wh ρ (ρ 0))) μ := by
  intro d
  have ok' := ok
  obtain ⟨h0, h1, h2, h3, h4, h5⟩ := ok
  have hpw := r_pow16 ok'
  induction d with
  | zero =>
    intro n i hi hn
    obtain ⟨n, rfl⟩ : ∃ q, n = q + 1 := ⟨n - 1, by omega⟩
    rw [fl_X2_wordsHeard_4, h.2.2.2.1, if_pos (nI_le (by omega) (by omega)), ← hi, Nat.add_zero]
  | succ d ih =>
    intro n i hi hn
    obtain ⟨n, rfl⟩ : ∃ q, n = q + 1 := ⟨n - 1, by omega⟩
    have e2 := (h.2.2.2.2.2.1 i (by omega)).2
    have g2 := (h4 i (by omega)).2
    rw [fl_X2_wordsHeard_4, h.2.2.2.1, if_neg (nI_ge (by omega) (by omega)), mm_ix (by omega) (by omega), e2, j_bitCount (by omega), mm_bi, mm_l1, mm_add, mm_add]
    exact ih n (i + 1) (by omega) (by omega)
theorem x_wordsHeard (h : rd_X μ o ρ) (ok : rk ρ) : fn_X2_wordsHeard o μ = some (nI (r_wh ρ (ρ 0)), μ) := by
  have h0 := ok.1
  exact x_wordsHeard_l h ok (fun y m => some (y, m)) (ρ 0) 1000 0 (by omega) (by omega)
theorem m_heardWords_l (h : rd_M μ b ρ) (ok : rk ρ) (hb : b ≤ 600) (k : Int32 → pw_Mem → Option (Int32 × pw_Mem)) : ∀ (d n i : Nat), i + d = ρ 0 → d < n → fl_X6_heardWords_4 k (nI b) n (nI (r_wh ρ i)) (nI i) μ = k (nI (r_wh ρ (ρ 0))) μ := by
  intro d
  have ok' := ok
  obtain ⟨h0, h1, h2, h3, h4, h5⟩ := ok
  have hpw := r_pow16 ok'
  have e0 : μ 55 (b + 0) = nI (ρ 0) := h 0 (by omega)
  induction d with
  | zero =>
    intro n i hi hn
    obtain ⟨n, rfl⟩ : ∃ q, n = q + 1 := ⟨n - 1, by omega⟩
    rw [fl_X6_heardWords_4, mm_l0, mm_add, mm_ix (by omega) (by omega), e0, if_pos (nI_le (by omega) (by omega)), ← hi, Nat.add_zero]
  | succ d ih =>
    intro n i hi hn
    obtain ⟨n, rfl⟩ : ∃ q, n = q + 1 := ⟨n - 1, by omega⟩
    have e2 : μ 55 (b + 29 + i) = nI (ρ (29 + i)) := by rw [Nat.add_assoc]; exact h _ (by omega)
    have g2 := (h4 i (by omega)).2
    rw [fl_X6_heardWords_4, mm_l0, mm_add, mm_ix (by omega) (by omega), e0, if_neg (nI_ge (by omega) (by omega)), mm_l29, mm_add, mm_add, mm_ix (by omega) (by omega), e2, m_ones (by omega), mm_bi, mm_l1, mm_add, mm_add]
    exact ih n (i + 1) (by omega) (by omega)
theorem m_heardWords (h : rd_M μ b ρ) (ok : rk ρ) (hb : b ≤ 600) : fn_X6_heardWords (nI b) μ = some (nI (r_wh ρ (ρ 0)), μ) := by
  have h0 := ok.1
  exact m_heardWords_l h ok hb (fun y m => some (y, m)) (ρ 0) 1000 0 (by omega) (by omega)
theorem x_pulpitsOn_l (h : rd_X μ o ρ) (ok : rk ρ) {s : Nat} (hs : s < 9) (k : Int32 → pw_Mem → Option (Int32 × pw_Mem)) : ∀ (d n i : Nat), i + d = ρ 1 → d < n → fl_X2_pulpitsOn_4 k o (nI s) n (nI (r_on ρ s i)) (nI i) μ = k (nI (r_on ρ s (ρ 1))) μ := by
  intro d
  have ok' := ok
  obtain ⟨h0, h1, h2, h3, h4, h5⟩ := ok
  induction d with
  | zero =>
    intro n i hi hn
    obtain ⟨n, rfl⟩ : ∃ q, n = q + 1 := ⟨n - 1, by omega⟩
    rw [fl_X2_pulpitsOn_4, h.2.2.2.2.1, if_pos (nI_le (by omega) (by omega)), ← hi, Nat.add_zero]
  | succ d ih =>
    intro n i hi hn
    obtain ⟨n, rfl⟩ : ∃ q, n = q + 1 := ⟨n - 1, by omega⟩
    have e2 := (h.2.2.2.2.2.2 i (by omega)).2.1
    have g2 := (h5 i (by omega)).2.1
    have := ih n (i + 1) (by omega) (by omega)
    rw [r_on] at this
    rw [fl_X2_pulpitsOn_4, h.2.2.2.2.1, if_neg (nI_ge (by omega) (by omega))]
    simp (disch := omega) only [mm_l0, mm_l1, mm_l2, mm_l3, mm_l4, mm_l5, mm_l6, mm_l7, mm_l8, mm_l9, mm_l10, mm_l11, mm_l12, mm_l13, mm_l14, mm_l15, mm_l16, mm_l17, mm_l18, mm_l19, mm_l20, mm_l21, mm_l22, mm_l23, mm_l24, mm_l25, mm_l26, mm_l27, mm_l28, mm_l29, mm_l30, mm_l31, mm_l32, mm_l33, mm_l34, mm_l35, mm_l36, mm_l37, mm_l38, mm_l39, mm_l40, mm_l41, mm_l42, mm_l43, mm_l44, mm_l45, mm_l46, mm_l47, mm_l48, mm_l49, mm_l50, mm_l51, mm_l52, mm_l53, mm_l54, mm_l55, mm_l56, mm_l57, mm_l58, mm_l59, mm_l60, mm_l61, mm_l62, mm_l63, mm_l64, mm_l65, mm_l66, mm_l67, mm_l68, mm_l69, mm_l76, mm_l90, mm_l97, mm_l98, mm_l100, mm_l101, mm_l107, mm_l112, mm_l114, mm_l121, mm_l152, mm_l153, mm_l154, mm_l155, mm_l156, mm_l165, mm_l171, mm_l176, mm_l190, mm_l200, mm_l210, mm_l255, mm_l460, mm_l1000, mm_l9999, mm_l999999, mm_j1, mm_ix, mm_ne, e2, mm_one, mm_or, mm_add]
    by_cases q : ρ (19 + i) = s
    · rw [if_neg (by omega)]; rw [if_pos q] at this; exact this
    · rw [if_pos q]; rw [if_neg q] at this; exact this
theorem x_pulpitsOn (h : rd_X μ o ρ) (ok : rk ρ) {s : Nat} (hs : s < 9) : fn_X2_pulpitsOn o (nI s) μ = some (nI (r_on ρ s (ρ 1)), μ) := by
  have h0 := ok.2.1
  exact x_pulpitsOn_l h ok hs (fun y m => some (y, m)) (ρ 1) 1000 0 (by omega) (by omega)
theorem m_pulpitsAt_l (h : rd_M μ 0 ρ) (ok : rk ρ) {s : Nat} (hs : s < 9) (k : Int32 → pw_Mem → Option (Int32 × pw_Mem)) : ∀ (d n i : Nat), i + d = ρ 1 → d < n → fl_X6_pulpitsAt_4 k (nI s) n (nI (r_on ρ s i)) (nI i) μ = k (nI (r_on ρ s (ρ 1))) μ := by
  intro d
  have ok' := ok
  obtain ⟨h0, h1, h2, h3, h4, h5⟩ := ok
  have e1 : μ 55 1 = nI (ρ 1) := h 1 (by omega)
  induction d with
  | zero =>
    intro n i hi hn
    obtain ⟨n, rfl⟩ : ∃ q, n = q + 1 := ⟨n - 1, by omega⟩
    rw [fl_X6_pulpitsAt_4, mm_l1, mm_ix (by omega) (by omega), e1, if_pos (nI_le (by omega) (by omega)), ← hi, Nat.add_zero]
  | succ d ih =>
    intro n i hi hn
    obtain ⟨n, rfl⟩ : ∃ q, n = q + 1 := ⟨n - 1, by omega⟩
    have e2 : μ 55 (19 + i) = nI (ρ (19 + i)) := by have := h (19 + i) (by omega); rwa [Nat.zero_add] at this
    have g2 := (h5 i (by omega)).2.1
    have := ih n (i + 1) (by omega) (by omega)
    rw [r_on] at this
    rw [fl_X6_pulpitsAt_4, mm_l1, mm_ix (by omega) (by omega), e1, if_neg (nI_ge (by omega) (by omega))]
    simp (disch := omega) only [mm_l0, mm_l1, mm_l2, mm_l3, mm_l4, mm_l5, mm_l6, mm_l7, mm_l8, mm_l9, mm_l10, mm_l11, mm_l12, mm_l13, mm_l14, mm_l15, mm_l16, mm_l17, mm_l18, mm_l19, mm_l20, mm_l21, mm_l22, mm_l23, mm_l24, mm_l25, mm_l26, mm_l27, mm_l28, mm_l29, mm_l30, mm_l31, mm_l32, mm_l33, mm_l34, mm_l35, mm_l36, mm_l37, mm_l38, mm_l39, mm_l40, mm_l41, mm_l42, mm_l43, mm_l44, mm_l45, mm_l46, mm_l47, mm_l48, mm_l49, mm_l50, mm_l51, mm_l52, mm_l53, mm_l54, mm_l55, mm_l56, mm_l57, mm_l58, mm_l59, mm_l60, mm_l61, mm_l62, mm_l63, mm_l64, mm_l65, mm_l66, mm_l67, mm_l68, mm_l69, mm_l76, mm_l90, mm_l97, mm_l98, mm_l100, mm_l101, mm_l107, mm_l112, mm_l114, mm_l121, mm_l152, mm_l153, mm_l154, mm_l155, mm_l156, mm_l165, mm_l171, mm_l176, mm_l190, mm_l200, mm_l210, mm_l255, mm_l460, mm_l1000, mm_l9999, mm_l999999, mm_j1, mm_ix, mm_ne, e2, mm_one, mm_or, mm_add]
    by_cases q : ρ (19 + i) = s
    · rw [if_neg (by omega)]; rw [if_pos q] at this; exact this
    · rw [if_pos q, Nat.or_zero]; rw [if_neg q] at this; exact this
theorem m_pulpitsAt (h : rd_M μ 0 ρ) (ok : rk ρ) {s : Nat} (hs : s < 9) : fn_X6_pulpitsAt (nI s) μ = some (nI (r_on ρ s (ρ 1)), μ) := by
  have h0 := ok.2.1
  exact m_pulpitsAt_l h ok hs (fun y m => some (y, m)) (ρ 1) 1000 0 (by omega) (by omega)
end RR
