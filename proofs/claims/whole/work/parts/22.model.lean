/-! THE REFERENCE's road -/
def rd_M (μ : pw_Mem) (b : Nat) (ρ : Rd) : Prop := ∀ i, i < 38 → μ 55 (b + i) = nI (ρ i)
theorem m_up {μ : pw_Mem} {b : Nat} {ρ : Rd} (h : rd_M μ b ρ) (i v : Nat) : rd_M (pw_st μ 55 (b + i) (nI v)) b (upR ρ i v) := by
  intro j hj
  by_cases q : j = i
  · subst q; rw [ms_eq, upR_eq]
  · rw [ms_ne _ _ (by omega), upR_ne _ _ q]; exact h j hj
theorem m_has {μ : pw_Mem} {a j : Nat} (ha : a < 2147483648) (hj : j < 32) : fn_X6_has (nI a) (nI j) μ = some (nI (a / 2 ^ j % 2), μ) := by
  have hb : a / 2 ^ j % 2 < 2 := Nat.mod_lt _ (by omega)
  unfold fn_X6_has
  simp (disch := omega) only [mm_l0, mm_l1, mm_l2, mm_l3, mm_l4, mm_l5, mm_l6, mm_l7, mm_l8, mm_l9, mm_l10, mm_l11, mm_l12, mm_l13, mm_l14, mm_l15, mm_l16, mm_l17, mm_l18, mm_l19, mm_l20, mm_l21, mm_l22, mm_l23, mm_l24, mm_l25, mm_l26, mm_l27, mm_l28, mm_l29, mm_l30, mm_l31, mm_l32, mm_l33, mm_l34, mm_l35, mm_l36, mm_l37, mm_l38, mm_l39, mm_l40, mm_l41, mm_l42, mm_l43, mm_l44, mm_l45, mm_l46, mm_l47, mm_l48, mm_l49, mm_l50, mm_l51, mm_l52, mm_l53, mm_l54, mm_l55, mm_l56, mm_l57, mm_l58, mm_l59, mm_l60, mm_l61, mm_l62, mm_l63, mm_l64, mm_l65, mm_l66, mm_l67, mm_l68, mm_l69, mm_l76, mm_l90, mm_l97, mm_l98, mm_l100, mm_l101, mm_l107, mm_l112, mm_l114, mm_l121, mm_l152, mm_l153, mm_l154, mm_l155, mm_l156, mm_l165, mm_l171, mm_l176, mm_l190, mm_l200, mm_l210, mm_l255, mm_l460, mm_l1000, mm_l9999, mm_l999999, mm_bit, mm_ne, mm_bz0, mm_bz1]
  by_cases q : a / 2 ^ j % 2 = 1
  · rw [if_neg (by omega), q]
  · rw [if_pos q, show a / 2 ^ j % 2 = 0 by omega]
section RM
variable {μ : pw_Mem} {b : Nat} {ρ : Rd}
theorem m_saysMany (h : rd_M μ b ρ) (ok : rk ρ) (hb : b ≤ 600) {p : Nat} (hp : p < ρ 1) : fn_X6_saysMany (nI b) (nI p) μ = some (nI (r_many ρ p), μ) := by
  obtain ⟨h0, h1, h2, h3, h4, h5⟩ := ok
  obtain ⟨g1, g2, g3⟩ := h5 p hp
  have g4 := (h4 _ g2).1
  have e4 : μ 55 (b + 19 + p) = nI (ρ (19 + p)) := by rw [Nat.add_assoc]; exact h _ (by omega)
  have e3 : μ 55 (b + 13 + p) = nI (ρ (13 + p)) := by rw [Nat.add_assoc]; exact h _ (by omega)
  have e1 : μ 55 (b + 4 + ρ (19 + p)) = nI (ρ (4 + ρ (19 + p))) := by rw [Nat.add_assoc]; exact h _ (by omega)
  unfold fn_X6_saysMany r_many r_lets
  simp (disch := omega) only [mm_l0, mm_l1, mm_l2, mm_l3, mm_l4, mm_l5, mm_l6, mm_l7, mm_l8, mm_l9, mm_l10, mm_l11, mm_l12, mm_l13, mm_l14, mm_l15, mm_l16, mm_l17, mm_l18, mm_l19, mm_l20, mm_l21, mm_l22, mm_l23, mm_l24, mm_l25, mm_l26, mm_l27, mm_l28, mm_l29, mm_l30, mm_l31, mm_l32, mm_l33, mm_l34, mm_l35, mm_l36, mm_l37, mm_l38, mm_l39, mm_l40, mm_l41, mm_l42, mm_l43, mm_l44, mm_l45, mm_l46, mm_l47, mm_l48, mm_l49, mm_l50, mm_l51, mm_l52, mm_l53, mm_l54, mm_l55, mm_l56, mm_l57, mm_l58, mm_l59, mm_l60, mm_l61, mm_l62, mm_l63, mm_l64, mm_l65, mm_l66, mm_l67, mm_l68, mm_l69, mm_l76, mm_l90, mm_l97, mm_l98, mm_l100, mm_l101, mm_l107, mm_l112, mm_l114, mm_l121, mm_l152, mm_l153, mm_l154, mm_l155, mm_l156, mm_l165, mm_l171, mm_l176, mm_l190, mm_l200, mm_l210, mm_l255, mm_l460, mm_l1000, mm_l9999, mm_l999999, mm_add, mm_ix, e4, e3, e1, mm_ne]
  by_cases q : ρ (13 + p) = 4
  · rw [if_neg (by omega), if_pos q]
  · rw [if_pos q, if_neg q]
    by_cases q0 : ρ (4 + ρ (19 + p)) = 0
    · rw [if_neg (by omega), if_pos q0]
    · rw [if_pos q0, if_neg q0]
      by_cases q1 : ρ (4 + ρ (19 + p)) = 1
      · rw [if_neg (by omega), if_pos q1]
      · rw [if_pos q1, if_neg q1]
theorem m_saysIn_l (h : rd_M μ b ρ) (ok : rk ρ) (hb : b ≤ 600) {p : Nat} (hp : p < ρ 1) (k : Int32 → pw_Mem → Option (Int32 × pw_Mem)) : ∀ (d n i : Nat), i + d = r_many ρ p → d < n → fl_X6_saysIn_40 k (nI b) (nI p) (nI (ρ 2)) (nI (r_way ρ p)) n (nI (r_says ρ p i)) (nI i) μ = k (nI (r_said ρ p)) μ := by
  intro d
  have ok' := ok
  obtain ⟨h0, h1, h2, h3, h4, h5⟩ := ok
  obtain ⟨g1, g2, g3⟩ := h5 p hp
  have hm := r_many_le ρ p
  have e5 : μ 55 (b + 24 + p) = nI (ρ (24 + p)) := by rw [Nat.add_assoc]; exact h _ (by omega)
  have hw : r_way ρ p ≤ 15 := by unfold r_way; split <;> omega
  induction d with
  | zero =>
    intro n i hi hn
    obtain ⟨n, rfl⟩ : ∃ q, n = q + 1 := ⟨n - 1, by omega⟩
    rw [fl_X6_saysIn_40, m_saysMany h ok' hb hp, mm_bi, if_pos (nI_le (by omega) (by omega)), r_said, ← hi, Nat.add_zero]
  | succ d ih =>
    intro n i hi hn
    obtain ⟨n, rfl⟩ : ∃ q, n = q + 1 := ⟨n - 1, by omega⟩
    have hq : r_way ρ p * i ≤ 15 * 4 := Nat.mul_le_mul hw (by omega)
    have hlt := r_wd_lt ok' p i
    rw [fl_X6_saysIn_40, m_saysMany h ok' hb hp, mm_bi, if_neg (nI_ge (by omega) (by omega))]
    simp (disch := omega) only [mm_l0, mm_l1, mm_l2, mm_l3, mm_l4, mm_l5, mm_l6, mm_l7, mm_l8, mm_l9, mm_l10, mm_l11, mm_l12, mm_l13, mm_l14, mm_l15, mm_l16, mm_l17, mm_l18, mm_l19, mm_l20, mm_l21, mm_l22, mm_l23, mm_l24, mm_l25, mm_l26, mm_l27, mm_l28, mm_l29, mm_l30, mm_l31, mm_l32, mm_l33, mm_l34, mm_l35, mm_l36, mm_l37, mm_l38, mm_l39, mm_l40, mm_l41, mm_l42, mm_l43, mm_l44, mm_l45, mm_l46, mm_l47, mm_l48, mm_l49, mm_l50, mm_l51, mm_l52, mm_l53, mm_l54, mm_l55, mm_l56, mm_l57, mm_l58, mm_l59, mm_l60, mm_l61, mm_l62, mm_l63, mm_l64, mm_l65, mm_l66, mm_l67, mm_l68, mm_l69, mm_l76, mm_l90, mm_l97, mm_l98, mm_l100, mm_l101, mm_l107, mm_l112, mm_l114, mm_l121, mm_l152, mm_l153, mm_l154, mm_l155, mm_l156, mm_l165, mm_l171, mm_l176, mm_l190, mm_l200, mm_l210, mm_l255, mm_l460, mm_l1000, mm_l9999, mm_l999999, mm_add, mm_ix, e5, mm_mul, mm_nz, mm_rem]
    rw [show (ρ (24 + p) + r_way ρ p * i) % ρ 2 = r_wd ρ p i from rfl, mm_one (by omega), mm_or]
    exact ih n (i + 1) (by omega) (by omega)
theorem m_saysIn (h : rd_M μ b ρ) (ok : rk ρ) (hb : b ≤ 600) {p : Nat} (hp : p < ρ 1) : fn_X6_saysIn (nI b) (nI p) μ = some (nI (r_said ρ p), μ) := by
  have ok' := ok
  obtain ⟨h0, h1, h2, h3, h4, h5⟩ := ok
  obtain ⟨g1, g2, g3⟩ := h5 p hp
  have hm := r_many_le ρ p
  have e2 : μ 55 (b + 2) = nI (ρ 2) := h 2 (by omega)
  have e3 : μ 55 (b + 13 + p) = nI (ρ (13 + p)) := by rw [Nat.add_assoc]; exact h _ (by omega)
  have key := m_saysIn_l h ok' hb hp (fun y m => some (y, m)) (r_many ρ p) 1000 0 (by omega) (by omega)
  unfold fn_X6_saysIn
  simp (disch := omega) only [mm_l0, mm_l1, mm_l2, mm_l3, mm_l4, mm_l5, mm_l6, mm_l7, mm_l8, mm_l9, mm_l10, mm_l11, mm_l12, mm_l13, mm_l14, mm_l15, mm_l16, mm_l17, mm_l18, mm_l19, mm_l20, mm_l21, mm_l22, mm_l23, mm_l24, mm_l25, mm_l26, mm_l27, mm_l28, mm_l29, mm_l30, mm_l31, mm_l32, mm_l33, mm_l34, mm_l35, mm_l36, mm_l37, mm_l38, mm_l39, mm_l40, mm_l41, mm_l42, mm_l43, mm_l44, mm_l45, mm_l46, mm_l47, mm_l48, mm_l49, mm_l50, mm_l51, mm_l52, mm_l53, mm_l54, mm_l55, mm_l56, mm_l57, mm_l58, mm_l59, mm_l60, mm_l61, mm_l62, mm_l63, mm_l64, mm_l65, mm_l66, mm_l67, mm_l68, mm_l69, mm_l76, mm_l90, mm_l97, mm_l98, mm_l100, mm_l101, mm_l107, mm_l112, mm_l114, mm_l121, mm_l152, mm_l153, mm_l154, mm_l155, mm_l156, mm_l165, mm_l171, mm_l176, mm_l190, mm_l200, mm_l210, mm_l255, mm_l460, mm_l1000, mm_l9999, mm_l999999, mm_add, mm_ix, e2, e3, mm_j1, mm_ne, mm_sub]
  unfold r_way at key
  by_cases q : ρ (13 + p) = 5
  · rw [if_neg (by omega)]; rw [if_pos q] at key; exact key
  · rw [if_pos q]; rw [if_neg q] at key; exact key
theorem r_wd_echo (W w m : Nat) (hW : 4 ≤ W) (hm : m ≤ 4) : (w + W * 4 - m) % W = (w + (W - 1) * m) % W := by
  have e : w + W * 4 - m = w + (W - 1) * m + W * (4 - m) := by
    obtain ⟨V, rfl⟩ : ∃ V, W = V + 1 := ⟨W - 1, by omega⟩
    have h3 : m = 0 ∨ m = 1 ∨ m = 2 ∨ m = 3 ∨ m = 4 := by omega
    rcases h3 with rfl | rfl | rfl | rfl | rfl <;> simp only [Nat.add_sub_cancel] <;> omega
  rw [e, Nat.add_mul_mod_self_left]
theorem m_passes (h : rd_M μ b ρ) (ok : rk ρ) (hb : b ≤ 600) {p : Nat} (hp : p < ρ 1) : ∃ μ', fn_X6_passes (nI b) (nI p) μ = some μ' ∧ rd_M μ' b (r_pass ρ p) ∧ (∀ k, k ≠ 55 → μ' k = μ k) ∧ ∀ i, i < b ∨ b + 38 ≤ i → μ' 55 i = μ 55 i := by
  have ok' := ok
  obtain ⟨h0, h1, h2, h3, h4, h5⟩ := ok
  obtain ⟨g1, g2, g3⟩ := h5 p hp
  have hm := r_many_le ρ p
  have hs16 : r_said ρ p < 65536 := Nat.lt_of_lt_of_le (r_said_lt ok' p) (r_pow16 ok')
  have hhd : ρ (29 + ρ (19 + p)) < 65536 := Nat.lt_of_lt_of_le (h4 _ g2).2 (r_pow16 ok')
  have hbt : r_said ρ p / 2 ^ ρ 3 % 2 < 2 := Nat.mod_lt _ (by omega)
  have e0 : μ 55 b = nI (ρ 0) := h 0 (by omega)
  have e2 : μ 55 (b + 2) = nI (ρ 2) := h 2 (by omega)
  have e3 : μ 55 (b + 3) = nI (ρ 3) := h 3 (by omega)
  have ek : μ 55 (b + 13 + p) = nI (ρ (13 + p)) := by rw [Nat.add_assoc]; exact h _ (by omega)
  have ea : μ 55 (b + 19 + p) = nI (ρ (19 + p)) := by rw [Nat.add_assoc]; exact h _ (by omega)
  have ew : μ 55 (b + 24 + p) = nI (ρ (24 + p)) := by rw [Nat.add_assoc]; exact h _ (by omega)
  have eh : μ 55 (b + 29 + ρ (19 + p)) = nI (ρ (29 + ρ (19 + p))) := by rw [Nat.add_assoc]; exact h _ (by omega)
  have hA := m_up h (29 + ρ (19 + p)) (ρ (29 + ρ (19 + p)) ||| r_said ρ p)
  have hB := m_up hA (24 + p) (r_wd ρ p (r_many ρ p))
  have hC := m_up hB (19 + p) (r_next ρ p)
  refine ⟨_, ?_, hC, ?_, ?_⟩
  · have wd5 : ρ (13 + p) = 5 → (ρ (24 + p) + ρ 2 * 4 - r_many ρ p) % ρ 2 = r_wd ρ p (r_many ρ p) := fun q => by
      rw [r_wd_echo _ _ _ (by omega) hm]; unfold r_wd r_way; rw [if_pos q]
    have wd1 : ρ (13 + p) ≠ 5 → (ρ (24 + p) + r_many ρ p) % ρ 2 = r_wd ρ p (r_many ρ p) := fun q => by
      unfold r_wd r_way; rw [if_neg q, Nat.one_mul]
    unfold fn_X6_passes
    simp only [mm_l0, mm_l1, mm_l2, mm_l3, mm_l4, mm_l5, mm_l6, mm_l7, mm_l8, mm_l9, mm_l10, mm_l11, mm_l12, mm_l13, mm_l14, mm_l15, mm_l16, mm_l17, mm_l18, mm_l19, mm_l20, mm_l21, mm_l22, mm_l23, mm_l24, mm_l25, mm_l26, mm_l27, mm_l28, mm_l29, mm_l30, mm_l31, mm_l32, mm_l33, mm_l34, mm_l35, mm_l36, mm_l37, mm_l38, mm_l39, mm_l40, mm_l41, mm_l42, mm_l43, mm_l44, mm_l45, mm_l46, mm_l47, mm_l48, mm_l49, mm_l50, mm_l51, mm_l52, mm_l53, mm_l54, mm_l55, mm_l56, mm_l57, mm_l58, mm_l59, mm_l60, mm_l61, mm_l62, mm_l63, mm_l64, mm_l65, mm_l66, mm_l67, mm_l68, mm_l69, mm_l76, mm_l90, mm_l97, mm_l98, mm_l100, mm_l101, mm_l107, mm_l112, mm_l114, mm_l121, mm_l152, mm_l153, mm_l154, mm_l155, mm_l156, mm_l165, mm_l171, mm_l176, mm_l190, mm_l200, mm_l210, mm_l255, mm_l460, mm_l1000, mm_l9999, mm_l999999, mm_add]
    rw [mm_ix (by omega) (by omega), m_saysIn h ok' hb hp, mm_bi, m_saysMany h ok' hb hp, mm_bi, mm_ix (by omega) (by omega), mm_ix (by omega) (by omega), ea, ek]
    simp only [mm_add]
    rw [mm_ix (by omega) (by omega), mm_ix (by omega) (by omega), eh, mm_or, e2]
    have fin : ∀ M : pw_Mem, M = pw_st μ 55 (b + 29 + ρ (19 + p)) (nI (ρ (29 + ρ (19 + p)) ||| r_said ρ p)) → (fn_ix (nI (b + 24 + p)) 670 fun j123 => fn_jn1 (fun x151_0 m151 => fn_jn1 (fun x182_0 m182 => fn_ix (nI (b + 0)) 670 fun j206 => fn_nz (m182 55 j206) (fn_ix (nI (b + 19 + p)) 670 fun j208 => some (pw_st m182 55 j208 (nI (ρ (19 + p)) + x182_0 - (nI (ρ (19 + p)) + x182_0) / m182 55 j206 * m182 55 j206)))) fun k182 => if x151_0 = nI 0 then if nI (ρ (13 + p)) ≠ nI 2 then k182 (nI 1) m151 else fn_ix (nI (b + 0)) 670 fun j175 => k182 (m151 55 j175 - nI 1) m151 else k182 (nI 0) m151) fun k151 => fn_jn0 (fun m150 => k151 (nI 0) m150) fun k150 => if nI (ρ (13 + p)) ≠ nI 3 then k150 (pw_st M 55 j123 (nI (r_wd ρ p (r_many ρ p)))) else fn_ix (nI (b + 3)) 670 fun j139 => fn_bi (fn_X6_has (nI (r_said ρ p)) (pw_st M 55 j123 (nI (r_wd ρ p (r_many ρ p))) 55 j139) (pw_st M 55 j123 (nI (r_wd ρ p (r_many ρ p))))) fun r140 m140 => if r140 = nI 0 then k150 m140 else k151 (nI 1) m140) = some (pw_st (pw_st (pw_st μ 55 (b + (29 + ρ (19 + p))) (nI (ρ (29 + ρ (19 + p)) ||| r_said ρ p))) 55 (b + (24 + p)) (nI (r_wd ρ p (r_many ρ p)))) 55 (b + (19 + p)) (nI (r_next ρ p))) := by
      intro M hM
      subst hM
      rw [mm_ix (by omega) (by omega)]
      simp only [← Nat.add_assoc, Nat.add_zero]
      have r0 : pw_st (pw_st μ 55 (b + 29 + ρ (19 + p)) (nI (ρ (29 + ρ (19 + p)) ||| r_said ρ p))) 55 (b + 24 + p) (nI (r_wd ρ p (r_many ρ p))) 55 b = nI (ρ 0) := by rw [ms_nj _ _ (by omega), ms_nj _ _ (by omega), e0]
      have r3 : pw_st (pw_st μ 55 (b + 29 + ρ (19 + p)) (nI (ρ (29 + ρ (19 + p)) ||| r_said ρ p))) 55 (b + 24 + p) (nI (r_wd ρ p (r_many ρ p))) 55 (b + 3) = nI (ρ 3) := by rw [ms_nj _ _ (by omega), ms_nj _ _ (by omega), e3]
      generalize pw_st (pw_st μ 55 (b + 29 + ρ (19 + p)) (nI (ρ (29 + ρ (19 + p)) ||| r_said ρ p))) 55 (b + 24 + p) (nI (r_wd ρ p (r_many ρ p))) = M at r0 r3 ⊢
      have dn : ∀ x : Nat, x ≤ 100 → (fn_ix (nI b) 670 fun j206 => fn_nz (M 55 j206) (fn_ix (nI (b + 19 + p)) 670 fun j208 => some (pw_st M 55 j208 (nI (ρ (19 + p)) + nI x - (nI (ρ (19 + p)) + nI x) / M 55 j206 * M 55 j206)))) = some (pw_st M 55 (b + 19 + p) (nI ((ρ (19 + p) + x) % ρ 0))) := by
        intro x hx
        rw [mm_ix (by omega) (by omega), r0, mm_nz (by omega) (by omega), mm_ix (by omega) (by omega), mm_add, mm_rem (by omega) (by omega) (by omega)]
      unfold r_next r_nextS
      by_cases q3 : ρ (13 + p) = 3
      · rw [mm_j1, mm_j0i, if_neg (by rw [q3]; simp), mm_j0, mm_ix (by omega) (by omega), r3, m_has (by omega) (by omega), mm_bi]
        by_cases qb : r_said ρ p / 2 ^ ρ 3 % 2 = 1
        · rw [if_neg (by rw [qb]; decide)]; dsimp only; rw [mm_j1i, if_neg (by decide), mm_j1]; dsimp only; rw [dn 0 (by omega), if_neg (by omega), if_pos ⟨q3, qb⟩, show (ρ (19 + p) + 0) % ρ 0 = ρ (19 + p) from Nat.mod_eq_of_lt g2]
        · rw [if_pos (by rw [show r_said ρ p / 2 ^ ρ 3 % 2 = 0 by omega])]; dsimp only; rw [mm_j1i, if_pos rfl, mm_j1i, if_pos (by rw [mm_ne (by omega) (by omega)]; omega), mm_j1]; dsimp only; rw [dn 1 (by omega), if_neg (by omega), if_neg (by omega)]
      · rw [mm_j1, mm_j0i, if_pos (by rw [mm_ne (by omega) (by omega)]; omega), mm_j0]; dsimp only; rw [mm_j1i, if_pos rfl, mm_j1i]
        by_cases q2 : ρ (13 + p) = 2
        · rw [if_neg (by rw [q2]; simp), if_pos q2, mm_j1, mm_ix (by omega) (by omega), r0, mm_sub (by omega)]; dsimp only; rw [dn _ (by omega)]
        · rw [if_pos (by rw [mm_ne (by omega) (by omega)]; omega), if_neg q2, if_neg (by omega), mm_j1]; dsimp only; rw [dn 1 (by omega)]
    by_cases q5 : ρ (13 + p) = 5
    · rw [mm_j1i, if_neg (by rw [q5]; simp), mm_j1, mm_ix (by omega) (by omega), ms_nj _ _ (by omega), ew, mm_mul, mm_add, mm_sub (by omega), mm_rem (by omega) (by omega) (by omega), mm_nz (by omega) (by omega), wd5 q5]
      exact fin _ rfl
    · rw [mm_j1i, if_pos (by rw [mm_ne (by omega) (by omega)]; exact q5), mm_j1, mm_ix (by omega) (by omega), ms_nj _ _ (by omega), ew, mm_add, mm_rem (by omega) (by omega) (by omega), mm_nz (by omega) (by omega), wd1 q5]
      exact fin _ rfl
  · intro k hk
    rw [ms_row _ _ hk, ms_row _ _ hk, ms_row _ _ hk]
  · intro i hi
    rw [ms_ne _ _ (by omega), ms_ne _ _ (by omega), ms_ne _ _ (by omega)]
/-- councils, the reference's way -/
theorem r_tk_bit (ρ : Rd) (a : Nat) : ∀ i, (r_tk ρ i / 2 ^ a % 2 = 1) ↔ ∃ q, q < i ∧ ρ (19 + q) = a
  | 0 => by
    constructor
    · intro h; rw [r_tk, Nat.zero_div] at h; omega
    · rintro ⟨q, h, -⟩; omega
  | i + 1 => by
    have ih := r_tk_bit ρ a i
    have t : ∀ x : Nat, (x / 2 ^ a % 2 = 1) ↔ x.testBit a = true := fun x => by rw [Nat.testBit_eq_decide_div_mod_eq, decide_eq_true_iff]
    rw [t] at ih ⊢
    rw [r_tk, Nat.testBit_or, Bool.or_eq_true, ih, Nat.testBit_two_pow, decide_eq_true_iff]
    constructor
    · rintro (⟨q, h1, h2⟩ | h)
      · exact ⟨q, by omega, h2⟩
      · exact ⟨i, by omega, h⟩
    · rintro ⟨q, h1, h2⟩
      by_cases hq : q = i
      · right; rw [← hq]; exact h2
      · left; exact ⟨q, by omega, h2⟩
theorem m_councils_in (h : rd_M μ b ρ) (ok : rk ρ) (hb : b ≤ 600) {p : Nat} (hp : p < ρ 1) (c : Nat) (k : Int32 → pw_Mem → Option (Int32 × pw_Mem)) : ∀ (d n q : Nat), q + d = p → d < n → fl_X6_councilsIn_19 k (nI b) (nI p) n (nI (if r_tk ρ q / 2 ^ ρ (19 + p) % 2 = 1 then c ||| 2 ^ p else c)) (nI q) μ = k (nI (if r_tk ρ p / 2 ^ ρ (19 + p) % 2 = 1 then c ||| 2 ^ p else c)) μ := by
  intro d
  have ok' := ok
  obtain ⟨h0, h1, h2, h3, h4, h5⟩ := ok
  have ep : μ 55 (b + 19 + p) = nI (ρ (19 + p)) := by rw [Nat.add_assoc]; exact h _ (by omega)
  have gp := (h5 p hp).2.1
  induction d with
  | zero =>
    intro n q hq hn
    obtain ⟨n, rfl⟩ : ∃ q, n = q + 1 := ⟨n - 1, by omega⟩
    rw [fl_X6_councilsIn_19, if_pos (nI_le (by omega) (by omega)), ← hq, Nat.add_zero]
  | succ d ih =>
    intro n q hq hn
    obtain ⟨n, rfl⟩ : ∃ q, n = q + 1 := ⟨n - 1, by omega⟩
    have eq : μ 55 (b + 19 + q) = nI (ρ (19 + q)) := by rw [Nat.add_assoc]; exact h _ (by omega)
    have gq := (h5 q (by omega)).2.1
    have := ih n (q + 1) (by omega) (by omega)
    have u := r_tk_bit ρ (ρ (19 + p)) q
    have v := r_tk_bit ρ (ρ (19 + p)) (q + 1)
    rw [fl_X6_councilsIn_19, if_neg (nI_ge (by omega) (by omega))]
    simp (disch := omega) only [mm_l0, mm_l1, mm_l2, mm_l3, mm_l4, mm_l5, mm_l6, mm_l7, mm_l8, mm_l9, mm_l10, mm_l11, mm_l12, mm_l13, mm_l14, mm_l15, mm_l16, mm_l17, mm_l18, mm_l19, mm_l20, mm_l21, mm_l22, mm_l23, mm_l24, mm_l25, mm_l26, mm_l27, mm_l28, mm_l29, mm_l30, mm_l31, mm_l32, mm_l33, mm_l34, mm_l35, mm_l36, mm_l37, mm_l38, mm_l39, mm_l40, mm_l41, mm_l42, mm_l43, mm_l44, mm_l45, mm_l46, mm_l47, mm_l48, mm_l49, mm_l50, mm_l51, mm_l52, mm_l53, mm_l54, mm_l55, mm_l56, mm_l57, mm_l58, mm_l59, mm_l60, mm_l61, mm_l62, mm_l63, mm_l64, mm_l65, mm_l66, mm_l67, mm_l68, mm_l69, mm_l76, mm_l90, mm_l97, mm_l98, mm_l100, mm_l101, mm_l107, mm_l112, mm_l114, mm_l121, mm_l152, mm_l153, mm_l154, mm_l155, mm_l156, mm_l165, mm_l171, mm_l176, mm_l190, mm_l200, mm_l210, mm_l255, mm_l460, mm_l1000, mm_l9999, mm_l999999, mm_add, mm_ix, ep, eq, mm_j1, mm_ne, mm_one, mm_or]
    by_cases e : ρ (19 + q) = ρ (19 + p)
    · have v1 : r_tk ρ (q + 1) / 2 ^ ρ (19 + p) % 2 = 1 := v.mpr ⟨q, by omega, e⟩
      rw [if_neg (by omega)]
      rw [if_pos v1] at this
      by_cases u1 : r_tk ρ q / 2 ^ ρ (19 + p) % 2 = 1
      · rw [if_pos u1, Nat.or_assoc, Nat.or_self]; exact this
      · rw [if_neg u1]; exact this
    · rw [if_pos (fun z => e z.symm), Nat.or_zero]
      have uv : (r_tk ρ q / 2 ^ ρ (19 + p) % 2 = 1) ↔ (r_tk ρ (q + 1) / 2 ^ ρ (19 + p) % 2 = 1) := by
        rw [u, v]
        constructor
        · rintro ⟨z, z1, z2⟩; exact ⟨z, by omega, z2⟩
        · rintro ⟨z, z1, z2⟩
          by_cases zq : z = q
          · subst zq; exact absurd z2 e
          · exact ⟨z, by omega, z2⟩
      by_cases u1 : r_tk ρ q / 2 ^ ρ (19 + p) % 2 = 1
      · rw [if_pos u1]; rw [if_pos (uv.mp u1)] at this; exact this
      · rw [if_neg u1]; rw [if_neg (fun z => u1 (uv.mpr z))] at this; exact this
theorem m_councils_l (h : rd_M μ b ρ) (ok : rk ρ) (hb : b ≤ 600) (k : Int32 → pw_Mem → Option (Int32 × pw_Mem)) : ∀ (d n i : Nat), i + d = ρ 1 → d < n → fl_X6_councilsIn_4 k (nI b) n (nI (r_cm ρ i)) (nI i) μ = k (nI (r_cm ρ (ρ 1))) μ := by
  intro d
  have ok' := ok
  obtain ⟨h0, h1, h2, h3, h4, h5⟩ := ok
  have e1 : μ 55 (b + 1) = nI (ρ 1) := h 1 (by omega)
  induction d with
  | zero =>
    intro n i hi hn
    obtain ⟨n, rfl⟩ : ∃ q, n = q + 1 := ⟨n - 1, by omega⟩
    rw [fl_X6_councilsIn_4, mm_l1, mm_add, mm_ix (by omega) (by omega), e1, if_pos (nI_le (by omega) (by omega)), ← hi, Nat.add_zero]
  | succ d ih =>
    intro n i hi hn
    obtain ⟨n, rfl⟩ : ∃ q, n = q + 1 := ⟨n - 1, by omega⟩
    rw [fl_X6_councilsIn_4, mm_l1, mm_add, mm_ix (by omega) (by omega), e1, if_neg (nI_ge (by omega) (by omega)), mm_l0]
    have a := m_councils_in h ok' hb (p := i) (by omega) (r_cm ρ i) (fun y19_2 m67 => fl_X6_councilsIn_4 k (nI b) n y19_2 (nI i + nI 1) m67) i 1000 0 (by omega) (by omega)
    rw [show r_tk ρ 0 = 0 from rfl, Nat.zero_div, if_neg (by omega)] at a
    refine a.trans ?_
    rw [mm_add]
    exact ih n (i + 1) (by omega) (by omega)
theorem m_councils (h : rd_M μ b ρ) (ok : rk ρ) (hb : b ≤ 600) : fn_X6_councilsIn (nI b) μ = some (nI (r_cm ρ (ρ 1)), μ) := by
  have h1 := ok.2.1
  exact m_councils_l h ok hb (fun y m => some (y, m)) (ρ 1) 1000 0 (by omega) (by omega)
theorem m_hourBy_l (ok : rk ρ) (hb : b ≤ 600) (st : Nat) (hst : st < 65536) (k : pw_Mem → Option pw_Mem) : ∀ (d n i : Nat) (m : pw_Mem), rd_M m b (r_hr ρ st i) → i + d = ρ 1 → d < n → ∃ m', fl_X6_hourBy_11 k (nI b) (nI st) n (nI i) m = k m' ∧ rd_M m' b (r_hr ρ st (ρ 1)) ∧ (∀ j, j ≠ 55 → m' j = m j) ∧ ∀ j, j < b ∨ b + 38 ≤ j → m' 55 j = m 55 j := by
  intro d
  have h1 := ok.2.1
  induction d with
  | zero =>
    intro n i m h hi hn
    obtain ⟨n, rfl⟩ : ∃ q, n = q + 1 := ⟨n - 1, by omega⟩
    have hi' : i = ρ 1 := by omega
    subst hi'
    have e1 : m 55 (b + 1) = nI (ρ 1) := by rw [h 1 (by omega), r_hr_lo ρ st (by omega)]
    refine ⟨m, ?_, h, fun _ _ => rfl, fun _ _ => rfl⟩
    rw [fl_X6_hourBy_11, mm_l1, mm_add, mm_ix (by omega) (by omega), e1, if_pos (nI_le (by omega) (by omega))]
  | succ d ih =>
    intro n i m h hi hn
    obtain ⟨n, rfl⟩ : ∃ q, n = q + 1 := ⟨n - 1, by omega⟩
    have hi' : i < ρ 1 := by omega
    have okp := rk_hr ok st i (by omega)
    have el : r_hr ρ st i 1 = ρ 1 := r_hr_lo ρ st (by omega) i
    have e1 : m 55 (b + 1) = nI (ρ 1) := by rw [h 1 (by omega), el]
    have hb2 : st / 2 ^ i % 2 < 2 := Nat.mod_lt _ (by omega)
    have unf : fl_X6_hourBy_11 k (nI b) (nI st) (n + 1) (nI i) m = if st / 2 ^ i % 2 = 1 then fl_X6_hourBy_11 k (nI b) (nI st) n (nI (i + 1)) m else fn_bv (fn_X6_passes (nI b) (nI i) m) (fun m37 => fl_X6_hourBy_11 k (nI b) (nI st) n (nI (i + 1)) m37) := by
      rw [fl_X6_hourBy_11, mm_l1, mm_add, mm_ix (by omega) (by omega), e1, if_neg (nI_ge (by omega) (by omega)), m_has (by omega) (by omega), mm_bi]
      simp (disch := omega) only [mm_l0, mm_l1, mm_l2, mm_l3, mm_l4, mm_l5, mm_l6, mm_l7, mm_l8, mm_l9, mm_l10, mm_l11, mm_l12, mm_l13, mm_l14, mm_l15, mm_l16, mm_l17, mm_l18, mm_l19, mm_l20, mm_l21, mm_l22, mm_l23, mm_l24, mm_l25, mm_l26, mm_l27, mm_l28, mm_l29, mm_l30, mm_l31, mm_l32, mm_l33, mm_l34, mm_l35, mm_l36, mm_l37, mm_l38, mm_l39, mm_l40, mm_l41, mm_l42, mm_l43, mm_l44, mm_l45, mm_l46, mm_l47, mm_l48, mm_l49, mm_l50, mm_l51, mm_l52, mm_l53, mm_l54, mm_l55, mm_l56, mm_l57, mm_l58, mm_l59, mm_l60, mm_l61, mm_l62, mm_l63, mm_l64, mm_l65, mm_l66, mm_l67, mm_l68, mm_l69, mm_l76, mm_l90, mm_l97, mm_l98, mm_l100, mm_l101, mm_l107, mm_l112, mm_l114, mm_l121, mm_l152, mm_l153, mm_l154, mm_l155, mm_l156, mm_l165, mm_l171, mm_l176, mm_l190, mm_l200, mm_l210, mm_l255, mm_l460, mm_l1000, mm_l9999, mm_l999999, mm_j0, mm_ne, mm_add]
      by_cases q : st / 2 ^ i % 2 = 1
      · rw [if_pos (by omega), if_pos q]
      · rw [if_neg (by omega), if_neg q]
    by_cases q : st / 2 ^ i % 2 = 1
    · rw [unf, if_pos q]
      refine ih n (i + 1) m ?_ (by omega) (by omega)
      rw [r_hr, if_pos q]; exact h
    · obtain ⟨m1, a1, a2, a3, a4⟩ := m_passes h okp hb (p := i) (by omega)
      rw [unf, if_neg q, a1, mm_bv]
      obtain ⟨m', c1, c2, c3, c4⟩ := ih n (i + 1) m1 (by rw [r_hr, if_neg q]; exact a2) (by omega) (by omega)
      exact ⟨m', c1, c2, fun j hj => by rw [c3 j hj, a3 j hj], fun j hj => by rw [c4 j hj, a4 j hj]⟩
/-- AN HOUR of the reference's road; those of 'br' stay too -/
theorem m_hourBy (h : rd_M μ b ρ) (ok : rk ρ) (hb : b ≤ 600) {br : Nat} (hbr : br < 32) : ∃ μ', fn_X6_hourBy (nI b) (nI br) μ = some μ' ∧ rd_M μ' b (r_hourS ρ (r_cm ρ (ρ 1) ||| br)) ∧ (∀ k, k ≠ 55 → μ' k = μ k) ∧ ∀ i, i < b ∨ b + 38 ≤ i → μ' 55 i = μ 55 i := by
  have h1 := ok.2.1
  have hc : r_cm ρ (ρ 1) < 2 ^ 5 := Nat.lt_of_lt_of_le (r_cm_lt ρ _) (Nat.pow_le_pow_right (by omega) h1)
  have hst : r_cm ρ (ρ 1) ||| br < 65536 := Nat.lt_of_lt_of_le (Nat.or_lt_two_pow hc (show br < 2 ^ 5 by omega)) (by decide)
  obtain ⟨m2, b1, b2, b3, b4⟩ := m_hourBy_l ok hb (r_cm ρ (ρ 1) ||| br) hst (fun m46 => fn_ix (nI b + (18 : Int32)) 670 (fun j55 => fn_ix (nI b + (18 : Int32)) 670 (fun j58 => some (pw_st m46 55 j58 ((m46 55 j55) + (1 : Int32)))))) (ρ 1) 1000 0 μ h (by omega) (by omega)
  have e3 : m2 55 (b + 18) = nI (ρ 18) := by rw [b2 18 (by omega), r_hr_lo ρ _ (by omega)]
  refine ⟨_, ?_, m_up b2 18 (ρ 18 + 1), ?_, ?_⟩
  · unfold fn_X6_hourBy
    rw [m_councils h ok hb, mm_bi, mm_or]
    refine b1.trans ?_
    show fn_ix _ _ _ = _
    rw [mm_l18, mm_add, mm_ix (by omega) (by omega), mm_ix (by omega) (by omega), e3, mm_l1, mm_add]
  · intro k hk
    rw [ms_row _ _ hk, b3 k hk]
  · intro i hi
    rw [ms_nj _ _ (by omega), b4 i hi]
/-- an hour, none broken -/
theorem m_hour (h : rd_M μ b ρ) (ok : rk ρ) (hb : b ≤ 600) : ∃ μ', fn_X6_hourBy (nI b) (nI 0) μ = some μ' ∧ rd_M μ' b (r_hour ρ) ∧ (∀ k, k ≠ 55 → μ' k = μ k) ∧ ∀ i, i < b ∨ b + 38 ≤ i → μ' 55 i = μ 55 i := by
  have := m_hourBy h ok hb (br := 0) (by omega)
  rw [Nat.or_zero] at this
  exact this
end RM
