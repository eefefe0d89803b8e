/-! PIECE -/
def r_pb (ρ : Rd) : Nat → Option Nat
  | 0 => none
  | i + 1 => match r_pb ρ i with
    | none => if r_any ρ (i + 1) (ρ 0) = 2 ^ ρ 2 - 1 then some (i + 1) else none
    | some b => if r_any ρ (i + 1) (ρ 0) = 2 ^ ρ 2 - 1 ∧ r_pc (i + 1) 16 < r_pc b 16 then some (i + 1) else some b
def pbF : Option Nat → Int32
  | none => (-1000000 : Int32)
  | some b => nI (r_pc b 16)
def pbS : Option Nat → Int32
  | none => (-1000000 : Int32)
  | some b => nI b
theorem pbF_n : pbF none = (-1000000 : Int32) := id rfl
theorem pbS_n : pbS none = (-1000000 : Int32) := id rfl
theorem pbF_s (b : Nat) : pbF (some b) = nI (r_pc b 16) := id rfl
theorem pbS_s (b : Nat) : pbS (some b) = nI b := id rfl
theorem r_pb_le (ρ : Rd) : ∀ i b, r_pb ρ i = some b → b ≤ i
  | 0, b, h => by cases h
  | i + 1, b, h => by
    have ih := r_pb_le ρ i
    rw [r_pb] at h
    cases q : r_pb ρ i with
    | none =>
      rw [q] at h
      dsimp only at h
      split at h
      · cases h; omega
      · cases h
    | some c =>
      rw [q] at h
      dsimp only at h
      have := ih c q
      split at h
      · cases h; omega
      · cases h; omega
theorem pow9 {n : Nat} (h : n ≤ 9) : 2 ^ n ≤ 512 := Nat.le_trans (Nat.pow_le_pow_right (by omega) h) (by decide)
theorem x_piece_l {ρ : Rd} {μ : pw_Mem} (h : rd_X μ 4 ρ) (ok : rk ρ) (w : Int32) (k : Int32 → Int32 → pw_Mem → Option (Int32 × pw_Mem)) : ∀ (d n i : Nat), i + d = 2 ^ ρ 0 - 1 → d < n → fl_X5_piece_34 k w n (pbF (r_pb ρ i)) (pbS (r_pb ρ i)) (nI (i + 1)) μ = k (pbF (r_pb ρ (2 ^ ρ 0 - 1))) (pbS (r_pb ρ (2 ^ ρ 0 - 1))) μ := by
  intro d
  have h0 := ok.1
  have hp := pow9 h0.2
  have hp0 : 0 < 2 ^ ρ 0 := Nat.two_pow_pos _
  have hw := r_pow16 ok
  have e4 : μ 4 4 = nI (ρ 0) := h.2.2.2.1
  have e1 : (1 : Int32) <<< (nI (ρ 0) &&& 31) = nI (2 ^ ρ 0) := mm_one (by omega)
  induction d with
  | zero =>
    intro n i hi hn
    obtain ⟨n, rfl⟩ : ∃ q, n = q + 1 := ⟨n - 1, by omega⟩
    rw [fl_X5_piece_34, e4, e1, if_pos (nI_le (by omega) (by omega)), ← hi, Nat.add_zero]
  | succ d ih =>
    intro n i hi hn
    obtain ⟨n, rfl⟩ : ∃ q, n = q + 1 := ⟨n - 1, by omega⟩
    have c := ih n (i + 1) (by omega) (by omega)
    have e2 : nI (i + 1) + 1 = nI (i + 1 + 1) := mm_add (i + 1) 1
    have xa := x_heardAtAny h ok (g := i + 1) (by omega)
    have xw := x_allWords h ok
    have la := r_any_lt ok (i + 1) (ρ 0) (by omega)
    have lp := r_pc_le (i + 1) 16
    rw [r_pb] at c
    rw [fl_X5_piece_34, e4, e1, if_neg (nI_ge (by omega) (by omega)), j_bitCount (by omega), mm_bi, mm_j2, mm_j0]
    cases q : r_pb ρ i with
    | none =>
      rw [q] at c
      dsimp only at c
      simp only [pbF_n, pbS_n, pbF_s, pbS_s]
      rw [if_pos trivial, xa, mm_bi, xw, mm_bi, e2]
      by_cases z : r_any ρ (i + 1) (ρ 0) = 2 ^ ρ 2 - 1
      · rw [if_pos z] at c
        rw [if_neg (by rw [z]; exact fun t => t rfl)]
        exact c
      · rw [if_neg z] at c
        rw [if_pos (by rw [mm_ne (by omega) (by omega)]; exact z)]
        exact c
    | some b =>
      rw [q] at c
      have lb := r_pc_le b 16
      dsimp only at c
      simp only [pbF_n, pbS_n, pbF_s, pbS_s]
      rw [if_neg (fun t => by have := congrArg Int32.toInt t; rw [nI_toInt (by omega)] at this; rw [show (-1000000 : Int32).toInt = -1000000 from by decide] at this; omega)]
      by_cases y : r_pc b 16 ≤ r_pc (i + 1) 16
      · rw [if_pos (nI_le y (by omega)), e2]
        rw [if_neg (by omega)] at c
        exact c
      · rw [if_neg (by rw [nI_leI (by omega) (by omega)]; exact y), xa, mm_bi, xw, mm_bi, e2]
        by_cases z : r_any ρ (i + 1) (ρ 0) = 2 ^ ρ 2 - 1
        · rw [if_pos ⟨z, by omega⟩] at c
          rw [if_neg (by rw [z]; exact fun t => t rfl)]
          exact c
        · rw [if_neg (fun t => z t.1)] at c
          rw [if_pos (by rw [mm_ne (by omega) (by omega)]; exact z)]
          exact c
theorem m_piece_in {ρ : Rd} {μ : pw_Mem} (h : rd_M μ 0 ρ) (ok : rk ρ) {g : Nat} (hg : g < 65536) (w1 w2 : Int32) (k : Int32 → pw_Mem → Option (Int32 × pw_Mem)) : ∀ (d n i : Nat), i + d = ρ 0 → d < n → fl_X6_piece_46 k w1 w2 (nI g) n (nI (r_any ρ g i)) (nI i) μ = k (nI (r_any ρ g (ρ 0))) μ := by
  intro d
  have h0 := ok.1
  have e0 : μ 55 0 = nI (ρ 0) := h 0 (by omega)
  induction d with
  | zero =>
    intro n i hi hn
    obtain ⟨n, rfl⟩ : ∃ q, n = q + 1 := ⟨n - 1, by omega⟩
    rw [fl_X6_piece_46, mm_l0, mm_ix (by omega) (by omega), e0, if_pos (nI_le (by omega) (by omega)), ← hi, Nat.add_zero]
  | succ d ih =>
    intro n i hi hn
    obtain ⟨n, rfl⟩ : ∃ q, n = q + 1 := ⟨n - 1, by omega⟩
    have c := ih n (i + 1) (by omega) (by omega)
    have F1 : μ 55 (29 + i) = nI (ρ (29 + i)) := by have := h (29 + i) (by omega); rwa [Nat.zero_add] at this
    have e2 : nI i + 1 = nI (i + 1) := mm_add i 1
    rw [r_any] at c
    rw [fl_X6_piece_46, show ∀ K : Nat → Option (Int32 × pw_Mem), fn_ix (0 : Int32) 670 K = K 0 from fun K => mm_ix (j := 0) (by omega) (by omega), e0, if_neg (nI_ge (by omega) (by omega)), m_has (by omega) (by omega), mm_bi, mm_j1]
    by_cases q : g / 2 ^ i % 2 = 1
    · rw [q, if_neg n10, mm_l29, mm_add, mm_ix (by omega) (by omega), F1, e2]
      dsimp only
      rw [mm_or]
      rw [if_pos q] at c
      exact c
    · rw [show g / 2 ^ i % 2 = 0 by omega, if_pos n00, e2]
      dsimp only
      rw [show nI (r_any ρ g i) ||| 0 = nI (r_any ρ g i) from (mm_or _ 0).trans (by rw [Nat.or_zero])]
      rw [if_neg q] at c
      exact c
theorem m_piece_l {ρ : Rd} {μ : pw_Mem} (h : rd_M μ 0 ρ) (ok : rk ρ) (w : Int32) (k : Int32 → pw_Mem → Option (Int32 × pw_Mem)) : ∀ (d n i : Nat), i + d = 2 ^ ρ 0 - 1 → d < n → fl_X6_piece_28 k w n (pbS (r_pb ρ i)) (nI (i + 1)) μ = k (pbS (r_pb ρ (2 ^ ρ 0 - 1))) μ := by
  intro d
  have h0 := ok.1
  have hp := pow9 h0.2
  have hp0 : 0 < 2 ^ ρ 0 := Nat.two_pow_pos _
  have hw := r_pow16 ok
  have e0 : μ 55 0 = nI (ρ 0) := h 0 (by omega)
  have e1 : (1 : Int32) <<< (nI (ρ 0) &&& 31) = nI (2 ^ ρ 0) := mm_one (by omega)
  have ix0 : ∀ K : Nat → Option (Int32 × pw_Mem), fn_ix (0 : Int32) 670 K = K 0 := fun K => mm_ix (j := 0) (by omega) (by omega)
  induction d with
  | zero =>
    intro n i hi hn
    obtain ⟨n, rfl⟩ : ∃ q, n = q + 1 := ⟨n - 1, by omega⟩
    rw [fl_X6_piece_28, ix0, e0, e1, if_pos (nI_le (by omega) (by omega)), ← hi, Nat.add_zero]
  | succ d ih =>
    intro n i hi hn
    obtain ⟨n, rfl⟩ : ∃ q, n = q + 1 := ⟨n - 1, by omega⟩
    have c := ih n (i + 1) (by omega) (by omega)
    have e2 : nI (i + 1) + 1 = nI (i + 1 + 1) := mm_add (i + 1) 1
    have la := r_any_lt ok (i + 1) (ρ 0) (by omega)
    have lp := r_pc_le (i + 1) 16
    have xw : fn_X6_all (0 : Int32) μ = some (nI (2 ^ ρ 2 - 1), μ) := m_all h ok (b := 0) (by omega)
    have lpb := r_pb_le ρ i
    rw [r_pb] at c
    rw [fl_X6_piece_28, ix0, e0, e1, if_neg (nI_ge (by omega) (by omega))]
    refine (m_piece_in h ok (g := i + 1) (by omega) w (pbS (r_pb ρ i)) _ (ρ 0) 1000 0 (by omega) (by omega)).trans ?_
    rw [xw, mm_bi, mm_j1, mm_j0]
    by_cases z : r_any ρ (i + 1) (ρ 0) = 2 ^ ρ 2 - 1
    · rw [if_neg (by rw [z]; exact fun t => t rfl), mm_j0, e2]
      cases q : r_pb ρ i with
      | none =>
        rw [q] at c
        dsimp only at c
        simp only [pbS_n, pbS_s]
        rw [if_pos (by decide)]
        rw [if_pos z] at c
        exact c
      | some b =>
        have hb := lpb b q
        rw [q] at c
        have lb := r_pc_le b 16
        dsimp only at c
        simp only [pbS_n, pbS_s]
        rw [if_neg (nI_pos (by omega)), m_ones (by omega), mm_bi, m_ones (by omega), mm_bi]
        by_cases y : r_pc b 16 ≤ r_pc (i + 1) 16
        · rw [if_pos (nI_le y (by omega))]
          rw [if_neg (by omega)] at c
          exact c
        · rw [if_neg (by rw [nI_leI (by omega) (by omega)]; exact y)]
          rw [if_pos ⟨z, by omega⟩] at c
          exact c
    · rw [if_pos (by rw [mm_ne (by omega) (by omega)]; exact z), e2]
      cases q : r_pb ρ i with
      | none =>
        rw [q] at c
        dsimp only at c
        rw [if_neg z] at c
        exact c
      | some b =>
        rw [q] at c
        dsimp only at c
        rw [if_neg (fun t => z t.1)] at c
        exact c
theorem q_piece {μ : pw_Mem} (I : Iv μ) (a1 : Int32) : Ok2 (fn_X5_piece a1) (fn_X6_piece a1) μ := by
  have I' := I
  obtain ⟨ρ, N, A, G, W, T, U, V⟩ := I
  obtain ⟨B0, B1, B2⟩ := N.b0
  unfold Ok2
  have MR : ∀ m, rd_M m 0 ρ → fn_X6_isRoad m = some (nI (if ρ 0 = 0 then 0 else 1), m) := fun m h => m_isRoad h B0
  rcases N.2.2 with ⟨hs, ok⟩ | ⟨hs, z0, z1, z2⟩
  rotate_left
  · exact ⟨_, μ, μ, by simp only [fn_X5_piece, hs, mm_bi, mm_n00, mm_n10, if_true, if_false, ne_eq, not_true_eq_false, not_false_eq_true]; rfl, by simp only [fn_X6_piece, MR μ N.2.1, z0, mm_bi, mm_n00, mm_n10, if_true, if_false, ne_eq, not_true_eq_false, not_false_eq_true], I'⟩
  have hz0 : ¬ ρ 0 = 0 := by have := ok.1; omega
  have MR1 : ∀ m, rd_M m 0 ρ → fn_X6_isRoad m = some (nI 1, m) := fun m h => by rw [MR m h, if_neg hz0]
  have Y1 := (show fn_X5_isWithin a1 (0 : Int32) (1 : Int32) μ = some (nI (bw a1 0 1), μ) from x_isWithin a1 _ _ μ)
  have Z1 := (show fn_X6_in a1.toInt64 (0 : Int64) (1 : Int64) μ = some (nI (bw a1 0 1), μ) from m_in_nat a1 (lo := 0) (hi := 1) (by omega) (by omega) μ)
  rcases bw_c a1 0 1 with b1 | ⟨b1, c1, e1⟩
  · exact ⟨(-1000001 : Int32), μ, μ, by simp only [fn_X5_piece, hs, Y1, b1, mm_bi, mm_n00, mm_n10, if_true, if_false, ne_eq, not_true_eq_false, not_false_eq_true], by simp only [fn_X6_piece, MR1 μ N.2.1, Z1, b1, mm_bi, mm_n00, mm_n10, if_true, if_false, ne_eq, not_true_eq_false, not_false_eq_true], I'⟩
  clear Y1 Z1
  obtain ⟨j1, rfl, l1, u1, t1⟩ := bw_n c1 e1 (by omega)
  clear c1 e1
  have X1 : ∀ m, fn_X5_isWithin (nI j1) (0 : Int32) (1 : Int32) m = some (nI 1, m) := fun m => by rw [(show fn_X5_isWithin _ (0 : Int32) (1 : Int32) m = some (nI (bw _ 0 1), m) from x_isWithin _ _ _ m), b1]
  have M1 : ∀ m, fn_X6_in ((nI j1)).toInt64 (0 : Int64) (1 : Int64) m = some (nI 1, m) := fun m => by rw [(show fn_X6_in _ (0 : Int64) (1 : Int64) m = some (nI (bw _ 0 1), m) from m_in_nat _ (lo := 0) (hi := 1) (by omega) (by omega) m), b1]
  clear b1
  have h0 := ok.1
  have hp := pow9 h0.2
  have hp0 : 0 < 2 ^ ρ 0 := Nat.two_pow_pos _
  have c1 := x_piece_l N.1 ok (nI j1) (fun y34_2 y34_3 m98 => (if nI j1 ≠ 0 then some (y34_3, m98) else some (y34_2, m98))) (2 ^ ρ 0 - 1) 1000 0 (by omega) (by omega)
  have d1 := m_piece_l N.2.1 ok (nI j1) (fun y28_2 m128 => (if 0 ≤ y28_2 then (if nI j1 ≠ 0 then some (y28_2, m128) else fn_bi (fn_X6_ones y28_2 m128) (fun r142 m142 => some (r142, m142))) else some ((-1000000 : Int32), m128))) (2 ^ ρ 0 - 1) 1000 0 (by omega) (by omega)
  have lpb := r_pb_le ρ (2 ^ ρ 0 - 1)
  refine ⟨if nI j1 ≠ 0 then pbS (r_pb ρ (2 ^ ρ 0 - 1)) else pbF (r_pb ρ (2 ^ ρ 0 - 1)), μ, μ, ?_, ?_, I'⟩
  · simp only [fn_X5_piece, hs, X1, mm_bi, mm_n00, mm_n10, if_true, if_false, ne_eq, not_true_eq_false, not_false_eq_true]
    refine c1.trans ?_
    by_cases q : nI j1 = (0 : Int32)
    · rw [if_neg (fun t => t q), if_neg (fun t => t q)]
    · rw [if_pos q, if_pos q]
  · simp only [fn_X6_piece, MR1 μ N.2.1, M1, mm_bi, mm_n00, mm_n10, if_true, if_false, ne_eq, not_true_eq_false, not_false_eq_true]
    refine d1.trans ?_
    cases z : r_pb ρ (2 ^ ρ 0 - 1) with
    | none =>
      simp only [pbF_n, pbS_n, pbF_s, pbS_s]
      rw [if_neg (by decide), ite_self]
    | some b =>
      have hb := lpb b z
      simp only [pbF_n, pbS_n, pbF_s, pbS_s]
      rw [if_pos (nI_pos' (by omega)), m_ones (by omega), mm_bi]
      by_cases q : nI j1 = (0 : Int32)
      · rw [if_neg (fun t => t q), if_neg (fun t => t q)]
      · rw [if_pos q, if_pos q]
