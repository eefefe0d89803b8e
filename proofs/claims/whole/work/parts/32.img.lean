/-! COUNT -/
noncomputable def r_rt (μ : pw_Mem) : Nat → Nat
  | 0 => 0
  | i + 1 => if μ (24 + 2 * i) 1 = nI 0 then r_rt μ i + 1 else r_rt μ i
theorem x_rowsThere_l {μ : pw_Mem} (W : ∀ r, r < 8 → Iv_row μ r) : ∀ (d n i : Nat), i + d = 8 → d < n → fl_X5_rowsThere_4 (fun y4_1 m31 => some (y4_1, m31)) n (nI (r_rt μ i)) (nI i) μ = some (nI (r_rt μ 8), μ) := by
  intro d
  induction d with
  | zero =>
    intro n i hi hn
    obtain ⟨n, rfl⟩ : ∃ q, n = q + 1 := ⟨n - 1, by omega⟩
    rw [fl_X5_rowsThere_4, mm_l8, if_pos (nI_le (by omega) (by omega)), show i = 8 by omega]
  | succ d ih =>
    intro n i hi hn
    obtain ⟨n, rfl⟩ : ∃ q, n = q + 1 := ⟨n - 1, by omega⟩
    have := ih n (i + 1) (by omega) (by omega)
    rw [r_rt] at this
    rw [fl_X5_rowsThere_4, mm_l8, if_neg (nI_ge (by omega) (by omega)), mm_ix (by omega) (by omega), mm_j1, mm_l1, mm_add]
    rcases W i (by omega) with ⟨a, b⟩ | ⟨m, L, -, -, a, -⟩
    · rw [a, if_pos n10]
      rw [a, if_neg (by decide)] at this
      exact this
    · rw [a, if_neg (fun z => z n00), mm_add]
      rw [if_pos a] at this
      exact this
theorem m_rowsThere_l {μ : pw_Mem} (W : ∀ r, r < 8 → Iv_row μ r) : ∀ (d n i : Nat), i + d = 8 → d < n → fl_X6_rowsThere_4 (fun y4_1 m33 => some (y4_1, m33)) n (nI (r_rt μ i)) (nI i) μ = some (nI (r_rt μ 8), μ) := by
  intro d
  induction d with
  | zero =>
    intro n i hi hn
    obtain ⟨n, rfl⟩ : ∃ q, n = q + 1 := ⟨n - 1, by omega⟩
    rw [fl_X6_rowsThere_4, mm_l8, if_pos (nI_le (by omega) (by omega)), show i = 8 by omega]
  | succ d ih =>
    intro n i hi hn
    obtain ⟨n, rfl⟩ : ∃ q, n = q + 1 := ⟨n - 1, by omega⟩
    have := ih n (i + 1) (by omega) (by omega)
    rw [r_rt] at this
    rw [fl_X6_rowsThere_4, mm_l8, if_neg (nI_ge (by omega) (by omega)), mm_ix (by omega) (by omega), mm_j1]
    rcases W i (by omega) with ⟨a, b⟩ | ⟨m, L, hm, -, a, -, -, -, b, -⟩
    · rw [b, if_pos (by decide), mm_l0, mm_l1, mm_add]
      dsimp only
      rw [mm_add, Nat.add_zero]
      rw [a, if_neg (by decide)] at this
      exact this
    · rw [b, if_neg (nI_pos (by omega)), mm_l1, mm_add]
      dsimp only
      rw [mm_add]
      rw [if_pos a] at this
      exact this
theorem q_count {μ : pw_Mem} (I : Iv μ) (a : Int32) : Ok2 (fn_X5_count a) (fn_X6_count a) μ := by
  have I' := I
  obtain ⟨ρ, N, A, G, W, T, U, V⟩ := I
  have e0 : μ 55 0 = nI (ρ 0) := N.2.1 0 (by omega)
  have e1 : μ 55 1 = nI (ρ 1) := N.2.1 1 (by omega)
  have e2 : μ 55 2 = nI (ρ 2) := N.2.1 2 (by omega)
  have e3 : μ 55 3 = nI (ρ 3) := N.2.1 3 (by omega)
  have e18 : μ 55 18 = nI (ρ 18) := N.2.1 18 (by omega)
  have i0 : ∀ k : Nat → Option (Int32 × pw_Mem), fn_ix (0 : Int32) 670 k = k 0 := fun k => by rw [mm_l0, mm_ix (by omega) (by omega)]
  have i1 : ∀ k : Nat → Option (Int32 × pw_Mem), fn_ix (1 : Int32) 670 k = k 1 := fun k => by rw [mm_l1, mm_ix (by omega) (by omega)]
  have i2 : ∀ k : Nat → Option (Int32 × pw_Mem), fn_ix (2 : Int32) 670 k = k 2 := fun k => by rw [mm_l2, mm_ix (by omega) (by omega)]
  have i3 : ∀ k : Nat → Option (Int32 × pw_Mem), fn_ix (3 : Int32) 670 k = k 3 := fun k => by rw [mm_l3, mm_ix (by omega) (by omega)]
  have i18 : ∀ k : Nat → Option (Int32 × pw_Mem), fn_ix (18 : Int32) 670 k = k 18 := fun k => by rw [mm_l18, mm_ix (by omega) (by omega)]
  obtain ⟨kept, hh, -, -, ⟨e, -, a3, -, -⟩, ⟨a5, -⟩, -⟩ := A
  obtain ⟨tn, t1, t2, t3, -⟩ := T
  by_cases q0 : a = 0
  · have X := x_rowsThere_l W 8 1000 0 (by omega) (by omega)
    have M := m_rowsThere_l W 8 1000 0 (by omega) (by omega)
    exact ⟨nI (r_rt μ 8), μ, μ, by simp only [fn_X5_count, eq_true q0, if_true]; rw [show fn_X5_rowsThere μ = _ from X, mm_bi], by simp only [fn_X6_count, eq_true q0, if_true]; rw [show fn_X6_rowsThere μ = _ from M, mm_bi], I'⟩
  by_cases q1 : a = 1
  · exact ⟨nI (ρ 0), μ, μ, by simp only [fn_X5_count, q0, eq_true q1, if_true, if_false, N.1.2.2.2.1], by simp only [fn_X6_count, q0, eq_true q1, if_true, if_false, i0, e0], I'⟩
  by_cases q2 : a = 2
  · exact ⟨nI (ρ 1), μ, μ, by simp only [fn_X5_count, q0, q1, eq_true q2, if_true, if_false, N.1.2.2.2.2.1], by simp only [fn_X6_count, q0, q1, eq_true q2, if_true, if_false, i1, e1], I'⟩
  by_cases q3 : a = 3
  · exact ⟨nI (ρ 18), μ, μ, by simp only [fn_X5_count, q0, q1, q2, eq_true q3, if_true, if_false, N.1.2.2.1], by simp only [fn_X6_count, q0, q1, q2, eq_true q3, if_true, if_false, i18, e18], I'⟩
  by_cases q4 : a = 4
  · exact ⟨nI (ρ 2), μ, μ, by simp only [fn_X5_count, q0, q1, q2, q3, eq_true q4, if_true, if_false, N.1.1], by simp only [fn_X6_count, q0, q1, q2, q3, eq_true q4, if_true, if_false, i2, e2], I'⟩
  by_cases q5 : a = 5
  · exact ⟨nI (ρ 3), μ, μ, by simp only [fn_X5_count, q0, q1, q2, q3, q4, eq_true q5, if_true, if_false, N.1.2.1], by simp only [fn_X6_count, q0, q1, q2, q3, q4, eq_true q5, if_true, if_false, i3, e3], I'⟩
  by_cases q6 : a = 6
  · exact ⟨nI kept, μ, μ, by simp only [fn_X5_count, q0, q1, q2, q3, q4, q5, eq_true q6, if_true, if_false, a3], by simp only [fn_X6_count, q0, q1, q2, q3, q4, q5, eq_true q6, if_true, if_false, a5], I'⟩
  by_cases q7 : a = 7
  · exact ⟨nI tn, μ, μ, by simp only [fn_X5_count, q0, q1, q2, q3, q4, q5, q6, eq_true q7, if_true, if_false, t2], by simp only [fn_X6_count, q0, q1, q2, q3, q4, q5, q6, eq_true q7, if_true, if_false, t3], I'⟩
  by_cases q8 : a = 8
  · have XM : ∃ v, fn_X2_wholeGates 4 μ = some (v, μ) ∧ fn_X6_wholeOnes (0 : Int32) μ = some (v, μ) := by
      rcases N.2.2 with ⟨-, ok⟩ | ⟨-, z0, -, -⟩
      · exact ⟨_, x_wholeGates N.1 ok, m_wholeOnes (b := 0) N.2.1 ok (Nat.zero_le _)⟩
      · refine ⟨(0 : Int32), ?_, ?_⟩
        · unfold fn_X2_wholeGates
          rw [show (1000 : Nat) = 999 + 1 from rfl, fl_X2_wholeGates_4, N.1.2.2.2.1, z0, if_pos (by decide)]
        · unfold fn_X6_wholeOnes
          rw [show (1000 : Nat) = 999 + 1 from rfl, fl_X6_wholeOnes_4, mm_l0, mm_add, mm_ix (by omega) (by omega), show μ 55 (0 + 0) = _ from e0, z0, if_pos (by decide)]
    obtain ⟨v, X, M⟩ := XM
    exact ⟨v, μ, μ, by simp only [fn_X5_count, q0, q1, q2, q3, q4, q5, q6, q7, eq_true q8, if_true, if_false, X, mm_bi], by simp only [fn_X6_count, q0, q1, q2, q3, q4, q5, q6, q7, eq_true q8, if_true, if_false, M, mm_bi], I'⟩
  by_cases q9 : a = 9
  · have XM : ∃ v, fn_X2_wordsHeard 4 μ = some (v, μ) ∧ fn_X6_heardWords (0 : Int32) μ = some (v, μ) := by
      rcases N.2.2 with ⟨-, ok⟩ | ⟨-, z0, -, -⟩
      · exact ⟨_, x_wordsHeard N.1 ok, m_heardWords (b := 0) N.2.1 ok (Nat.zero_le _)⟩
      · refine ⟨(0 : Int32), ?_, ?_⟩
        · unfold fn_X2_wordsHeard
          rw [show (1000 : Nat) = 999 + 1 from rfl, fl_X2_wordsHeard_4, N.1.2.2.2.1, z0, if_pos (by decide)]
        · unfold fn_X6_heardWords
          rw [show (1000 : Nat) = 999 + 1 from rfl, fl_X6_heardWords_4, mm_l0, mm_add, mm_ix (by omega) (by omega), show μ 55 (0 + 0) = _ from e0, z0, if_pos (by decide)]
    obtain ⟨v, X, M⟩ := XM
    exact ⟨v, μ, μ, by simp only [fn_X5_count, q0, q1, q2, q3, q4, q5, q6, q7, q8, eq_true q9, if_true, if_false, X, mm_bi], by simp only [fn_X6_count, q0, q1, q2, q3, q4, q5, q6, q7, q8, eq_true q9, if_true, if_false, M, mm_bi], I'⟩
  · exact ⟨(-1000001 : Int32), μ, μ, by simp only [fn_X5_count, q0, q1, q2, q3, q4, q5, q6, q7, q8, q9, if_false], by simp only [fn_X6_count, q0, q1, q2, q3, q4, q5, q6, q7, q8, q9, if_false], I'⟩
/-! IMAGES -/
theorem q_image {μ : pw_Mem} (I : Iv μ) (a1 : Int32) : Ok2 (fn_X5_image a1) (fn_X6_image a1) μ := by
  have I' := I
  obtain ⟨ρ, N, A, G, W, T, U, V⟩ := I
  obtain ⟨B0, B1, B2⟩ := N.b0
  unfold Ok2
  have Y1 := (show fn_X5_isWithin a1 (0 : Int32) (1 : Int32) μ = some (nI (bw a1 0 1), μ) from x_isWithin a1 _ _ μ)
  have Z1 := (show fn_X6_in a1.toInt64 (0 : Int64) (1 : Int64) μ = some (nI (bw a1 0 1), μ) from m_in_nat a1 (lo := 0) (hi := 1) (by omega) (by omega) μ)
  rcases bw_c a1 0 1 with b1 | ⟨b1, c1, e1⟩
  · exact ⟨(-1000001 : Int32), μ, μ, by simp only [fn_X5_image, Y1, b1, mm_bi, mm_n00, mm_n10, if_true, if_false, ne_eq, not_true_eq_false, not_false_eq_true], by simp only [fn_X6_image, Z1, b1, mm_bi, mm_n00, mm_n10, if_true, if_false, ne_eq, not_true_eq_false, not_false_eq_true], I'⟩
  clear Y1 Z1
  obtain ⟨j1, rfl, l1, u1, t1⟩ := bw_n c1 e1 (by omega)
  clear c1 e1
  have X1 : ∀ m, fn_X5_isWithin (nI j1) (0 : Int32) (1 : Int32) m = some (nI 1, m) := fun m => by rw [(show fn_X5_isWithin _ (0 : Int32) (1 : Int32) m = some (nI (bw _ 0 1), m) from x_isWithin _ _ _ m), b1]
  have M1 : ∀ m, fn_X6_in ((nI j1)).toInt64 (0 : Int64) (1 : Int64) m = some (nI 1, m) := fun m => by rw [(show fn_X6_in _ (0 : Int64) (1 : Int64) m = some (nI (bw _ 0 1), m) from m_in_nat _ (lo := 0) (hi := 1) (by omega) (by omega) m), b1]
  clear b1
  have hk : j1 < 2 := by omega
  have MR : ∀ m, rd_M m 0 ρ → fn_X6_isRoad m = some (nI (if ρ 0 = 0 then 0 else 1), m) := fun m h => m_isRoad h B0
  rcases N.2.2 with ⟨hs, ok⟩ | ⟨hs, z0, z1, z2⟩
  rotate_left
  · exact ⟨(-1000002 : Int32), μ, μ, by simp only [fn_X5_image, X1, hs, mm_bi, mm_n00, mm_n10, if_true, if_false, ne_eq, not_true_eq_false, not_false_eq_true], by simp only [fn_X6_image, M1, MR μ N.2.1, z0, mm_bi, mm_n00, mm_n10, if_true, if_false, ne_eq, not_true_eq_false, not_false_eq_true], I'⟩
  have hz0 : ¬ ρ 0 = 0 := by have := ok.1; omega
  obtain ⟨m1, a1, a2, a3, a4⟩ := x_take (o := 40 + 7 * j1) N.1 B0 B1 (by omega) (Or.inr hs)
  have hM : rd_M m1 0 ρ := fun i hi => by rw [a4 55 (by omega)]; exact N.2.1 i hi
  obtain ⟨m2, b1, b2, b3, b4⟩ := m_copyOf (a := 0) (b := 76 + 38 * j1) (N := 38) (by omega) (by omega) (by omega) m1
  refine ⟨(1 : Int32), m1, m2, ?_, ?_, ?_⟩
  · simp only [fn_X5_image, X1, hs, mm_bi, mm_n00, mm_n10, if_true, if_false, ne_eq, not_true_eq_false, not_false_eq_true]
    rw [mm_ix (by omega) (by omega), a1, mm_bv]
  · simp only [fn_X6_image, M1, MR _ hM, hz0, mm_bi, mm_n00, mm_n10, if_true, if_false, ne_eq, not_true_eq_false, not_false_eq_true]
    rw [mm_l0, mm_l76, mm_l38, mm_mul, mm_add, b1, mm_bv]
  · have hrow : ∀ k, k < 40 + 7 * j1 ∨ 40 + 7 * j1 + 5 < k → k ≠ 55 → m2 k = μ k := fun k h1 h2 => by rw [b2 k h2, a4 k h1]
    have hw : ∀ i, i < 76 + 38 * j1 ∨ 76 + 38 * j1 + 38 ≤ i → m2 55 i = μ 55 i := fun i hi => by rw [b3 i hi, a4 55 (by omega)]
    refine ⟨ρ, N.same (fun j hj => hrow _ (by omega) (by omega)) (fun i hi => hw i (by omega)), A.same (hrow 20 (by omega) (by omega)) (hrow 21 (by omega) (by omega)) (by rw [hrow 54 (by omega) (by omega)]) (fun i hi => hw i (by omega)), fun k hk2 => ?_, fun r hr => (W r hr).same (hrow _ (by omega) (by omega)) (hrow _ (by omega) (by omega)) (hrow 57 (by omega) (by omega)) (hrow 58 (by omega) (by omega)) (hrow 59 (by omega) (by omega)), T.same (by rw [hrow 2 (by omega) (by omega)]) (by rw [hrow 54 (by omega) (by omega)]) (hrow 3 (by omega) (by omega)) (hrow 56 (by omega) (by omega)), U.same (hrow 0 (by omega) (by omega)) (by rw [hrow 54 (by omega) (by omega)]) (by rw [hrow 54 (by omega) (by omega)]), V.same (hrow 22 (by omega) (by omega)) (by rw [hrow 54 (by omega) (by omega)]) (hrow 23 (by omega) (by omega)) (hrow 62 (by omega) (by omega))⟩
    by_cases q : k = j1
    · subst q
      refine ⟨ρ, x_other a2 (fun j hj => b2 _ (by omega)), fun i hi => ?_, Or.inl ⟨by rw [b2 _ (by omega), a3, hs], ok⟩⟩
      rw [b4 i hi, Nat.zero_add]
      have := hM i hi
      rwa [Nat.zero_add] at this
    · exact (G k hk2).same (fun j hj => hrow _ (by omega) (by omega)) (fun i hi => hw _ (by omega))
theorem q_restore {μ : pw_Mem} (I : Iv μ) (a1 : Int32) : Ok2 (fn_X5_restore a1) (fn_X6_restore a1) μ := by
  have I' := I
  obtain ⟨ρ, N, A, G, W, T, U, V⟩ := I
  obtain ⟨B0, B1, B2⟩ := N.b0
  unfold Ok2
  have Y1 := (show fn_X5_isWithin a1 (0 : Int32) (1 : Int32) μ = some (nI (bw a1 0 1), μ) from x_isWithin a1 _ _ μ)
  have Z1 := (show fn_X6_in a1.toInt64 (0 : Int64) (1 : Int64) μ = some (nI (bw a1 0 1), μ) from m_in_nat a1 (lo := 0) (hi := 1) (by omega) (by omega) μ)
  rcases bw_c a1 0 1 with b1 | ⟨b1, c1, e1⟩
  · exact ⟨(-1000001 : Int32), μ, μ, by simp only [fn_X5_restore, Y1, b1, mm_bi, mm_n00, mm_n10, if_true, if_false, ne_eq, not_true_eq_false, not_false_eq_true], by simp only [fn_X6_restore, Z1, b1, mm_bi, mm_n00, mm_n10, if_true, if_false, ne_eq, not_true_eq_false, not_false_eq_true], I'⟩
  clear Y1 Z1
  obtain ⟨j1, rfl, l1, u1, t1⟩ := bw_n c1 e1 (by omega)
  clear c1 e1
  have X1 : ∀ m, fn_X5_isWithin (nI j1) (0 : Int32) (1 : Int32) m = some (nI 1, m) := fun m => by rw [(show fn_X5_isWithin _ (0 : Int32) (1 : Int32) m = some (nI (bw _ 0 1), m) from x_isWithin _ _ _ m), b1]
  have M1 : ∀ m, fn_X6_in ((nI j1)).toInt64 (0 : Int64) (1 : Int64) m = some (nI 1, m) := fun m => by rw [(show fn_X6_in _ (0 : Int64) (1 : Int64) m = some (nI (bw _ 0 1), m) from m_in_nat _ (lo := 0) (hi := 1) (by omega) (by omega) m), b1]
  clear b1
  have hk : j1 < 2 := by omega
  obtain ⟨σ, s1, s2, s3⟩ := G j1 hk
  have e0 : μ 55 (76 + 38 * j1 + 0) = nI (σ 0) := s2 0 (by omega)
  rcases s3 with ⟨hs, ok⟩ | ⟨hs, z0⟩
  rotate_left
  · refine ⟨(-1000002 : Int32), μ, μ, ?_, ?_, I'⟩
    · simp only [fn_X5_restore, X1, mm_bi, mm_n00, mm_n10, if_true, if_false, ne_eq, not_true_eq_false, not_false_eq_true]
      rw [mm_ix (by omega) (by omega), hs, if_neg (fun z => z n00)]
    · simp only [fn_X6_restore, M1, mm_bi, mm_n00, mm_n10, if_true, if_false, ne_eq, not_true_eq_false, not_false_eq_true]
      rw [mm_l0, mm_l76, mm_l38, mm_mul, mm_add, mm_add, mm_ix (by omega) (by omega), e0, z0, if_neg (fun z => z rfl)]
  have h0 := ok.1
  have h1 := ok.2.1
  obtain ⟨m1, a1, a2, a3, a4⟩ := x_take (o := 4) s1 (by omega) h1 (by omega) (Or.inr hs)
  obtain ⟨m2, b1, b2, b3, b4⟩ := m_copyOf (a := 76 + 38 * j1) (b := 0) (N := 38) (by omega) (by omega) (by omega) (pw_st m1 20 1 (nI 0))
  have hMim : ∀ i, i < 38 → m1 55 (76 + 38 * j1 + i) = nI (σ i) := fun i hi => by rw [a4 55 (by omega)]; exact s2 i hi
  refine ⟨(1 : Int32), pw_st m1 20 1 (nI 0), pw_st m2 54 1 (nI 0), ?_, ?_, ?_⟩
  · simp only [fn_X5_restore, X1, mm_bi, mm_n00, mm_n10, if_true, if_false, ne_eq, not_true_eq_false, not_false_eq_true]
    rw [mm_ix (by omega) (by omega), hs, if_pos n10, mm_ix (by omega) (by omega), a1, mm_bv, mm_l0]
  · simp only [fn_X6_restore, M1, mm_bi, mm_n00, mm_n10, if_true, if_false, ne_eq, not_true_eq_false, not_false_eq_true]
    rw [mm_l0, mm_l76, mm_l38, mm_mul, mm_add, mm_add, mm_ix (by omega) (by omega), ms_row _ _ (by omega), hMim 0 (by omega), if_pos (by rw [mm_eq (by omega) (by omega)]; omega), b1, mm_bv]
  · have hrow : ∀ k, k < 4 ∨ 9 < k → k ≠ 20 → k ≠ 54 → k ≠ 55 → (pw_st m2 54 1 (nI 0)) k = μ k := fun k h1 h2 h3 h4 => by rw [ms_row _ _ h3, b2 k h4, ms_row _ _ h2, a4 k h1]
    have hnow : ∀ j, j ≤ 5 → (pw_st m2 54 1 (nI 0)) (4 + j) = m1 (4 + j) := fun j hj => by rw [ms_row _ _ (by omega), b2 _ (by omega), ms_row _ _ (by omega)]
    have hw : ∀ i, 38 ≤ i → (pw_st m2 54 1 (nI 0)) 55 i = μ 55 i := fun i hi => by rw [ms_row _ _ (by omega), b3 i (by omega), ms_row _ _ (by omega), a4 55 (by omega)]
    have h54 : ∀ j, j ≠ 1 → (pw_st m2 54 1 (nI 0)) 54 j = μ 54 j := fun j hj => by rw [ms_nj _ _ hj, b2 54 (by omega), ms_row _ _ (by omega), a4 54 (by omega)]
    obtain ⟨kept, hh, -, -, ⟨e, c2, -, c4, -⟩, -, -⟩ := A
    refine ⟨σ, ⟨x_other a2 hnow, fun i hi => ?_, Or.inl ⟨by rw [show (pw_st m2 54 1 (nI 0)) 4 = m1 4 from hnow 0 (by omega), a3, hs], ok⟩⟩, ⟨0, hh, by omega, fun z => by omega, ⟨e, c2, ?_, ?_, fun k hk => by omega⟩, ⟨by rw [ms_eq], fun k hk => by omega⟩, fun k hk => by omega⟩, fun k hk2 => (G k hk2).same (fun j hj => hrow _ (by omega) (by omega) (by omega) (by omega)) (fun i hi => hw _ (by omega)), fun r hr => (W r hr).same (hrow _ (by omega) (by omega) (by omega) (by omega)) (hrow _ (by omega) (by omega) (by omega) (by omega)) (hrow 57 (by omega) (by omega) (by omega) (by omega)) (hrow 58 (by omega) (by omega) (by omega) (by omega)) (hrow 59 (by omega) (by omega) (by omega) (by omega)), T.same (by rw [hrow 2 (by omega) (by omega) (by omega) (by omega)]) (h54 3 (by omega)) (hrow 3 (by omega) (by omega) (by omega) (by omega)) (hrow 56 (by omega) (by omega) (by omega) (by omega)), U.same (hrow 0 (by omega) (by omega) (by omega) (by omega)) (h54 4 (by omega)) (h54 5 (by omega)), V.same (hrow 22 (by omega) (by omega) (by omega) (by omega)) (h54 15 (by omega)) (hrow 23 (by omega) (by omega) (by omega) (by omega)) (hrow 62 (by omega) (by omega) (by omega) (by omega))⟩
    · rw [ms_row _ _ (by omega), b4 i hi, ms_row _ _ (by omega), hMim i hi]
    · rw [ms_row _ _ (by omega), b2 20 (by omega), ms_eq]
    · rw [ms_row _ _ (by omega), b2 20 (by omega), ms_nj _ _ (by omega), a4 20 (by omega)]; exact c4
