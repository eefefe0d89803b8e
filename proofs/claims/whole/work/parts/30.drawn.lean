theorem q_drawn {μ : pw_Mem} (I : Iv μ) (a1 a2 a3 : Int32) : Ok2 (fn_X5_drawn a1 a2 a3) (fn_X6_drawn a1 a2 a3) μ := by
  have I' := I
  obtain ⟨ρ, N, A, G, W, T, U, V⟩ := I
  obtain ⟨B0, B1, B2⟩ := N.b0
  unfold Ok2
  have MR : ∀ m, rd_M m 0 ρ → fn_X6_isRoad m = some (nI (if ρ 0 = 0 then 0 else 1), m) := fun m h => m_isRoad h B0
  rcases N.2.2 with ⟨hs, ok⟩ | ⟨hs, z0, z1, z2⟩
  rotate_left
  · exact ⟨_, μ, μ, by simp only [fn_X5_drawn, hs, mm_bi, mm_n00, mm_n10, if_true, if_false, ne_eq, not_true_eq_false, not_false_eq_true]; rfl, by simp only [fn_X6_drawn, MR μ N.2.1, z0, mm_bi, mm_n00, mm_n10, if_true, if_false, ne_eq, not_true_eq_false, not_false_eq_true], I'⟩
  have hz0 : ¬ ρ 0 = 0 := by have := ok.1; omega
  have MR1 : ∀ m, rd_M m 0 ρ → fn_X6_isRoad m = some (nI 1, m) := fun m h => by rw [MR m h, if_neg hz0]
  have Y1 := (show fn_X5_isWithin a1 (0 : Int32) (60 : Int32) μ = some (nI (bw a1 0 60), μ) from x_isWithin a1 _ _ μ)
  have Z1 := (show fn_X6_in a1.toInt64 (0 : Int64) (60 : Int64) μ = some (nI (bw a1 0 60), μ) from m_in_nat a1 (lo := 0) (hi := 60) (by omega) (by omega) μ)
  rcases bw_c a1 0 60 with b1 | ⟨b1, c1, e1⟩
  · exact ⟨(-1000001 : Int32), μ, μ, by simp only [fn_X5_drawn, hs, Y1, b1, mm_bi, mm_n00, mm_n10, if_true, if_false, ne_eq, not_true_eq_false, not_false_eq_true], by simp only [fn_X6_drawn, MR1 μ N.2.1, Z1, b1, mm_bi, mm_n00, mm_n10, if_true, if_false, ne_eq, not_true_eq_false, not_false_eq_true], I'⟩
  clear Y1 Z1
  obtain ⟨j1, rfl, l1, u1, t1⟩ := bw_n c1 e1 (by omega)
  clear c1 e1
  have X1 : ∀ m, fn_X5_isWithin (nI j1) (0 : Int32) (60 : Int32) m = some (nI 1, m) := fun m => by rw [(show fn_X5_isWithin _ (0 : Int32) (60 : Int32) m = some (nI (bw _ 0 60), m) from x_isWithin _ _ _ m), b1]
  have M1 : ∀ m, fn_X6_in ((nI j1)).toInt64 (0 : Int64) (60 : Int64) m = some (nI 1, m) := fun m => by rw [(show fn_X6_in _ (0 : Int64) (60 : Int64) m = some (nI (bw _ 0 60), m) from m_in_nat _ (lo := 0) (hi := 60) (by omega) (by omega) m), b1]
  clear b1
  have Y2 := x_w_big a2 μ
  have Z2 := m_w_big a2 μ
  rcases bw_c a2 1 999999 with b2 | ⟨b2, c2, e2⟩
  · exact ⟨(-1000001 : Int32), μ, μ, by simp only [fn_X5_drawn, hs, X1, Y2, b2, mm_bi, mm_n00, mm_n10, if_true, if_false, ne_eq, not_true_eq_false, not_false_eq_true], by simp only [fn_X6_drawn, MR1 μ N.2.1, M1, Z2, b2, mm_bi, mm_n00, mm_n10, if_true, if_false, ne_eq, not_true_eq_false, not_false_eq_true], I'⟩
  clear Y2 Z2
  obtain ⟨j2, rfl, l2, u2, t2⟩ := bw_n c2 e2 (by omega)
  clear c2 e2
  have X2 : ∀ m, fn_X5_isWithin (nI j2) (1 : Int32) (999999 : Int32) m = some (nI 1, m) := fun m => by rw [x_w_big, b2]
  have M2 : ∀ m, fn_X6_in ((nI j2)).toInt64 (1 : Int64) (999999 : Int64) m = some (nI 1, m) := fun m => by rw [m_w_big, b2]
  clear b2
  have Y3 := (show fn_X5_isWithin a3 (0 : Int32) (1 : Int32) μ = some (nI (bw a3 0 1), μ) from x_isWithin a3 _ _ μ)
  have Z3 := (show fn_X6_in a3.toInt64 (0 : Int64) (1 : Int64) μ = some (nI (bw a3 0 1), μ) from m_in_nat a3 (lo := 0) (hi := 1) (by omega) (by omega) μ)
  rcases bw_c a3 0 1 with b3 | ⟨b3, c3, e3⟩
  · exact ⟨(-1000001 : Int32), μ, μ, by simp only [fn_X5_drawn, hs, X1, X2, Y3, b3, mm_bi, mm_n00, mm_n10, if_true, if_false, ne_eq, not_true_eq_false, not_false_eq_true], by simp only [fn_X6_drawn, MR1 μ N.2.1, M1, M2, Z3, b3, mm_bi, mm_n00, mm_n10, if_true, if_false, ne_eq, not_true_eq_false, not_false_eq_true], I'⟩
  clear Y3 Z3
  obtain ⟨j3, rfl, l3, u3, t3⟩ := bw_n c3 e3 (by omega)
  clear c3 e3
  have X3 : ∀ m, fn_X5_isWithin (nI j3) (0 : Int32) (1 : Int32) m = some (nI 1, m) := fun m => by rw [(show fn_X5_isWithin _ (0 : Int32) (1 : Int32) m = some (nI (bw _ 0 1), m) from x_isWithin _ _ _ m), b3]
  have M3 : ∀ m, fn_X6_in ((nI j3)).toInt64 (0 : Int64) (1 : Int64) m = some (nI 1, m) := fun m => by rw [(show fn_X6_in _ (0 : Int64) (1 : Int64) m = some (nI (bw _ 0 1), m) from m_in_nat _ (lo := 0) (hi := 1) (by omega) (by omega) m), b3]
  clear b3
  have h0 := ok.1
  obtain ⟨m1, a1, a2, a3⟩ := x_foretell N.1 ok hs (D := 0) (by omega)
  have e64 : (nI j2).toInt64 = lN j2 := nI_l (by omega)
  have okd := rk_ds ok j2 j1
  have ld0 : (r_ds ρ j2 j1).2 0 = ρ 0 := r_ds_lo ρ j2 (by omega) j1
  have hwg := r_wg_lt (r_ds ρ j2 j1).2 ((r_ds ρ j2 j1).2 0)
  have hp9 : 2 ^ (r_ds ρ j2 j1).2 0 ≤ 2 ^ 9 := Nat.pow_le_pow_right (by omega) (by omega)
  rcases (show j3 = 0 ∨ j3 = 1 by omega) with rfl | rfl
  · obtain ⟨μ1, c1, c2, c3⟩ := x_drawn_l ok (x := j2) (D := j1) (by omega) (by omega) (nI 0) (fun m94 => fn_bi (fn_X2_wordsHeard 11 m94) (fun r102 m102 => some (r102, m102))) j1 1000 0 m1 a2 (by omega) (by omega)
    rw [show (r_ds ρ j2 0).1 = j2 from rfl] at c1
    have F1 : ∀ k, k < 11 ∨ 17 < k → μ1 k = μ k := fun k hk => by rw [c3 k hk, a3 k hk]
    have hM : rd_M μ1 0 ρ := fun i hi => by rw [F1 55 (by omega)]; exact N.2.1 i hi
    obtain ⟨m2, b1, b2, b3, b4⟩ := m_tries hM
    obtain ⟨m3, d1, d2, d3⟩ := m_drawn_l ok (x := j2) (D := j1) (by omega) (by omega) (nI 0) (fun m139 => fn_bi (fn_X6_heardWords (38 : Int32) m139) (fun r146 m146 => some (r146, m146))) j1 1000 0 m2 (fun i hi => by rw [b4 _ (by omega)]; exact hM i hi) b2 (by omega) (by omega)
    rw [show (r_ds ρ j2 0).1 = j2 from rfl] at d1
    refine ⟨nI (r_wh (r_ds ρ j2 j1).2 ((r_ds ρ j2 j1).2 0)), μ1, m3, ?_, ?_, I'.fr ((Fr_x F1).trans ((Fr_m b3 b4).trans d3))⟩
    · simp only [fn_X5_drawn, hs, X1, X2, X3, mm_bi, mm_n00, mm_n10, if_true, if_false, ne_eq, not_true_eq_false, not_false_eq_true]
      rw [e64, mm_l0, a1, mm_bv, c1, x_wordsHeard c2 okd, mm_bi]
    · simp only [fn_X6_drawn, MR1 _ hM, M1, M2, M3, mm_bi, mm_n00, mm_n10, if_true, if_false, ne_eq, not_true_eq_false, not_false_eq_true, b1, mm_bv]
      rw [e64, mm_l0, d1, mm_l38, m_heardWords d2 okd (by omega), mm_bi]
  · obtain ⟨μ1, c1, c2, c3⟩ := x_drawn_l ok (x := j2) (D := j1) (by omega) (by omega) (nI 1) (fun m94 => fn_bi (fn_X2_wholeGates 11 m94) (fun r112 m112 => fn_bi (fn_J6_bitCount_0f7a4 r112 m112) (fun r115 m115 => some (r115, m115)))) j1 1000 0 m1 a2 (by omega) (by omega)
    rw [show (r_ds ρ j2 0).1 = j2 from rfl] at c1
    have F1 : ∀ k, k < 11 ∨ 17 < k → μ1 k = μ k := fun k hk => by rw [c3 k hk, a3 k hk]
    have hM : rd_M μ1 0 ρ := fun i hi => by rw [F1 55 (by omega)]; exact N.2.1 i hi
    obtain ⟨m2, b1, b2, b3, b4⟩ := m_tries hM
    obtain ⟨m3, d1, d2, d3⟩ := m_drawn_l ok (x := j2) (D := j1) (by omega) (by omega) (nI 1) (fun m139 => fn_bi (fn_X6_wholeOnes (38 : Int32) m139) (fun r155 m155 => fn_bi (fn_X6_ones r155 m155) (fun r158 m158 => some (r158, m158)))) j1 1000 0 m2 (fun i hi => by rw [b4 _ (by omega)]; exact hM i hi) b2 (by omega) (by omega)
    rw [show (r_ds ρ j2 0).1 = j2 from rfl] at d1
    refine ⟨nI (r_pc (r_wg (r_ds ρ j2 j1).2 ((r_ds ρ j2 j1).2 0)) 16), μ1, m3, ?_, ?_, I'.fr ((Fr_x F1).trans ((Fr_m b3 b4).trans d3))⟩
    · simp only [fn_X5_drawn, hs, X1, X2, X3, mm_bi, mm_n00, mm_n10, if_true, if_false, ne_eq, not_true_eq_false, not_false_eq_true]
      rw [e64, mm_l0, a1, mm_bv, c1, x_wholeGates c2 okd, mm_bi, j_bitCount (by omega), mm_bi]
    · simp only [fn_X6_drawn, MR1 _ hM, M1, M2, M3, mm_bi, mm_n00, mm_n10, if_true, if_false, ne_eq, not_true_eq_false, not_false_eq_true, b1, mm_bv]
      rw [e64, mm_l0, d1, mm_l38, m_wholeOnes d2 okd (by omega), mm_bi, m_ones (by omega), mm_bi]
