/-! THE PARTS of what holds, one by one -/
theorem Iv_now.same {μ μ' : pw_Mem} {ρ : Rd} (h : Iv_now μ ρ) (h1 : ∀ j, j ≤ 5 → μ' (4 + j) = μ (4 + j)) (h2 : ∀ i, i < 38 → μ' 55 i = μ 55 i) : Iv_now μ' ρ := ⟨x_other h.1 h1, rd_M_same h.2.1 (fun i hi => by rw [Nat.zero_add]; exact h2 i hi), by rw [show μ' 4 = μ 4 from h1 0 (by omega)]; exact h.2.2⟩
theorem Iv_acts.same {μ μ' : pw_Mem} {ρ : Rd} (h : Iv_acts μ ρ) (h1 : μ' 20 = μ 20) (h2 : μ' 21 = μ 21) (h3 : μ' 54 1 = μ 54 1) (h4 : ∀ i, 190 ≤ i → μ' 55 i = μ 55 i) : Iv_acts μ' ρ := by
  obtain ⟨kept, g, a1, a2, a3, a4, a5⟩ := h
  exact ⟨kept, g, a1, a2, a3.same h1 h2, a4.same h3 h4, a5⟩
theorem Iv_img.same {μ μ' : pw_Mem} {k : Nat} (h : Iv_img μ k) (h1 : ∀ j, j ≤ 5 → μ' (40 + 7 * k + j) = μ (40 + 7 * k + j)) (h2 : ∀ i, i < 38 → μ' 55 (76 + 38 * k + i) = μ 55 (76 + 38 * k + i)) : Iv_img μ' k := by
  obtain ⟨σ, s1, s2, s3⟩ := h
  exact ⟨σ, x_other s1 h1, rd_M_same s2 h2, by rw [show μ' (40 + 7 * k) = μ (40 + 7 * k) from h1 0 (by omega)]; exact s3⟩
theorem Iv_row.same {μ μ' : pw_Mem} {r : Nat} (h : Iv_row μ r) (h1 : μ' (24 + 2 * r) = μ (24 + 2 * r)) (h2 : μ' (25 + 2 * r) = μ (25 + 2 * r)) (h3 : μ' 57 = μ 57) (h4 : μ' 58 = μ 58) (h5 : μ' 59 = μ 59) : Iv_row μ' r := by
  unfold Iv_row at h ⊢
  rw [h1, h2, h3, h4, h5]
  exact h
theorem Iv_tape.same {μ μ' : pw_Mem} (h : Iv_tape μ) (h1 : μ' 2 1 = μ 2 1) (h2 : μ' 54 3 = μ 54 3) (h3 : μ' 3 = μ 3) (h4 : μ' 56 = μ 56) : Iv_tape μ' := by
  unfold Iv_tape at h ⊢
  rw [h1, h2, h3, h4]; exact h
theorem Iv_num.same {μ μ' : pw_Mem} (h : Iv_num μ) (h1 : μ' 0 = μ 0) (h2 : μ' 54 4 = μ 54 4) (h3 : μ' 54 5 = μ 54 5) : Iv_num μ' := by
  unfold Iv_num at h ⊢
  rw [h1, h2, h3]; exact h
theorem Iv_tr.same {μ μ' : pw_Mem} (h : Iv_tr μ) (h1 : μ' 22 = μ 22) (h2 : μ' 54 15 = μ 54 15) (h3 : μ' 23 = μ 23) (h4 : μ' 62 = μ 62) : Iv_tr μ' := by
  unfold Iv_tr at h ⊢
  rw [h1, h2, h3, h4]; exact h
/-! SMALL calls -/
theorem q_status {μ : pw_Mem} (I : Iv μ) : Ok2 fn_X5_status fn_X6_status μ := by
  have I' := I
  obtain ⟨ρ, -, -, -, -, -, U, -⟩ := I
  exact ⟨μ 0 9, μ, μ, rfl, by unfold fn_X6_status; rw [U.2], I'⟩
theorem q_fault {μ : pw_Mem} (I : Iv μ) : Ok2 fn_X5_fault fn_X6_fault μ := by
  have I' := I
  obtain ⟨ρ, -, -, -, -, -, U, -⟩ := I
  exact ⟨μ 0 8, μ, μ, rfl, by unfold fn_X6_fault; rw [U.1], I'⟩
theorem q_trace {μ : pw_Mem} (I : Iv μ) (a : Int32) : Ok2 (fn_X5_trace a) (fn_X6_trace a) μ := by
  have I' := I
  obtain ⟨ρ, -, -, -, -, -, -, ⟨t, t1, t2, t3, t4⟩⟩ := I
  have z : (0 : Int32).toInt = 0 := rfl
  have e : (nI t).toInt = t := nI_toInt (by omega)
  have M := m_isX a (n := t) (by omega) μ
  unfold Ok2 fn_X5_trace fn_X6_trace
  rw [t2]
  rcases bw_c a 0 ((t : Int) - 1) with b | ⟨b, c, d⟩
  · refine ⟨(-1000000 : Int32), μ, μ, ?_, ?_, I'⟩
    · by_cases q : a < 0
      · rw [if_pos q]
      · have q2 : nI t ≤ a := by
          rw [bw_lt, z] at q
          rw [bw_le, e]
          unfold bw at b
          by_cases w : (0 : Int) ≤ a.toInt ∧ a.toInt ≤ (t : Int) - 1
          · rw [if_pos w] at b; cases b
          · omega
        rw [if_neg q, if_pos q2]
    · rw [t3, M, mm_bi, b, if_pos n00]
  · obtain ⟨j, rfl, l, u, s⟩ := bw_n c d (by omega)
    refine ⟨μ 23 j, μ, μ, ?_, ?_, I'⟩
    · rw [if_neg (nI_pos (by omega)), if_neg (nI_ge (by omega) (by omega)), mm_ix (by omega) (by omega)]
    · rw [t3, M, mm_bi, b, if_neg n10, mm_ix (by omega) (by omega), t4 j (by omega)]
theorem q_kind {μ : pw_Mem} (I : Iv μ) (a1 : Int32) : Ok2 (fn_X5_kind a1) (fn_X6_kind a1) μ := by
  have I' := I
  obtain ⟨ρ, N, A, G, W, T, U, V⟩ := I
  obtain ⟨B0, B1, B2⟩ := N.b0
  unfold Ok2
  have Y1 := x_isPulpit N.1 B1 a1
  have Z1 := m_isPulpit N.2.1 B1 a1
  rcases bw_c a1 0 ((ρ 1 : Int) - 1) with b1 | ⟨b1, c1, e1⟩
  · exact ⟨(-1000001 : Int32), μ, μ, by simp only [fn_X5_kind, Y1, b1, mm_bi, mm_n00, mm_n10, if_true, if_false, ne_eq, not_true_eq_false, not_false_eq_true], by simp only [fn_X6_kind, Z1, b1, mm_bi, mm_n00, mm_n10, if_true, if_false, ne_eq, not_true_eq_false, not_false_eq_true], I'⟩
  clear Y1 Z1
  obtain ⟨j1, rfl, l1, u1, t1⟩ := bw_n c1 e1 (by omega)
  clear c1 e1
  have X1 : fn_X5_isPulpit (nI j1) μ = some (nI 1, μ) := by rw [x_isPulpit N.1 B1, b1]
  have M1 : ∀ m, rd_M m 0 ρ → fn_X6_isPulpit (nI j1) m = some (nI 1, m) := fun m h => by rw [m_isPulpit h B1, b1]
  clear b1
  obtain ⟨hs, ok⟩ := N.rk_of (by omega)
  have h1 := ok.2.1
  have E := (N.1.2.2.2.2.2.2 j1 (by omega)).1
  have F1 : μ 55 (13 + j1) = nI (ρ (13 + j1)) := by have := N.2.1 (13 + j1) (by omega); rwa [Nat.zero_add] at this
  exact ⟨nI (ρ (13 + j1)), μ, μ, by simp (disch := omega) only [fn_X5_kind, X1, mm_bi, mm_n00, mm_n10, if_true, if_false, ne_eq, not_true_eq_false, not_false_eq_true, mm_ix, E], by simp (disch := omega) only [fn_X6_kind, M1 _ N.2.1, mm_bi, mm_n00, mm_n10, if_true, if_false, ne_eq, not_true_eq_false, not_false_eq_true, mm_l13, mm_add, mm_ix, F1], I'⟩
theorem q_pulpit {μ : pw_Mem} (I : Iv μ) (a1 a2 : Int32) : Ok2 (fn_X5_pulpit a1 a2) (fn_X6_pulpit a1 a2) μ := by
  have I' := I
  obtain ⟨ρ, N, A, G, W, T, U, V⟩ := I
  obtain ⟨B0, B1, B2⟩ := N.b0
  unfold Ok2
  have Y1 := x_isPulpit N.1 B1 a1
  have Z1 := m_isPulpit N.2.1 B1 a1
  rcases bw_c a1 0 ((ρ 1 : Int) - 1) with b1 | ⟨b1, c1, e1⟩
  · exact ⟨(-1000001 : Int32), μ, μ, by simp only [fn_X5_pulpit, Y1, b1, mm_bi, mm_n00, mm_n10, if_true, if_false, ne_eq, not_true_eq_false, not_false_eq_true], by simp only [fn_X6_pulpit, Z1, b1, mm_bi, mm_n00, mm_n10, if_true, if_false, ne_eq, not_true_eq_false, not_false_eq_true], I'⟩
  clear Y1 Z1
  obtain ⟨j1, rfl, l1, u1, t1⟩ := bw_n c1 e1 (by omega)
  clear c1 e1
  have X1 : fn_X5_isPulpit (nI j1) μ = some (nI 1, μ) := by rw [x_isPulpit N.1 B1, b1]
  have M1 : ∀ m, rd_M m 0 ρ → fn_X6_isPulpit (nI j1) m = some (nI 1, m) := fun m h => by rw [m_isPulpit h B1, b1]
  clear b1
  obtain ⟨hs, ok⟩ := N.rk_of (by omega)
  have h1 := ok.2.1
  have hlt : j1 < ρ 1 := by omega
  have E := N.1.2.2.2.2.2.2 j1 hlt
  have F1 : μ 55 (19 + j1) = nI (ρ (19 + j1)) := by have := N.2.1 (19 + j1) (by omega); rwa [Nat.zero_add] at this
  have F2 : μ 55 (24 + j1) = nI (ρ (24 + j1)) := by have := N.2.1 (24 + j1) (by omega); rwa [Nat.zero_add] at this
  have cx := x_councils N.1 ok
  have cm := m_councils N.2.1 ok (by omega)
  have sx := x_sayings N.1 ok hlt
  have sm := m_saysIn N.2.1 ok (by omega) hlt
  by_cases q0 : a2 = 0
  · exact ⟨nI (ρ (19 + j1)), μ, μ, by simp (disch := omega) only [fn_X5_pulpit, X1, mm_bi, mm_n00, mm_n10, if_true, if_false, ne_eq, not_true_eq_false, not_false_eq_true, eq_true q0, mm_ix, E.2.1], by simp (disch := omega) only [fn_X6_pulpit, M1 _ N.2.1, mm_bi, mm_n00, mm_n10, if_true, if_false, ne_eq, not_true_eq_false, not_false_eq_true, eq_true q0, mm_l19, mm_add, mm_ix, F1], I'⟩
  by_cases q1 : a2 = 1
  · exact ⟨nI (ρ (24 + j1)), μ, μ, by simp (disch := omega) only [fn_X5_pulpit, X1, mm_bi, mm_n00, mm_n10, if_true, if_false, ne_eq, not_true_eq_false, not_false_eq_true, q0, eq_true q1, mm_ix, E.2.2], by simp (disch := omega) only [fn_X6_pulpit, M1 _ N.2.1, mm_bi, mm_n00, mm_n10, if_true, if_false, ne_eq, not_true_eq_false, not_false_eq_true, q0, eq_true q1, mm_l24, mm_add, mm_ix, F2], I'⟩
  by_cases q2 : a2 = 2
  · refine ⟨(nI (r_cm ρ (ρ 1)) >>> (nI j1 &&& 31)) &&& 1, μ, μ, ?_, ?_, I'⟩
    · simp only [fn_X5_pulpit, X1, mm_bi, mm_n00, mm_n10, if_true, if_false, ne_eq, not_true_eq_false, not_false_eq_true, q0, q1, eq_true q2, cx]
    · simp only [fn_X6_pulpit, M1 _ N.2.1, mm_bi, mm_n00, mm_n10, if_true, if_false, ne_eq, not_true_eq_false, not_false_eq_true, q0, q1, eq_true q2]
      rw [show fn_X6_councilsIn (0 : Int32) μ = some (nI (r_cm ρ (ρ 1)), μ) from cm, mm_bi]
  by_cases q3 : a2 = 3
  · refine ⟨nI (r_said ρ j1), μ, μ, ?_, ?_, I'⟩
    · simp only [fn_X5_pulpit, X1, mm_bi, mm_n00, mm_n10, if_true, if_false, ne_eq, not_true_eq_false, not_false_eq_true, q0, q1, q2, eq_true q3, sx]
    · simp only [fn_X6_pulpit, M1 _ N.2.1, mm_bi, mm_n00, mm_n10, if_true, if_false, ne_eq, not_true_eq_false, not_false_eq_true, q0, q1, q2, eq_true q3]
      rw [show fn_X6_saysIn (0 : Int32) (nI j1) μ = some (nI (r_said ρ j1), μ) from sm, mm_bi]
  · exact ⟨(-1000001 : Int32), μ, μ, by simp only [fn_X5_pulpit, X1, mm_bi, mm_n00, mm_n10, if_true, if_false, ne_eq, not_true_eq_false, not_false_eq_true, q0, q1, q2, q3], by simp only [fn_X6_pulpit, M1 _ N.2.1, mm_bi, mm_n00, mm_n10, if_true, if_false, ne_eq, not_true_eq_false, not_false_eq_true, q0, q1, q2, q3], I'⟩
theorem q_stretch {μ : pw_Mem} (I : Iv μ) (a1 a2 : Int32) : Ok2 (fn_X5_stretch a1 a2) (fn_X6_stretch a1 a2) μ := by
  have I' := I
  obtain ⟨ρ, N, A, G, W, T, U, V⟩ := I
  obtain ⟨B0, B1, B2⟩ := N.b0
  unfold Ok2
  have Y1 := x_isStretch N.1 B0 a1
  have Z1 := m_isStretch N.2.1 B0 a1
  rcases bw_c a1 0 ((ρ 0 : Int) - 1) with b1 | ⟨b1, c1, e1⟩
  · exact ⟨(-1000001 : Int32), μ, μ, by simp only [fn_X5_stretch, Y1, b1, mm_bi, mm_n00, mm_n10, if_true, if_false, ne_eq, not_true_eq_false, not_false_eq_true], by simp only [fn_X6_stretch, Z1, b1, mm_bi, mm_n00, mm_n10, if_true, if_false, ne_eq, not_true_eq_false, not_false_eq_true], I'⟩
  clear Y1 Z1
  obtain ⟨j1, rfl, l1, u1, t1⟩ := bw_n c1 e1 (by omega)
  clear c1 e1
  have X1 : fn_X5_isStretch (nI j1) μ = some (nI 1, μ) := by rw [x_isStretch N.1 B0, b1]
  have M1 : ∀ m, rd_M m 0 ρ → fn_X6_isStretch (nI j1) m = some (nI 1, m) := fun m h => by rw [m_isStretch h B0, b1]
  clear b1
  obtain ⟨hs, ok⟩ := N.rk_of (by omega)
  have h0 := ok.1
  have hlt : j1 < ρ 0 := by omega
  have E := N.1.2.2.2.2.2.1 j1 hlt
  have F1 : μ 55 (4 + j1) = nI (ρ (4 + j1)) := by have := N.2.1 (4 + j1) (by omega); rwa [Nat.zero_add] at this
  have F2 : μ 55 (29 + j1) = nI (ρ (29 + j1)) := by have := N.2.1 (29 + j1) (by omega); rwa [Nat.zero_add] at this
  have cx := x_pulpitsOn N.1 ok (s := j1) (by omega)
  have cm := m_pulpitsAt N.2.1 ok (s := j1) (by omega)
  by_cases q0 : a2 = 0
  · exact ⟨nI (ρ (4 + j1)), μ, μ, by simp (disch := omega) only [fn_X5_stretch, X1, mm_bi, mm_n00, mm_n10, if_true, if_false, ne_eq, not_true_eq_false, not_false_eq_true, eq_true q0, mm_ix, E.1], by simp (disch := omega) only [fn_X6_stretch, M1 _ N.2.1, mm_bi, mm_n00, mm_n10, if_true, if_false, ne_eq, not_true_eq_false, not_false_eq_true, eq_true q0, mm_l4, mm_add, mm_ix, F1], I'⟩
  by_cases q1 : a2 = 1
  · exact ⟨nI (ρ (29 + j1)), μ, μ, by simp (disch := omega) only [fn_X5_stretch, X1, mm_bi, mm_n00, mm_n10, if_true, if_false, ne_eq, not_true_eq_false, not_false_eq_true, q0, eq_true q1, mm_ix, E.2], by simp (disch := omega) only [fn_X6_stretch, M1 _ N.2.1, mm_bi, mm_n00, mm_n10, if_true, if_false, ne_eq, not_true_eq_false, not_false_eq_true, q0, eq_true q1, mm_l29, mm_add, mm_ix, F2], I'⟩
  by_cases q2 : a2 = 2
  · exact ⟨nI (r_on ρ j1 (ρ 1)), μ, μ, by simp only [fn_X5_stretch, X1, mm_bi, mm_n00, mm_n10, if_true, if_false, ne_eq, not_true_eq_false, not_false_eq_true, q0, q1, eq_true q2, cx], by simp only [fn_X6_stretch, M1 _ N.2.1, mm_bi, mm_n00, mm_n10, if_true, if_false, ne_eq, not_true_eq_false, not_false_eq_true, q0, q1, eq_true q2, cm], I'⟩
  · exact ⟨(-1000001 : Int32), μ, μ, by simp only [fn_X5_stretch, X1, mm_bi, mm_n00, mm_n10, if_true, if_false, ne_eq, not_true_eq_false, not_false_eq_true, q0, q1, q2], by simp only [fn_X6_stretch, M1 _ N.2.1, mm_bi, mm_n00, mm_n10, if_true, if_false, ne_eq, not_true_eq_false, not_false_eq_true, q0, q1, q2], I'⟩
