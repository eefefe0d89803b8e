/-! ROWS, once more -/
theorem Iv_row.same2 {μ μ' : pw_Mem} {r : Nat} (h : Iv_row μ r) (h1 : μ' (24 + 2 * r) = μ (24 + 2 * r)) (h2 : μ' (25 + 2 * r) = μ (25 + 2 * r)) (h3 : μ' 57 r = μ 57 r) (h4 : μ' 58 r = μ 58 r) (h5 : ∀ i, i < 40 → μ' 59 (40 * r + i) = μ 59 (40 * r + i)) : Iv_row μ' r := by
  unfold Iv_row at h ⊢
  rw [h1, h2, h3, h4]
  rcases h with h | ⟨n, L, a1, a2, a3, a4, a5, a6, a7, a8⟩
  · exact Or.inl h
  · exact Or.inr ⟨n, L, a1, a2, a3, a4, a5, a6, a7, fun i hi => by rw [h5 i (by omega)]; exact a8 i hi⟩
/-! AS -/
def r_isA (K j : Nat) : Nat := if j = 0 ∨ j = K ∨ (j = 1 ∧ (K = 2 ∨ K = 3)) ∨ (j = 4 ∧ K = 5) then 1 else 0
theorem r_isA_c (K j : Nat) : r_isA K j = 0 ∨ r_isA K j = 1 := by unfold r_isA; split <;> omega
theorem x_isSuch {K j : Nat} (h1 : 1 ≤ K) (hK : K ≤ 5) (hj : j ≤ 5) (μ : pw_Mem) : fn_X5_isSuch (nI K) (nI j) μ = some (nI (r_isA K j), μ) := by
  have a : K = 1 ∨ K = 2 ∨ K = 3 ∨ K = 4 ∨ K = 5 := by omega
  have b : j = 0 ∨ j = 1 ∨ j = 2 ∨ j = 3 ∨ j = 4 ∨ j = 5 := by omega
  rcases a with rfl | rfl | rfl | rfl | rfl <;> rcases b with rfl | rfl | rfl | rfl | rfl | rfl <;> rfl
theorem m_isA {K j : Nat} (h1 : 1 ≤ K) (hK : K ≤ 5) (hj : j ≤ 5) (μ : pw_Mem) : fn_X6_isA (nI K) (nI j) μ = some (nI (r_isA K j), μ) := by
  have a : K = 1 ∨ K = 2 ∨ K = 3 ∨ K = 4 ∨ K = 5 := by omega
  have b : j = 0 ∨ j = 1 ∨ j = 2 ∨ j = 3 ∨ j = 4 ∨ j = 5 := by omega
  rcases a with rfl | rfl | rfl | rfl | rfl <;> rcases b with rfl | rfl | rfl | rfl | rfl | rfl <;> rfl
theorem q_as {μ : pw_Mem} (I : Iv μ) (a1 a2 : Int32) : Ok2 (fn_X5_as a1 a2) (fn_X6_as a1 a2) μ := by
  have I' := I
  obtain ⟨ρ, N, A, G, W, T, U, V⟩ := I
  obtain ⟨B0, B1, B2⟩ := N.b0
  unfold Ok2
  have Y1 := x_isPulpit N.1 B1 a1
  have Z1 := m_isPulpit N.2.1 B1 a1
  rcases bw_c a1 0 ((ρ 1 : Int) - 1) with b1 | ⟨b1, c1, e1⟩
  · exact ⟨(-1000001 : Int32), μ, μ, by simp only [fn_X5_as, Y1, b1, mm_bi, mm_n00, mm_n10, if_true, if_false, ne_eq, not_true_eq_false, not_false_eq_true], by simp only [fn_X6_as, Z1, b1, mm_bi, mm_n00, mm_n10, if_true, if_false, ne_eq, not_true_eq_false, not_false_eq_true], I'⟩
  clear Y1 Z1
  obtain ⟨j1, rfl, l1, u1, t1⟩ := bw_n c1 e1 (by omega)
  clear c1 e1
  have X1 : fn_X5_isPulpit (nI j1) μ = some (nI 1, μ) := by rw [x_isPulpit N.1 B1, b1]
  have M1 : ∀ m, rd_M m 0 ρ → fn_X6_isPulpit (nI j1) m = some (nI 1, m) := fun m h => by rw [m_isPulpit h B1, b1]
  clear b1
  have Y2 := (show fn_X5_isWithin a2 (0 : Int32) (5 : Int32) μ = some (nI (bw a2 0 5), μ) from x_isWithin a2 _ _ μ)
  have Z2 := (show fn_X6_in a2.toInt64 (0 : Int64) (5 : Int64) μ = some (nI (bw a2 0 5), μ) from m_in_nat a2 (lo := 0) (hi := 5) (by omega) (by omega) μ)
  rcases bw_c a2 0 5 with b2 | ⟨b2, c2, e2⟩
  · exact ⟨(-1000001 : Int32), μ, μ, by simp only [fn_X5_as, X1, Y2, b2, mm_bi, mm_n00, mm_n10, if_true, if_false, ne_eq, not_true_eq_false, not_false_eq_true], by simp only [fn_X6_as, M1 μ N.2.1, Z2, b2, mm_bi, mm_n00, mm_n10, if_true, if_false, ne_eq, not_true_eq_false, not_false_eq_true], I'⟩
  clear Y2 Z2
  obtain ⟨j2, rfl, l2, u2, t2⟩ := bw_n c2 e2 (by omega)
  clear c2 e2
  have X2 : ∀ m, fn_X5_isWithin (nI j2) (0 : Int32) (5 : Int32) m = some (nI 1, m) := fun m => by rw [(show fn_X5_isWithin _ (0 : Int32) (5 : Int32) m = some (nI (bw _ 0 5), m) from x_isWithin _ _ _ m), b2]
  have M2 : ∀ m, fn_X6_in ((nI j2)).toInt64 (0 : Int64) (5 : Int64) m = some (nI 1, m) := fun m => by rw [(show fn_X6_in _ (0 : Int64) (5 : Int64) m = some (nI (bw _ 0 5), m) from m_in_nat _ (lo := 0) (hi := 5) (by omega) (by omega) m), b2]
  clear b2
  obtain ⟨hs, ok⟩ := N.rk_of (by omega)
  have h1 := ok.2.1
  have hlt : j1 < ρ 1 := by omega
  have hk := (ok.2.2.2.2.2 j1 hlt).1
  have E := (N.1.2.2.2.2.2.2 j1 hlt).1
  have F1 : μ 55 (13 + j1) = nI (ρ (13 + j1)) := by have := N.2.1 (13 + j1) (by omega); rwa [Nat.zero_add] at this
  have XA := fun m => x_isSuch (j := j2) hk.1 hk.2 (by omega) m
  have MA := fun m => m_isA (j := j2) hk.1 hk.2 (by omega) m
  have R : ∀ x, rd_M (pw_st μ 0 9 x) 0 ρ := fun x => rd_M_same N.2.1 (fun i _ => by rw [ms_row _ _ (by omega)])
  have F2 : ∀ x, (pw_st μ 0 9 x) 55 (13 + j1) = nI (ρ (13 + j1)) := fun x => by rw [ms_row _ _ (by omega)]; exact F1
  rcases r_isA_c (ρ (13 + j1)) j2 with q | q
  · refine ⟨(-1000010 : Int32) - (3 : Int32), pw_st μ 0 9 3, pw_st (pw_st μ 0 9 3) 54 5 3, ?_, ?_, I'.find 3⟩
    · simp only [fn_X5_as, X1, X2, mm_bi, mm_n00, mm_n10, if_true, if_false, ne_eq, not_true_eq_false, not_false_eq_true]
      rw [mm_ix (by omega) (by omega), show μ (4 + 3) j1 = nI (ρ (13 + j1)) from E, XA, q, mm_bi, if_pos n00, x_found, mm_bi]
    · simp only [fn_X6_as, M1 _ (R 3), M2, mm_bi, mm_n00, mm_n10, if_true, if_false, ne_eq, not_true_eq_false, not_false_eq_true, mm_l13, mm_add]
      rw [mm_ix (by omega) (by omega), F2, MA, q, mm_bi, if_neg (fun z => z n00), m_finds, mm_bi]
  · refine ⟨nI j1, pw_st μ 0 9 0, pw_st (pw_st μ 0 9 0) 54 5 0, ?_, ?_, I'.find 0⟩
    · simp only [fn_X5_as, X1, X2, mm_bi, mm_n00, mm_n10, if_true, if_false, ne_eq, not_true_eq_false, not_false_eq_true]
      rw [mm_ix (by omega) (by omega), show μ (4 + 3) j1 = nI (ρ (13 + j1)) from E, XA, q, mm_bi, if_neg n10, x_fnone, mm_bi]
    · simp only [fn_X6_as, M1 _ (R 0), M2, mm_bi, mm_n00, mm_n10, if_true, if_false, ne_eq, not_true_eq_false, not_false_eq_true, mm_l13, mm_add]
      rw [mm_ix (by omega) (by omega), F2, MA, q, mm_bi, if_pos n10]
/-! ROW -/
theorem x_begin_l {o N : Nat} (hN : N ≤ 40) (k : pw_Mem → Option pw_Mem) : ∀ (d n i : Nat) (m : pw_Mem), i + d = N → d < n → ∃ m', fl_X3_begin_17 k o (nI N) n (nI i) m = k m' ∧ (∀ j, j ≠ o + 1 → m' j = m j) ∧ (∀ s, s < i → m' (o + 1) s = m (o + 1) s) ∧ ∀ s, i ≤ s → s < N → m' (o + 1) s = 0 := by
  intro d
  induction d with
  | zero =>
    intro n i m hi hn
    obtain ⟨n, rfl⟩ : ∃ q, n = q + 1 := ⟨n - 1, by omega⟩
    refine ⟨m, ?_, fun _ _ => rfl, fun _ _ => rfl, fun s h1 h2 => by omega⟩
    rw [fl_X3_begin_17, if_pos (nI_le (by omega) (by omega))]
  | succ d ih =>
    intro n i m hi hn
    obtain ⟨n, rfl⟩ : ∃ q, n = q + 1 := ⟨n - 1, by omega⟩
    obtain ⟨m', a, b, c, e⟩ := ih n (i + 1) (pw_st m (o + 1) i 0) (by omega) (by omega)
    refine ⟨m', ?_, fun j h1 => by rw [b j h1, ms_row _ _ h1], fun s hs => by rw [c s (by omega), ms_nj _ _ (by omega)], fun s h1 h2 => ?_⟩
    · rw [fl_X3_begin_17, if_neg (nI_ge (by omega) (by omega)), mm_ix (by omega) (by omega), show nI i + 1 = nI (i + 1) from mm_add i 1]
      exact a
    · by_cases q : s = i
      · subst q; rw [c s (by omega), ms_eq]
      · exact e s (by omega) h2
theorem m_row_l {r : Nat} (hr : r < 8) (w : Int32) (k : pw_Mem → Option (Int32 × pw_Mem)) : ∀ (d n i : Nat) (m : pw_Mem), i + d = 40 → d < n → ∃ m', fl_X6_row_60 k (nI r) w n (nI i) m = k m' ∧ (∀ j, j ≠ 59 → m' j = m j) ∧ (∀ s, s < 40 * r + i ∨ 40 * r + 40 ≤ s → m' 59 s = m 59 s) ∧ ∀ s, i ≤ s → s < 40 → m' 59 (40 * r + s) = 0 := by
  intro d
  induction d with
  | zero =>
    intro n i m hi hn
    obtain ⟨n, rfl⟩ : ∃ q, n = q + 1 := ⟨n - 1, by omega⟩
    refine ⟨m, ?_, fun _ _ => rfl, fun _ _ => rfl, fun s h1 h2 => by omega⟩
    rw [fl_X6_row_60, mm_l40, if_pos (nI_le (by omega) (by omega))]
  | succ d ih =>
    intro n i m hi hn
    obtain ⟨n, rfl⟩ : ∃ q, n = q + 1 := ⟨n - 1, by omega⟩
    obtain ⟨m', a, b, c, e⟩ := ih n (i + 1) (pw_st m 59 (40 * r + i) 0) (by omega) (by omega)
    refine ⟨m', ?_, fun j h1 => by rw [b j h1, ms_row _ _ h1], fun s hs => by rw [c s (by omega), ms_nj _ _ (by omega)], fun s h1 h2 => ?_⟩
    · rw [fl_X6_row_60, mm_l40, if_neg (nI_ge (by omega) (by omega)), mm_mul, mm_add, mm_ix (by omega) (by omega), show nI i + 1 = nI (i + 1) from mm_add i 1]
      exact a
    · by_cases q : s = i
      · subst q; rw [c _ (by omega), ms_eq]
      · exact e s (by omega) h2
theorem q_row {μ : pw_Mem} (I : Iv μ) (a1 a2 a3 : Int32) : Ok2 (fn_X5_row a1 a2 a3) (fn_X6_row a1 a2 a3) μ := by
  have I' := I
  obtain ⟨ρ, N, A, G, W, T, U, V⟩ := I
  obtain ⟨B0, B1, B2⟩ := N.b0
  unfold Ok2
  have Y1 := x_isRow a1 μ
  have Z1 := m_isRow a1 μ
  rcases bw_c a1 0 7 with b1 | ⟨b1, c1, e1⟩
  · exact ⟨(-1000001 : Int32), μ, μ, by simp only [fn_X5_row, Y1, b1, mm_bi, mm_n00, mm_n10, if_true, if_false, ne_eq, not_true_eq_false, not_false_eq_true], by simp only [fn_X6_row, Z1, b1, mm_bi, mm_n00, mm_n10, if_true, if_false, ne_eq, not_true_eq_false, not_false_eq_true], I'⟩
  clear Y1 Z1
  obtain ⟨j1, rfl, l1, u1, t1⟩ := bw_n c1 e1 (by omega)
  clear c1 e1
  have X1 : ∀ m, fn_X5_isRow (nI j1) m = some (nI 1, m) := fun m => by rw [x_isRow, b1]
  have M1 : ∀ m, fn_X6_isRow (nI j1) m = some (nI 1, m) := fun m => by rw [m_isRow, b1]
  clear b1
  have hlt : j1 < 8 := by omega
  have MI : ∀ m, fn_X6_in a2.toInt64 (0 : Int64) (2 : Int64) m = some (nI (bw a2 0 2), m) := fun m => m_in_nat a2 (lo := 0) (hi := 2) (by omega) (by omega) m
  have o0 : (0 : Int32).toInt = 0 := rfl
  have o3 : (3 : Int32).toInt = 3 := rfl
  have o40 : (40 : Int32).toInt = 40 := rfl
  rcases bw_c a2 0 2 with b | ⟨b, c, d⟩
  · refine ⟨(-1000001 : Int32), μ, μ, ?_, by simp only [fn_X6_row, M1, MI, b, mm_bi, mm_n00, mm_n10, if_true, if_false, ne_eq, not_true_eq_false, not_false_eq_true], I'⟩
    simp only [fn_X5_row, X1, mm_bi, mm_n00, mm_n10, if_true, if_false, ne_eq, not_true_eq_false, not_false_eq_true]
    by_cases q : a2 < 0
    · rw [if_pos q]
    · rw [if_neg q, if_pos]
      unfold bw at b
      rw [bw_lt, o0] at q
      rw [bw_le, o3]
      by_cases w : (0 : Int) ≤ a2.toInt ∧ a2.toInt ≤ 2
      · rw [if_pos w] at b; cases b
      · omega
  obtain ⟨L, rfl, l, u, s⟩ := bw_n c d (by omega)
  have c1 : (nI L < (0 : Int32)) = False := eq_false (nI_pos (by omega))
  have c2 : ((3 : Int32) ≤ nI L) = False := eq_false (by rw [mm_l3]; exact nI_ge (by omega) (by omega))
  by_cases q : a3 ≤ 40
  · by_cases q0 : (0 : Int32) ≤ a3
    · obtain ⟨n, rfl, l3, u3, s3⟩ := bw_n (a := a3) (lo := 0) (hi := 40) (by rw [bw_le, o0] at q0; exact q0) (by rw [bw_le, o40] at q; exact q) (by omega)
      obtain ⟨m1, x1, x2, x3, x4⟩ := x_begin_l (o := 24 + 2 * j1) (N := n) (by omega) (fun m35 => some m35) n 1000 0 (pw_st (pw_st (pw_st μ (24 + 2 * j1) 1 (0 : Int32)) (24 + 2 * j1) 2 (nI L)) (24 + 2 * j1) 3 (nI n)) (by omega) (by omega)
      obtain ⟨m2, y1, y2, y3, y4⟩ := m_row_l hlt (nI n) (fun m86 => some (nI n, m86)) 40 1000 0 (pw_st (pw_st (pw_st (pw_st m1 0 9 0) 54 5 (0 : Int32)) 57 j1 (nI n)) 58 j1 (nI L)) (by omega) (by omega)
      refine ⟨nI n, pw_st m1 0 9 0, m2, ?_, ?_, ?_⟩
      · simp only [fn_X5_row, X1, mm_bi, mm_n00, mm_n10, if_true, if_false, ne_eq, not_true_eq_false, not_false_eq_true, c1, c2, eq_true q, eq_true q0]
        rw [mm_ix (by omega) (by omega)]
        unfold fn_X3_begin
        rw [show ∀ k : Option pw_Mem, fn_bz (0 : Int32) k = k from fun k => mm_bz0]
        rw [show fl_X3_begin_17 (fun m35 => some m35) (24 + 2 * j1) (nI n) 1000 (0 : Int32) (pw_st (pw_st (pw_st μ (24 + 2 * j1) 1 (0 : Int32)) (24 + 2 * j1) 2 (nI L)) (24 + 2 * j1) 3 (nI n)) = some m1 from x1, mm_bv, x_fnone, mm_bi]
      · simp only [fn_X6_row, M1, MI, b, mm_bi, mm_n00, mm_n10, if_true, if_false, ne_eq, not_true_eq_false, not_false_eq_true, eq_true q, eq_true q0]
        rw [mm_ix (by omega) (by omega), mm_ix (by omega) (by omega)]
        exact y1
      · refine I'.rows (fun r hr => ?_) ⟨?_, ?_⟩ (fun k a b c d e f g => ?_) (fun j hj => ?_)
        · by_cases z : r = j1
          · subst z
            refine Or.inr ⟨n, L, by omega, by omega, ?_, ?_, ?_, ?_, ?_, fun i hi => ?_⟩
            · simp (disch := omega) only [y2, x2, ms_row, ms_nj, ms_eq]; rfl
            · simp (disch := omega) only [y2, x2, ms_row, ms_nj, ms_eq]
            · simp (disch := omega) only [y2, x2, ms_row, ms_nj, ms_eq]
            · simp (disch := omega) only [y2, x2, ms_row, ms_nj, ms_eq]
            · simp (disch := omega) only [y2, x2, ms_row, ms_nj, ms_eq]
            · rw [y4 i (by omega) (by omega)]
              simp (disch := omega) only [y2, ms_row]
              rw [show 25 + 2 * r = 24 + 2 * r + 1 by omega]
              exact (x4 i (by omega) hi)
          · refine (W r hr).same2 ?_ ?_ ?_ ?_ (fun i hi => ?_)
            · simp (disch := omega) only [y2, x2, ms_row]
            · simp (disch := omega) only [y2, x2, ms_row]
            · simp (disch := omega) only [y2, x2, ms_row, ms_nj]
            · simp (disch := omega) only [y2, x2, ms_row, ms_nj]
            · simp (disch := omega) only [y3, x2, ms_row]
        · simp (disch := omega) only [y2, x2, ms_row, ms_nj]; exact U.1
        · simp (disch := omega) only [y2, x2, ms_row, ms_nj, ms_eq]
        · simp (disch := omega) only [y2, x2, ms_row]
        · simp (disch := omega) only [y2, x2, ms_row, ms_nj]
    · refine ⟨(-1000010 : Int32) - (4 : Int32), pw_st μ 0 9 4, pw_st (pw_st μ 0 9 4) 54 5 4, ?_, ?_, I'.find 4⟩
      · simp only [fn_X5_row, X1, mm_bi, mm_n00, mm_n10, if_true, if_false, ne_eq, not_true_eq_false, not_false_eq_true, c1, c2, eq_true q, q0, x_found]
      · simp only [fn_X6_row, M1, MI, b, mm_bi, mm_n00, mm_n10, if_true, if_false, ne_eq, not_true_eq_false, not_false_eq_true, eq_true q, q0, m_finds]
  · refine ⟨(-1000001 : Int32), μ, μ, ?_, ?_, I'⟩
    · simp only [fn_X5_row, X1, mm_bi, mm_n00, mm_n10, if_true, if_false, ne_eq, not_true_eq_false, not_false_eq_true, c1, c2, q]
    · simp only [fn_X6_row, M1, MI, b, mm_bi, mm_n00, mm_n10, if_true, if_false, ne_eq, not_true_eq_false, not_false_eq_true, q]
