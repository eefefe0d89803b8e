/-! ROWS -/
theorem Iv.rows {μ m : pw_Mem} (I : Iv μ) (hr : ∀ r, r < 8 → Iv_row m r) (hu : Iv_num m) (hrow : ∀ k, ¬ (24 ≤ k ∧ k ≤ 39) → k ≠ 0 → k ≠ 54 → k ≠ 57 → k ≠ 58 → k ≠ 59 → k ≠ 60 → m k = μ k) (h54 : ∀ j, j ≠ 5 → m 54 j = μ 54 j) : Iv m := by
  obtain ⟨ρ, N, A, G, W, T, U, V⟩ := I
  have r : ∀ k, ¬ (24 ≤ k ∧ k ≤ 39) → k ≠ 0 → k ≠ 54 ∧ k ≠ 57 ∧ k ≠ 58 ∧ k ≠ 59 ∧ k ≠ 60 → m k = μ k := fun k a b c => hrow k a b c.1 c.2.1 c.2.2.1 c.2.2.2.1 c.2.2.2.2
  exact ⟨ρ, N.same (fun j hj => r _ (by omega) (by omega) (by omega)) (fun i _ => by rw [r 55 (by omega) (by omega) (by omega)]), A.same (r 20 (by omega) (by omega) (by omega)) (r 21 (by omega) (by omega) (by omega)) (h54 1 (by omega)) (fun i _ => by rw [r 55 (by omega) (by omega) (by omega)]), fun k hk => (G k hk).same (fun j hj => r _ (by omega) (by omega) (by omega)) (fun i _ => by rw [r 55 (by omega) (by omega) (by omega)]), hr, T.same (by rw [r 2 (by omega) (by omega) (by omega)]) (h54 3 (by omega)) (r 3 (by omega) (by omega) (by omega)) (r 56 (by omega) (by omega) (by omega)), hu, V.same (r 22 (by omega) (by omega) (by omega)) (h54 15 (by omega)) (r 23 (by omega) (by omega) (by omega)) (r 62 (by omega) (by omega) (by omega))⟩
theorem Iv.find {μ : pw_Mem} (I : Iv μ) (x : Int32) : Iv (pw_st (pw_st μ 0 9 x) 54 5 x) := by
  have W := I.choose_spec.2.2.2.1
  have U := I.choose_spec.2.2.2.2.2.1
  refine I.rows (fun r hr => (W r hr).same ?_ ?_ ?_ ?_ ?_) ⟨?_, ?_⟩ (fun k a b c d e f g => by rw [ms_row _ _ c, ms_row _ _ b]) (fun j hj => by rw [ms_nj _ _ hj, ms_row _ _ (by omega)])
  · rw [ms_row _ _ (by omega), ms_row _ _ (by omega)]
  · rw [ms_row _ _ (by omega), ms_row _ _ (by omega)]
  · rw [ms_row _ _ (by omega), ms_row _ _ (by omega)]
  · rw [ms_row _ _ (by omega), ms_row _ _ (by omega)]
  · rw [ms_row _ _ (by omega), ms_row _ _ (by omega)]
  · rw [ms_row _ _ (by omega), ms_nj _ _ (by omega), ms_nj _ _ (by omega), ms_row _ _ (by omega)]; exact U.1
  · rw [ms_row _ _ (by omega), ms_eq, ms_eq]
theorem x_found (x : Int32) (μ : pw_Mem) : fn_X5_found x μ = some ((-1000010 : Int32) - x, pw_st μ 0 9 x) := id rfl
theorem x_fnone (x : Int32) (μ : pw_Mem) : fn_X5_foundNothing x μ = some (x, pw_st μ 0 9 (0 : Int32)) := id rfl
theorem m_finds (x : Int32) (μ : pw_Mem) : fn_X6_finds x μ = some ((-1000010 : Int32) - x, pw_st μ 54 5 x) := id rfl
theorem q_drop {μ : pw_Mem} (I : Iv μ) (a1 : Int32) : Ok2 (fn_X5_drop a1) (fn_X6_drop a1) μ := by
  have I' := I
  obtain ⟨ρ, N, A, G, W, T, U, V⟩ := I
  obtain ⟨B0, B1, B2⟩ := N.b0
  unfold Ok2
  have Y1 := x_isRow a1 μ
  have Z1 := m_isRow a1 μ
  rcases bw_c a1 0 7 with b1 | ⟨b1, c1, e1⟩
  · exact ⟨(-1000001 : Int32), μ, μ, by simp only [fn_X5_drop, Y1, b1, mm_bi, mm_n00, mm_n10, if_true, if_false, ne_eq, not_true_eq_false, not_false_eq_true], by simp only [fn_X6_drop, Z1, b1, mm_bi, mm_n00, mm_n10, if_true, if_false, ne_eq, not_true_eq_false, not_false_eq_true], I'⟩
  clear Y1 Z1
  obtain ⟨j1, rfl, l1, u1, t1⟩ := bw_n c1 e1 (by omega)
  clear c1 e1
  have X1 : ∀ m, fn_X5_isRow (nI j1) m = some (nI 1, m) := fun m => by rw [x_isRow, b1]
  have M1 : ∀ m, fn_X6_isRow (nI j1) m = some (nI 1, m) := fun m => by rw [m_isRow, b1]
  clear b1
  have hlt : j1 < 8 := by omega
  rcases W j1 hlt with ⟨w1, w2⟩ | ⟨n, L, w1, w2, w3, w4, w5, w6, w7, w8⟩
  · refine ⟨(-1000010 : Int32) - (1 : Int32), pw_st μ 0 9 1, pw_st (pw_st μ 0 9 1) 54 5 1, ?_, ?_, I'.find 1⟩
    · simp only [fn_X5_drop, X1, mm_bi, mm_n00, mm_n10, if_true, if_false, ne_eq, not_true_eq_false, not_false_eq_true]
      rw [mm_ix (by omega) (by omega), w1, if_neg n10, x_found, mm_bi]
    · simp only [fn_X6_drop, M1, mm_bi, mm_n00, mm_n10, if_true, if_false, ne_eq, not_true_eq_false, not_false_eq_true]
      rw [mm_ix (by omega) (by omega), ms_row _ _ (by omega), w2, if_neg (by decide), m_finds, mm_bi]
  · refine ⟨nI n, pw_st (pw_st μ (24 + 2 * j1) 1 1) 0 9 0, pw_st (pw_st (pw_st (pw_st μ (24 + 2 * j1) 1 1) 0 9 0) 54 5 0) 57 j1 (-1), ?_, ?_, ?_⟩
    · simp only [fn_X5_drop, X1, mm_bi, mm_n00, mm_n10, if_true, if_false, ne_eq, not_true_eq_false, not_false_eq_true]
      rw [mm_ix (by omega) (by omega), w3, if_pos n00, show ∀ k : Option (Int32 × pw_Mem), fn_bz (1 : Int32) k = k from fun k => mm_bz1, x_fnone, mm_bi, ms_nj _ _ (by omega), w6]
    · simp only [fn_X6_drop, M1, mm_bi, mm_n00, mm_n10, if_true, if_false, ne_eq, not_true_eq_false, not_false_eq_true]
      rw [mm_ix (by omega) (by omega), ms_row _ _ (by omega), ms_row _ _ (by omega), w7, if_pos (by rw [mm_l0]; exact nI_le (by omega) (by omega)), mm_ix (by omega) (by omega), mm_ix (by omega) (by omega), ms_row _ _ (by omega), ms_row _ _ (by omega), ms_row _ _ (by omega), w7]
    · refine I'.rows (fun r hr => ?_) ⟨?_, ?_⟩ (fun k a b c d e f g => by rw [ms_row _ _ d, ms_row _ _ c, ms_row _ _ b, ms_row _ _ (by omega)]) (fun j hj => by rw [ms_row _ _ (by omega), ms_nj _ _ hj, ms_row _ _ (by omega), ms_row _ _ (by omega)])
      · by_cases q : r = j1
        · subst q
          refine Or.inl ⟨?_, ms_eq _ _ _ _⟩
          rw [ms_row _ _ (by omega), ms_row _ _ (by omega), ms_row _ _ (by omega)]
          exact ms_eq _ _ _ _
        · have := W r hr
          unfold Iv_row at this ⊢
          rw [show ∀ a, (pw_st (pw_st (pw_st (pw_st μ (24 + 2 * j1) 1 1) 0 9 0) 54 5 0) 57 j1 (-1)) (24 + 2 * r) a = μ (24 + 2 * r) a from fun a => by rw [ms_row _ _ (by omega), ms_row _ _ (by omega), ms_row _ _ (by omega), ms_row _ _ (by omega)]]
          simp only [show ∀ a, (pw_st (pw_st (pw_st (pw_st μ (24 + 2 * j1) 1 1) 0 9 0) 54 5 0) 57 j1 (-1)) (24 + 2 * r) a = μ (24 + 2 * r) a from fun a => by rw [ms_row _ _ (by omega), ms_row _ _ (by omega), ms_row _ _ (by omega), ms_row _ _ (by omega)], show (pw_st (pw_st (pw_st (pw_st μ (24 + 2 * j1) 1 1) 0 9 0) 54 5 0) 57 j1 (-1)) 57 r = μ 57 r by rw [ms_nj _ _ q, ms_row _ _ (by omega), ms_row _ _ (by omega), ms_row _ _ (by omega)], show (pw_st (pw_st (pw_st (pw_st μ (24 + 2 * j1) 1 1) 0 9 0) 54 5 0) 57 j1 (-1)) 58 = μ 58 by rw [ms_row _ _ (by omega), ms_row _ _ (by omega), ms_row _ _ (by omega), ms_row _ _ (by omega)], show (pw_st (pw_st (pw_st (pw_st μ (24 + 2 * j1) 1 1) 0 9 0) 54 5 0) 57 j1 (-1)) 59 = μ 59 by rw [ms_row _ _ (by omega), ms_row _ _ (by omega), ms_row _ _ (by omega), ms_row _ _ (by omega)], show (pw_st (pw_st (pw_st (pw_st μ (24 + 2 * j1) 1 1) 0 9 0) 54 5 0) 57 j1 (-1)) (25 + 2 * r) = μ (25 + 2 * r) by rw [ms_row _ _ (by omega), ms_row _ _ (by omega), ms_row _ _ (by omega), ms_row _ _ (by omega)]]
          exact this
      · rw [ms_row _ _ (by omega), ms_row _ _ (by omega), ms_nj _ _ (by omega), ms_row _ _ (by omega), ms_row _ _ (by omega), ms_nj _ _ (by omega), ms_row _ _ (by omega), ms_row _ _ (by omega)]; exact U.1
      · rw [ms_row _ _ (by omega), ms_row _ _ (by omega), ms_eq, ms_row _ _ (by omega), ms_eq]
/-! FEED -/
theorem q_feed {μ : pw_Mem} (I : Iv μ) (a : Int32) : Ok2 (fn_X5_feed a) (fn_X6_feed a) μ := by
  have I' := I
  obtain ⟨ρ, N, A, G, W, ⟨n, t1, t2, t3, t4⟩, U, V⟩ := I
  unfold Ok2
  have MI : ∀ m, fn_X6_in a.toInt64 (0 : Int64) (255 : Int64) m = some (nI (bw a 0 255), m) := fun m => m_in_nat a (lo := 0) (hi := 255) (by omega) (by omega) m
  have o0 : (0 : Int32).toInt = 0 := rfl
  have o255 : (255 : Int32).toInt = 255 := rfl
  rcases bw_c a 0 255 with b | ⟨b, c, d⟩
  · refine ⟨(-1000001 : Int32), μ, μ, ?_, by simp only [fn_X6_feed, MI, b, mm_bi, mm_n00, mm_n10, if_true, if_false, ne_eq, not_true_eq_false, not_false_eq_true], I'⟩
    unfold fn_X5_feed
    by_cases q : a < 0
    · rw [if_pos q]
    · rw [if_neg q, if_neg]
      intro z
      unfold bw at b
      rw [bw_lt, o0] at q
      rw [bw_le, o255] at z
      rw [if_pos ⟨by omega, z⟩] at b
      cases b
  obtain ⟨v, rfl, l, u, s⟩ := bw_n c d (by omega)
  have c1 : (nI v < (0 : Int32)) = False := eq_false (nI_pos (by omega))
  have c2 : (nI v ≤ (255 : Int32)) = True := eq_true (by rw [mm_l255]; exact nI_le (by omega) (by omega))
  by_cases q : n = 90
  · subst q
    refine ⟨(-1000003 : Int32), μ, μ, ?_, ?_, I'⟩
    · simp only [fn_X5_feed, c1, c2, if_true, if_false, t2]
      rw [mm_l90, if_neg (nI_nlt (by omega) (by omega))]
    · simp only [fn_X6_feed, MI, b, mm_bi, mm_n00, mm_n10, if_true, if_false, ne_eq, not_true_eq_false, not_false_eq_true, t3]
      rw [mm_l90, if_neg (fun z => z rfl)]
  · refine ⟨nI (n + 1), pw_st (pw_st μ 3 n (nI v)) 2 1 (nI (n + 1)), pw_st (pw_st (pw_st (pw_st μ 3 n (nI v)) 2 1 (nI (n + 1))) 56 n (nI v)) 54 3 (nI (n + 1)), ?_, ?_, ?_⟩
    · simp only [fn_X5_feed, c1, c2, if_true, if_false, t2]
      rw [mm_l90, if_pos (nI_lt (by omega) (by omega))]
      unfold fn_X4_add
      rw [t2, mm_l90, if_neg (nI_ge (by omega) (by omega)), mm_ix (by omega) (by omega), mm_bv, show (pw_st μ 3 n (nI v)) 2 1 = nI n from (congrFun (ms_row _ _ (by omega)) 1).trans t2, mm_l1, mm_add, ms_eq]
    · have e3 : (pw_st (pw_st μ 3 n (nI v)) 2 1 (nI (n + 1))) 54 3 = nI n := by rw [ms_row _ _ (by omega), ms_row _ _ (by omega)]; exact t3
      simp only [fn_X6_feed, MI, b, mm_bi, mm_n00, mm_n10, if_true, if_false, ne_eq, not_true_eq_false, not_false_eq_true, e3]
      rw [mm_l90, if_pos (by rw [mm_eq (by omega) (by omega)]; exact q), mm_ix (by omega) (by omega), show (pw_st (pw_st (pw_st μ 3 n (nI v)) 2 1 (nI (n + 1))) 56 n (nI v)) 54 3 = nI n from (congrFun (ms_row _ _ (by omega)) 3).trans e3, mm_l1, mm_add, ms_eq]
    · refine ⟨ρ, N.same (fun j hj => by rw [ms_row _ _ (by omega), ms_row _ _ (by omega), ms_row _ _ (by omega), ms_row _ _ (by omega)]) (fun i _ => by rw [ms_row _ _ (by omega), ms_row _ _ (by omega), ms_row _ _ (by omega), ms_row _ _ (by omega)]), A.same (by rw [ms_row _ _ (by omega), ms_row _ _ (by omega), ms_row _ _ (by omega), ms_row _ _ (by omega)]) (by rw [ms_row _ _ (by omega), ms_row _ _ (by omega), ms_row _ _ (by omega), ms_row _ _ (by omega)]) (by rw [ms_nj _ _ (by omega), ms_row _ _ (by omega), ms_row _ _ (by omega), ms_row _ _ (by omega)]) (fun i _ => by rw [ms_row _ _ (by omega), ms_row _ _ (by omega), ms_row _ _ (by omega), ms_row _ _ (by omega)]), fun k hk => (G k hk).same (fun j hj => by rw [ms_row _ _ (by omega), ms_row _ _ (by omega), ms_row _ _ (by omega), ms_row _ _ (by omega)]) (fun i _ => by rw [ms_row _ _ (by omega), ms_row _ _ (by omega), ms_row _ _ (by omega), ms_row _ _ (by omega)]), fun r hr => (W r hr).same (by rw [ms_row _ _ (by omega), ms_row _ _ (by omega), ms_row _ _ (by omega), ms_row _ _ (by omega)]) (by rw [ms_row _ _ (by omega), ms_row _ _ (by omega), ms_row _ _ (by omega), ms_row _ _ (by omega)]) (by rw [ms_row _ _ (by omega), ms_row _ _ (by omega), ms_row _ _ (by omega), ms_row _ _ (by omega)]) (by rw [ms_row _ _ (by omega), ms_row _ _ (by omega), ms_row _ _ (by omega), ms_row _ _ (by omega)]) (by rw [ms_row _ _ (by omega), ms_row _ _ (by omega), ms_row _ _ (by omega), ms_row _ _ (by omega)]), ⟨n + 1, by omega, by rw [ms_row _ _ (by omega), ms_row _ _ (by omega), ms_eq], ms_eq _ _ _ _, fun i hi => ?_⟩, U.same (by rw [ms_row _ _ (by omega), ms_row _ _ (by omega), ms_row _ _ (by omega), ms_row _ _ (by omega)]) (by rw [ms_nj _ _ (by omega), ms_row _ _ (by omega), ms_row _ _ (by omega), ms_row _ _ (by omega)]) (by rw [ms_nj _ _ (by omega), ms_row _ _ (by omega), ms_row _ _ (by omega), ms_row _ _ (by omega)]), V.same (by rw [ms_row _ _ (by omega), ms_row _ _ (by omega), ms_row _ _ (by omega), ms_row _ _ (by omega)]) (by rw [ms_nj _ _ (by omega), ms_row _ _ (by omega), ms_row _ _ (by omega), ms_row _ _ (by omega)]) (by rw [ms_row _ _ (by omega), ms_row _ _ (by omega), ms_row _ _ (by omega), ms_row _ _ (by omega)]) (by rw [ms_row _ _ (by omega), ms_row _ _ (by omega), ms_row _ _ (by omega), ms_row _ _ (by omega)])⟩
      by_cases qi : i = n
      · subst qi
        refine ⟨v, by omega, ?_, ?_⟩
        · rw [ms_row _ _ (by omega), ms_row _ _ (by omega), ms_row _ _ (by omega), ms_eq]
        · rw [ms_row _ _ (by omega), ms_eq]
      · obtain ⟨c, c1, c2, c3⟩ := t4 i (by omega)
        refine ⟨c, c1, ?_, ?_⟩
        · rw [ms_row _ _ (by omega), ms_row _ _ (by omega), ms_row _ _ (by omega), ms_nj _ _ qi]; exact c2
        · rw [ms_row _ _ (by omega), ms_nj _ _ qi, ms_row _ _ (by omega), ms_row _ _ (by omega)]; exact c3
