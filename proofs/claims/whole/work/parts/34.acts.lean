/-! CALLS that are acts -/
theorem Iv_after {μ m : pw_Mem} {ρ : Rd} {kept : Nat} {h : Nat → Rd} (G : ∀ k, k < 2 → Iv_img μ k) (W : ∀ r, r < 8 → Iv_row μ r) (T : Iv_tape μ) (U : Iv_num μ) (V : Iv_tr μ) (N1 : rd_X m 4 ρ) (N2 : rd_M m 0 ρ) (hs : m 4 0 = nI 1) (ok : rk ρ) (hk : kept ≤ 24) (AX : acX m (ρ 0) (ρ 1) kept h) (AM : acM m kept h) (AV : ∀ k, k < kept → aV ρ (h k)) (hrow : ∀ k, (k < 4 ∨ 10 < k) → k ≠ 20 → k ≠ 21 → k ≠ 54 → k ≠ 55 → m k = μ k) (h54 : ∀ j, j ≠ 1 → m 54 j = μ 54 j) (hw : ∀ i, 38 ≤ i → i < 190 → m 55 i = μ 55 i) : Iv m :=
  ⟨ρ, ⟨N1, N2, Or.inl ⟨hs, ok⟩⟩, ⟨kept, h, hk, fun _ => ok, AX, AM, AV⟩, fun k hk2 => (G k hk2).same (fun j hj => hrow _ (by omega) (by omega) (by omega) (by omega) (by omega)) (fun i hi => hw _ (by omega) (by omega)), fun r hr => (W r hr).same (hrow _ (by omega) (by omega) (by omega) (by omega) (by omega)) (hrow _ (by omega) (by omega) (by omega) (by omega) (by omega)) (hrow 57 (by omega) (by omega) (by omega) (by omega) (by omega)) (hrow 58 (by omega) (by omega) (by omega) (by omega) (by omega)) (hrow 59 (by omega) (by omega) (by omega) (by omega) (by omega)), T.same (by rw [hrow 2 (by omega) (by omega) (by omega) (by omega) (by omega)]) (h54 3 (by omega)) (hrow 3 (by omega) (by omega) (by omega) (by omega) (by omega)) (hrow 56 (by omega) (by omega) (by omega) (by omega) (by omega)), U.same (hrow 0 (by omega) (by omega) (by omega) (by omega) (by omega)) (h54 4 (by omega)) (h54 5 (by omega)), V.same (hrow 22 (by omega) (by omega) (by omega) (by omega) (by omega)) (h54 15 (by omega)) (hrow 23 (by omega) (by omega) (by omega) (by omega) (by omega)) (hrow 62 (by omega) (by omega) (by omega) (by omega) (by omega))⟩
theorem aV_own {ρ : Rd} (ok : rk ρ) : aV ρ ρ := ⟨fun s hs => (ok.2.2.2.2.1 s hs).2, fun p hp => (ok.2.2.2.2.2 p hp).2⟩
theorem aV_to {ρ ρ' τ : Rd} (a : aV ρ τ) (e0 : ρ' 0 = ρ 0) (e1 : ρ' 1 = ρ 1) (e2 : ρ' 2 = ρ 2) : aV ρ' τ := by
  unfold aV; rw [e0, e1, e2]; exact a
theorem hpK_le {kept : Nat} (h : kept ≤ 24) : hpK kept ≤ 24 := by unfold hpK; split <;> omega
theorem hpH_v {kept : Nat} {h : Nat → Rd} {ρ : Rd} (ok : rk ρ) (hk : kept ≤ 24) (a : ∀ k, k < kept → aV ρ (h k)) : ∀ k, k < hpK kept → aV ρ (hpH kept h ρ k) := by
  intro k hk2
  unfold hpK at hk2
  unfold hpH
  by_cases q : kept = 24
  · rw [if_pos q] at hk2 ⊢
    by_cases q2 : k = 23
    · rw [if_pos q2]; exact aV_own ok
    · rw [if_neg q2]; exact a _ (by omega)
  · rw [if_neg q] at hk2 ⊢
    by_cases q2 : k = kept
    · rw [if_pos q2]; exact aV_own ok
    · rw [if_neg q2]; exact a _ (by omega)
/-- an act on the road: the system keeps and changes its rows 4 .. 10; the reference minds and changes its road -/
theorem act_done {μ m1 μ1 m2 μ2 : pw_Mem} {ρ ρ' : Rd} {kept : Nat} {h : Nat → Rd} (G : ∀ k, k < 2 → Iv_img μ k) (W : ∀ r, r < 8 → Iv_row μ r) (T : Iv_tape μ) (U : Iv_num μ) (V : Iv_tr μ) (ok : rk ρ) (ok' : rk ρ') (e0 : ρ' 0 = ρ 0) (e1 : ρ' 1 = ρ 1) (e2 : ρ' 2 = ρ 2) (hk : kept ≤ 24) (AV : ∀ k, k < kept → aV ρ (h k))
    (x1 : acX m1 (ρ 0) (ρ 1) (hpK kept) (hpH kept h ρ)) (x2 : ∀ j, j ≠ 20 → j ≠ 21 → m1 j = μ j) (y1 : rd_X μ1 4 ρ') (y2 : ∀ k, k < 4 ∨ 10 < k → μ1 k = m1 k) (y3 : μ1 4 0 = nI 1)
    (u1 : acM m2 (hpK kept) (hpH kept h ρ)) (u2 : ∀ j, j ≠ 54 → j ≠ 55 → m2 j = μ1 j) (u3 : ∀ j, j ≠ 1 → m2 54 j = μ1 54 j) (u4 : ∀ i, i < 190 → m2 55 i = μ1 55 i) (v1 : rd_M μ2 0 ρ') (v2 : ∀ j, j ≠ 55 → μ2 j = m2 j) (v3 : ∀ i, 38 ≤ i → μ2 55 i = m2 55 i) : Iv μ2 := by
  refine Iv_after G W T U V (x_other y1 (fun j hj => by rw [v2 _ (by omega), u2 _ (by omega) (by omega)])) v1 (by rw [v2 4 (by omega), u2 4 (by omega) (by omega)]; exact y3) ok' (hpK_le hk) ?_ (u1.same (by rw [v2 54 (by omega)]) (fun i hi => v3 i (by omega))) (fun k hk2 => aV_to (hpH_v ok hk AV k hk2) e0 e1 e2) (fun k a b c d f => by rw [v2 k f, u2 k d f, y2 k a, x2 k b c]) (fun j hj => by rw [v2 54 (by omega), u3 j hj, y2 54 (by omega), x2 54 (by omega) (by omega)]) (fun i a b => by rw [v3 i a, u4 i b, y2 55 (by omega), x2 55 (by omega) (by omega)])
  rw [e0, e1]
  exact x1.same (by rw [v2 20 (by omega), u2 20 (by omega) (by omega), y2 20 (by omega)]) (by rw [v2 21 (by omega), u2 21 (by omega) (by omega), y2 21 (by omega)])
theorem q_put {μ : pw_Mem} (I : Iv μ) (a1 a2 : Int32) : Ok2 (fn_X5_put a1 a2) (fn_X6_put a1 a2) μ := by
  have I' := I
  obtain ⟨ρ, N, A, G, W, T, U, V⟩ := I
  obtain ⟨B0, B1, B2⟩ := N.b0
  unfold Ok2
  have Y1 := x_isPulpit N.1 B1 a1
  have Z1 := m_isPulpit N.2.1 B1 a1
  rcases bw_c a1 0 ((ρ 1 : Int) - 1) with b1 | ⟨b1, c1, e1⟩
  · exact ⟨(-1000001 : Int32), μ, μ, by simp only [fn_X5_put, Y1, b1, mm_bi, mm_n00, mm_n10, if_true, if_false, ne_eq, not_true_eq_false, not_false_eq_true], by simp only [fn_X6_put, Z1, b1, mm_bi, mm_n00, mm_n10, if_true, if_false, ne_eq, not_true_eq_false, not_false_eq_true], I'⟩
  clear Y1 Z1
  obtain ⟨j1, rfl, l1, u1, t1⟩ := bw_n c1 e1 (by omega)
  clear c1 e1
  have X1 : fn_X5_isPulpit (nI j1) μ = some (nI 1, μ) := by rw [x_isPulpit N.1 B1, b1]
  have M1 : ∀ m, rd_M m 0 ρ → fn_X6_isPulpit (nI j1) m = some (nI 1, m) := fun m h => by rw [m_isPulpit h B1, b1]
  clear b1
  have Y2 := x_isStretch N.1 B0 a2
  have Z2 := m_isStretch N.2.1 B0 a2
  rcases bw_c a2 0 ((ρ 0 : Int) - 1) with b2 | ⟨b2, c2, e2⟩
  · exact ⟨(-1000001 : Int32), μ, μ, by simp only [fn_X5_put, X1, Y2, b2, mm_bi, mm_n00, mm_n10, if_true, if_false, ne_eq, not_true_eq_false, not_false_eq_true], by simp only [fn_X6_put, M1 μ N.2.1, Z2, b2, mm_bi, mm_n00, mm_n10, if_true, if_false, ne_eq, not_true_eq_false, not_false_eq_true], I'⟩
  clear Y2 Z2
  obtain ⟨j2, rfl, l2, u2, t2⟩ := bw_n c2 e2 (by omega)
  clear c2 e2
  have X2 : fn_X5_isStretch (nI j2) μ = some (nI 1, μ) := by rw [x_isStretch N.1 B0, b2]
  have M2 : ∀ m, rd_M m 0 ρ → fn_X6_isStretch (nI j2) m = some (nI 1, m) := fun m h => by rw [m_isStretch h B0, b2]
  clear b2
  obtain ⟨hs, ok⟩ := N.rk_of (by omega)
  have h1 := ok.2.1
  have h0 := ok.1
  have hlt : j1 < ρ 1 := by omega
  have hlt2 : j2 < ρ 0 := by omega
  have E := (N.1.2.2.2.2.2.2 j1 hlt).2.1
  have ga := (ok.2.2.2.2.2 j1 hlt).2.1
  have F1 : μ 55 (19 + j1) = nI (ρ (19 + j1)) := by have := N.2.1 (19 + j1) (by omega); rwa [Nat.zero_add] at this
  by_cases q : ρ (19 + j1) = j2
  · refine ⟨(-1000002 : Int32), μ, μ, ?_, ?_, I'⟩
    · simp only [fn_X5_put, X1, X2, mm_bi, mm_n10, if_false, ne_eq, not_false_eq_true, if_true]
      rw [mm_ix (by omega) (by omega), E, q, if_neg (by simp)]
    · simp only [fn_X6_put, M1 _ N.2.1, M2 _ N.2.1, mm_bi, mm_n10, if_false, ne_eq, not_false_eq_true, if_true]
      rw [mm_l19, mm_add, mm_ix (by omega) (by omega), F1, q, if_neg (by simp)]
  obtain ⟨kept, h, hk, -, AX, AM, AV⟩ := A
  obtain ⟨m1, x1, x2, x3⟩ := x_keep N.1 ok hk AX
  have N1 : rd_X m1 4 ρ := x_other N.1 (fun j hj => x3 _ (by omega) (by omega))
  have y1 := x_at N1 ok hlt j2
  have hM : rd_M (pw_st m1 (4 + 4) j1 (nI j2)) 0 ρ := fun i hi => by rw [ms_row _ _ (by omega), x3 55 (by omega) (by omega)]; exact N.2.1 i hi
  obtain ⟨m2, u1, u2, u3, u4, u5⟩ := m_minds hM hk (AM.same (by rw [ms_row _ _ (by omega), x3 54 (by omega) (by omega)]) (fun i _ => by rw [ms_row _ _ (by omega), x3 55 (by omega) (by omega)]))
  have hM2 : rd_M m2 0 ρ := fun i hi => by rw [u5 _ (by omega)]; exact hM i hi
  have v1 := m_up hM2 (19 + j1) j2
  rw [Nat.zero_add] at v1
  refine ⟨nI (ρ (19 + j1)), pw_st m1 (4 + 4) j1 (nI j2), pw_st m2 55 (19 + j1) (nI j2), ?_, ?_, act_done G W T U V ok (rk_at ok hlt hlt2) (upR_ne _ _ (by omega)) (upR_ne _ _ (by omega)) (upR_ne _ _ (by omega)) hk AV x2 x3 y1 (fun k hk => ms_row _ _ (by omega)) (by rw [ms_row _ _ (by omega), x3 4 (by omega) (by omega)]; exact hs) u2 u3 u4 u5 v1 (fun j hj => ms_row _ _ hj) (fun i hi => ms_nj _ _ (by omega))⟩
  · simp only [fn_X5_put, X1, X2, mm_bi, mm_n10, if_false, ne_eq, not_false_eq_true, if_true]
    rw [mm_ix (by omega) (by omega), E, if_pos (by rw [mm_eq (by omega) (by omega)]; exact q), x1, mm_bv, mm_ix (by omega) (by omega)]
  · have F2 : (pw_st m1 (4 + 4) j1 (nI j2)) 55 (19 + j1) = nI (ρ (19 + j1)) := by have := hM (19 + j1) (by omega); rwa [Nat.zero_add] at this
    simp only [fn_X6_put, M1 _ hM, M2 _ hM, mm_bi, mm_n10, if_false, ne_eq, not_false_eq_true, if_true]
    rw [mm_l19, mm_add, mm_ix (by omega) (by omega), F2, if_pos (by rw [mm_eq (by omega) (by omega)]; exact q), u1, mm_bv, mm_ix (by omega) (by omega)]
