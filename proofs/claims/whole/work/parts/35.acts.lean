/-! SKIP, FORGET, HOURS -/
theorem q_skip {μ : pw_Mem} (I : Iv μ) (a1 a2 : Int32) : Ok2 (fn_X5_skip a1 a2) (fn_X6_skip a1 a2) μ := by
  have I' := I
  obtain ⟨ρ, N, A, G, W, T, U, V⟩ := I
  obtain ⟨B0, B1, B2⟩ := N.b0
  unfold Ok2
  have hw2 : μ 55 2 = nI (ρ 2) := N.2.1 2 (by omega)
  have mm_w2 : ∀ k : Nat → Option (Int32 × pw_Mem), fn_ix (2 : Int32) 670 k = k 2 := fun k => by rw [mm_l2, mm_ix (by omega) (by omega)]
  have Y1 := x_isPulpit N.1 B1 a1
  have Z1 := m_isPulpit N.2.1 B1 a1
  rcases bw_c a1 0 ((ρ 1 : Int) - 1) with b1 | ⟨b1, c1, e1⟩
  · exact ⟨(-1000001 : Int32), μ, μ, by simp only [fn_X5_skip, Y1, b1, mm_bi, mm_n00, mm_n10, if_true, if_false, ne_eq, not_true_eq_false, not_false_eq_true], by simp only [hw2, mm_w2, fn_X6_skip, Z1, b1, mm_bi, mm_n00, mm_n10, if_true, if_false, ne_eq, not_true_eq_false, not_false_eq_true], I'⟩
  clear Y1 Z1
  obtain ⟨j1, rfl, l1, u1, t1⟩ := bw_n c1 e1 (by omega)
  clear c1 e1
  have X1 : fn_X5_isPulpit (nI j1) μ = some (nI 1, μ) := by rw [x_isPulpit N.1 B1, b1]
  have M1 : ∀ m, rd_M m 0 ρ → fn_X6_isPulpit (nI j1) m = some (nI 1, m) := fun m h => by rw [m_isPulpit h B1, b1]
  clear b1
  have Y2 := x_isWord N.1 B2 a2
  have Z2 := m_isX a2 (n := ρ 2) (by omega) μ
  rcases bw_c a2 0 ((ρ 2 : Int) - 1) with b2 | ⟨b2, c2, e2⟩
  · exact ⟨(-1000001 : Int32), μ, μ, by simp only [fn_X5_skip, X1, Y2, b2, mm_bi, mm_n00, mm_n10, if_true, if_false, ne_eq, not_true_eq_false, not_false_eq_true], by simp only [hw2, mm_w2, fn_X6_skip, M1 μ N.2.1, Z2, b2, mm_bi, mm_n00, mm_n10, if_true, if_false, ne_eq, not_true_eq_false, not_false_eq_true], I'⟩
  clear Y2 Z2
  obtain ⟨j2, rfl, l2, u2, t2⟩ := bw_n c2 e2 (by omega)
  clear c2 e2
  have X2 : fn_X5_isWord (nI j2) μ = some (nI 1, μ) := by rw [x_isWord N.1 B2, b2]
  have M2 : ∀ m, fn_X6_in ((nI j2)).toInt64 (0 : Int64) (nI (ρ 2) - (1 : Int32)).toInt64 m = some (nI 1, m) := fun m => by rw [m_isX _ (by omega), b2]
  clear b2
  obtain ⟨hs, ok⟩ := N.rk_of (by omega)
  have h1 := ok.2.1
  have h2 := ok.2.2.1
  have hlt : j1 < ρ 1 := by omega
  have hlt2 : j2 < ρ 2 := by omega
  have E := (N.1.2.2.2.2.2.2 j1 hlt).2.2
  obtain ⟨kept, h, hk, -, AX, AM, AV⟩ := A
  obtain ⟨m1, x1, x2, x3⟩ := x_keep N.1 ok hk AX
  have N1 : rd_X m1 4 ρ := x_other N.1 (fun j hj => x3 _ (by omega) (by omega))
  have y1 := x_word N1 ok hlt j2
  have hM : rd_M (pw_st m1 (4 + 5) j1 (nI j2)) 0 ρ := fun i hi => by rw [ms_row _ _ (by omega), x3 55 (by omega) (by omega)]; exact N.2.1 i hi
  obtain ⟨m2, u1, u2, u3, u4, u5⟩ := m_minds hM hk (AM.same (by rw [ms_row _ _ (by omega), x3 54 (by omega) (by omega)]) (fun i _ => by rw [ms_row _ _ (by omega), x3 55 (by omega) (by omega)]))
  have hM2 : rd_M m2 0 ρ := fun i hi => by rw [u5 _ (by omega)]; exact hM i hi
  have v1 := m_up hM2 (24 + j1) j2
  rw [Nat.zero_add] at v1
  have F2 : m2 55 (24 + j1) = nI (ρ (24 + j1)) := by have := hM2 (24 + j1) (by omega); rwa [Nat.zero_add] at this
  have F3 : (pw_st m1 (4 + 5) j1 (nI j2)) 55 2 = nI (ρ 2) := hM 2 (by omega)
  refine ⟨nI (ρ (24 + j1)), pw_st m1 (4 + 5) j1 (nI j2), pw_st m2 55 (24 + j1) (nI j2), ?_, ?_, act_done G W T U V ok (rk_word ok hlt hlt2) (upR_ne _ _ (by omega)) (upR_ne _ _ (by omega)) (upR_ne _ _ (by omega)) hk AV x2 x3 y1 (fun k hk => ms_row _ _ (by omega)) (by rw [ms_row _ _ (by omega), x3 4 (by omega) (by omega)]; exact hs) u2 u3 u4 u5 v1 (fun j hj => ms_row _ _ hj) (fun i hi => ms_nj _ _ (by omega))⟩
  · simp only [fn_X5_skip, X1, X2, mm_bi, mm_n10, if_false, ne_eq, not_false_eq_true, if_true]
    rw [mm_ix (by omega) (by omega), E, x1, mm_bv, mm_ix (by omega) (by omega)]
  · simp only [fn_X6_skip, M1 _ hM, mm_w2, F3, M2, mm_bi, mm_n10, if_false, ne_eq, not_false_eq_true, if_true]
    rw [u1, mm_bv, mm_l24, mm_add, mm_ix (by omega) (by omega), mm_ix (by omega) (by omega), F2]
theorem r_pc_0 {x : Nat} (hx : x < 65536) : r_pc x 16 = 0 ↔ x = 0 := by
  constructor
  · intro h
    have z : ∀ n, r_pc x n = 0 → ∀ i, i < n → x / 2 ^ i % 2 = 0 := by
      intro n
      induction n with
      | zero => intro _ i hi; omega
      | succ n ih =>
        intro hn i hi
        rw [r_pc] at hn
        by_cases q : i = n
        · subst q; omega
        · exact ih (by omega) i (by omega)
    apply Nat.eq_of_testBit_eq
    intro i
    rw [Nat.zero_testBit]
    by_cases q : i < 16
    · rw [Nat.testBit_eq_decide_div_mod_eq, z 16 h i q]; rfl
    · exact Nat.testBit_lt_two_pow (Nat.lt_of_lt_of_le (show x < 2 ^ 16 from hx) (Nat.pow_le_pow_right (by decide) (by omega)))
  · intro h
    subst h
    decide
theorem q_forget {μ : pw_Mem} (I : Iv μ) (a1 : Int32) : Ok2 (fn_X5_forget a1) (fn_X6_forget a1) μ := by
  have I' := I
  obtain ⟨ρ, N, A, G, W, T, U, V⟩ := I
  obtain ⟨B0, B1, B2⟩ := N.b0
  unfold Ok2
  have Y1 := x_isStretch N.1 B0 a1
  have Z1 := m_isStretch N.2.1 B0 a1
  rcases bw_c a1 0 ((ρ 0 : Int) - 1) with b1 | ⟨b1, c1, e1⟩
  · exact ⟨(-1000001 : Int32), μ, μ, by simp only [fn_X5_forget, Y1, b1, mm_bi, mm_n00, mm_n10, if_true, if_false, ne_eq, not_true_eq_false, not_false_eq_true], by simp only [fn_X6_forget, Z1, b1, mm_bi, mm_n00, mm_n10, if_true, if_false, ne_eq, not_true_eq_false, not_false_eq_true], I'⟩
  clear Y1 Z1
  obtain ⟨j1, rfl, l1, u1, t1⟩ := bw_n c1 e1 (by omega)
  clear c1 e1
  have X1 : fn_X5_isStretch (nI j1) μ = some (nI 1, μ) := by rw [x_isStretch N.1 B0, b1]
  have M1 : ∀ m, rd_M m 0 ρ → fn_X6_isStretch (nI j1) m = some (nI 1, m) := fun m h => by rw [m_isStretch h B0, b1]
  clear b1
  obtain ⟨hs, ok⟩ := N.rk_of (by omega)
  have h0 := ok.1
  have hlt : j1 < ρ 0 := by omega
  have E := (N.1.2.2.2.2.2.1 j1 hlt).2
  have ge := (ok.2.2.2.2.1 j1 hlt).2
  have hpw := r_pow16 ok
  have hpl := r_pc_le (ρ (29 + j1)) 16
  have F1 : μ 55 (29 + j1) = nI (ρ (29 + j1)) := by have := N.2.1 (29 + j1) (by omega); rwa [Nat.zero_add] at this
  by_cases q : ρ (29 + j1) = 0
  · refine ⟨(-1000002 : Int32), μ, μ, ?_, ?_, I'⟩
    · simp only [fn_X5_forget, X1, mm_bi, mm_n10, if_false, ne_eq, not_false_eq_true, if_true]
      rw [mm_ix (by omega) (by omega), E, j_bitCount (by omega), mm_bi, (r_pc_0 (by omega)).mpr q, if_neg (fun z => z n00)]
    · simp only [fn_X6_forget, M1 _ N.2.1, mm_bi, mm_n10, if_false, ne_eq, not_false_eq_true, if_true]
      rw [mm_l29, mm_add, mm_ix (by omega) (by omega), F1, q, if_neg (fun z => z n00)]
  have qp : 0 < r_pc (ρ (29 + j1)) 16 := by
    rcases Nat.eq_zero_or_pos (r_pc (ρ (29 + j1)) 16) with z | z
    · exact absurd ((r_pc_0 (by omega)).mp z) q
    · exact z
  obtain ⟨kept, h, hk, -, AX, AM, AV⟩ := A
  obtain ⟨m1, x1, x2, x3⟩ := x_keep N.1 ok hk AX
  have N1 : rd_X m1 4 ρ := x_other N.1 (fun j hj => x3 _ (by omega) (by omega))
  have y1 := x_heard N1 ok hlt 0
  have hM : rd_M (pw_st m1 (4 + 2) j1 (nI 0)) 0 ρ := fun i hi => by rw [ms_row _ _ (by omega), x3 55 (by omega) (by omega)]; exact N.2.1 i hi
  obtain ⟨m2, u1, u2, u3, u4, u5⟩ := m_minds hM hk (AM.same (by rw [ms_row _ _ (by omega), x3 54 (by omega) (by omega)]) (fun i _ => by rw [ms_row _ _ (by omega), x3 55 (by omega) (by omega)]))
  have hM2 : rd_M m2 0 ρ := fun i hi => by rw [u5 _ (by omega)]; exact hM i hi
  have v1 := m_up hM2 (29 + j1) 0
  rw [Nat.zero_add] at v1
  have F2 : m2 55 (29 + j1) = nI (ρ (29 + j1)) := by have := hM2 (29 + j1) (by omega); rwa [Nat.zero_add] at this
  have F3 : (pw_st m1 (4 + 2) j1 (nI 0)) 55 (29 + j1) = nI (ρ (29 + j1)) := by have := hM (29 + j1) (by omega); rwa [Nat.zero_add] at this
  refine ⟨nI (r_pc (ρ (29 + j1)) 16), pw_st m1 (4 + 2) j1 (nI 0), pw_st m2 55 (29 + j1) (nI 0), ?_, ?_, act_done G W T U V ok (rk_heard ok hlt (Nat.two_pow_pos _)) (upR_ne _ _ (by omega)) (upR_ne _ _ (by omega)) (upR_ne _ _ (by omega)) hk AV x2 x3 y1 (fun k hk => ms_row _ _ (by omega)) (by rw [ms_row _ _ (by omega), x3 4 (by omega) (by omega)]; exact hs) u2 u3 u4 u5 v1 (fun j hj => ms_row _ _ hj) (fun i hi => ms_nj _ _ (by omega))⟩
  · simp only [fn_X5_forget, X1, mm_bi, mm_n10, if_false, ne_eq, not_false_eq_true, if_true]
    rw [mm_ix (by omega) (by omega), E, j_bitCount (by omega), mm_bi, if_pos (nI_ne0 qp (by omega)), x1, mm_bv, mm_ix (by omega) (by omega), mm_l0]
  · simp only [fn_X6_forget, M1 _ hM, mm_bi, mm_n10, if_false, ne_eq, not_false_eq_true, if_true]
    rw [mm_l29, mm_add, mm_ix (by omega) (by omega), F3, if_pos (nI_ne0 (by omega) (by omega)), u1, mm_bv, mm_ix (by omega) (by omega), F2, m_ones (by omega), mm_bi, mm_ix (by omega) (by omega), mm_l0]
/-! HOURS: the acts one by one -/
def kS (kept : Nat) : Nat → Nat
  | 0 => kept
  | i + 1 => hpK (kS kept i)
def hS (kept : Nat) (h : Nat → Rd) (ρ : Rd) : Nat → Nat → Rd
  | 0 => h
  | i + 1 => hpH (kS kept i) (hS kept h ρ i) (r_hours ρ i)
theorem kS_le {kept : Nat} (h : kept ≤ 24) : ∀ i, kS kept i ≤ 24
  | 0 => h
  | i + 1 => hpK_le (kS_le h i)
theorem hS_v {kept : Nat} {h : Nat → Rd} {ρ : Rd} (ok : rk ρ) (hk : kept ≤ 24) (a : ∀ k, k < kept → aV ρ (h k)) : ∀ i k, k < kS kept i → aV ρ (hS kept h ρ i k)
  | 0, k, hk2 => a k hk2
  | i + 1, k, hk2 => aV_to (hpH_v (rk_hours ok i) (kS_le hk i) (fun k' h' => aV_to (hS_v ok hk a i k' h') (r_hours_lo ρ (by omega) i) (r_hours_lo ρ (by omega) i) (r_hours_lo ρ (by omega) i)) k hk2) (r_hours_lo ρ (by omega) i).symm (r_hours_lo ρ (by omega) i).symm (r_hours_lo ρ (by omega) i).symm
theorem x_hours_l {ρ : Rd} (ok : rk ρ) {kept : Nat} {h : Nat → Rd} (hk : kept ≤ 24) {D : Nat} (hD : D ≤ 24) (k : pw_Mem → Option (Int32 × pw_Mem)) : ∀ (d n i : Nat) (m : pw_Mem), rd_X m 4 (r_hours ρ i) → acX m (ρ 0) (ρ 1) (kS kept i) (hS kept h ρ i) → i + d = D → d < n → ∃ m', fl_X5_hours_47 k (nI D) n (nI i) m = k m' ∧ rd_X m' 4 (r_hours ρ D) ∧ acX m' (ρ 0) (ρ 1) (kS kept D) (hS kept h ρ D) ∧ (∀ j, (j < 4 ∨ 10 < j) → j ≠ 20 → j ≠ 21 → m' j = m j) ∧ m' 4 0 = m 4 0 := by
  intro d
  induction d with
  | zero =>
    intro n i m g a hi hn
    obtain ⟨n, rfl⟩ : ∃ q, n = q + 1 := ⟨n - 1, by omega⟩
    have e : i = D := by omega
    subst e
    refine ⟨m, ?_, g, a, fun _ _ _ _ => rfl, rfl⟩
    rw [fl_X5_hours_47, if_pos (nI_le (by omega) (by omega))]
  | succ d ih =>
    intro n i m g a hi hn
    obtain ⟨n, rfl⟩ : ∃ q, n = q + 1 := ⟨n - 1, by omega⟩
    have l0 : r_hours ρ i 0 = ρ 0 := r_hours_lo ρ (by omega) i
    have l1 : r_hours ρ i 1 = ρ 1 := r_hours_lo ρ (by omega) i
    rw [← l0, ← l1] at a
    obtain ⟨m1, x1, x2, x3⟩ := x_keep g (rk_hours ok i) (kS_le hk i) a
    have g1 : rd_X m1 4 (r_hours ρ i) := x_other g (fun j hj => x3 _ (by omega) (by omega))
    obtain ⟨m2, b1, b2, b3, -, b5⟩ := x_goHour g1 (rk_hours ok i)
    rw [l0, l1] at x2
    obtain ⟨m', c1, c2, c3, c4, c5⟩ := ih n (i + 1) m2 b2 (x2.same (b3 20 (by omega)) (b3 21 (by omega))) (by omega) (by omega)
    refine ⟨m', ?_, c2, c3, fun j h1 h2 h3 => by rw [c4 j h1 h2 h3, b3 j (by omega), x3 j h2 h3], by rw [c5, b5, x3 4 (by omega) (by omega)]⟩
    rw [fl_X5_hours_47, if_neg (nI_ge (by omega) (by omega)), x1, mm_bv, b1, mm_bv, mm_l1, mm_add]
    exact c1
theorem m_hours_l {ρ : Rd} (ok : rk ρ) {kept : Nat} {h : Nat → Rd} (hk : kept ≤ 24) {D : Nat} (hD : D ≤ 24) (k : pw_Mem → Option (Int32 × pw_Mem)) : ∀ (d n i : Nat) (m : pw_Mem), rd_M m 0 (r_hours ρ i) → acM m (kS kept i) (hS kept h ρ i) → i + d = D → d < n → ∃ m', fl_X6_hours_45 k (nI D) n (nI i) m = k m' ∧ rd_M m' 0 (r_hours ρ D) ∧ acM m' (kS kept D) (hS kept h ρ D) ∧ (∀ j, j ≠ 54 → j ≠ 55 → m' j = m j) ∧ (∀ j, j ≠ 1 → m' 54 j = m 54 j) ∧ ∀ i, 38 ≤ i → i < 190 → m' 55 i = m 55 i := by
  intro d
  induction d with
  | zero =>
    intro n i m g a hi hn
    obtain ⟨n, rfl⟩ : ∃ q, n = q + 1 := ⟨n - 1, by omega⟩
    have e : i = D := by omega
    subst e
    refine ⟨m, ?_, g, a, fun _ _ _ => rfl, fun _ _ => rfl, fun _ _ _ => rfl⟩
    rw [fl_X6_hours_45, if_pos (nI_le (by omega) (by omega))]
  | succ d ih =>
    intro n i m g a hi hn
    obtain ⟨n, rfl⟩ : ∃ q, n = q + 1 := ⟨n - 1, by omega⟩
    obtain ⟨m1, u1, u2, u3, u4, u5⟩ := m_minds g (kS_le hk i) a
    have g1 : rd_M m1 0 (r_hours ρ i) := fun j hj => by rw [u5 _ (by omega)]; exact g j hj
    obtain ⟨m2, b1, b2, b3, b4⟩ := m_hour g1 (rk_hours ok i) (by omega)
    obtain ⟨m', c1, c2, c3, c4, c5, c6⟩ := ih n (i + 1) m2 b2 (u2.same (by rw [b3 54 (by omega)]) (fun x hx => b4 x (by omega))) (by omega) (by omega)
    refine ⟨m', ?_, c2, c3, fun j h1 h2 => by rw [c4 j h1 h2, b3 j h2, u3 j h1 h2], fun j hj => by rw [c5 j hj, b3 54 (by omega), u4 j hj], fun x h1 h2 => by rw [c6 x h1 h2, b4 x (by omega), u5 x h2]⟩
    rw [fl_X6_hours_45, if_neg (nI_ge (by omega) (by omega)), u1, mm_bv, mm_l0, b1, mm_bv, mm_l1, mm_add]
    exact c1
