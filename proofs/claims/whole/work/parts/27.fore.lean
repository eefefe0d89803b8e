/-! FORETOLD -/
theorem n00 : nI 0 = (0 : Int32) := rfl
theorem n10 : ¬ nI 1 = (0 : Int32) := by decide
def r_fd (P : Nat → Bool) : Nat → Nat → Option Nat
  | 0, _ => none
  | d + 1, i => if P i = true then some i else r_fd P d (i + 1)
def r_fv (q : Option Nat) : Int32 := match q with
  | none => (-1000000 : Int32)
  | some j => nI j
theorem r_fd_cong {P Q : Nat → Bool} (h : ∀ i, P i = Q i) : ∀ d i, r_fd P d i = r_fd Q d i
  | 0, _ => rfl
  | d + 1, i => by rw [r_fd, r_fd, h i, r_fd_cong h d (i + 1)]
theorem r_fd_le {P : Nat → Bool} : ∀ d i j, r_fd P d i = some j → j < i + d ∧ P j = true
  | 0, i, j, h => by cases h
  | d + 1, i, j, h => by
    rw [r_fd] at h
    split at h
    · cases h; exact ⟨by omega, by assumption⟩
    · have := r_fd_le d (i + 1) j h; exact ⟨by omega, this.2⟩
theorem r_fd_no {P : Nat → Bool} : ∀ d i, r_fd P d i = none → ∀ j, i ≤ j → j < i + d → P j = false
  | 0, i, _, j, h1, h2 => by omega
  | d + 1, i, h, j, h1, h2 => by
    rw [r_fd] at h
    split at h
    · cases h
    · rename_i hp
      by_cases q : j = i
      · subst q; exact Bool.eq_false_iff.mpr hp
      · exact r_fd_no d (i + 1) h j (by omega) (by omega)
theorem r_bit_and (x k : Nat) : (x &&& 2 ^ k ≠ 0) ↔ x / 2 ^ k % 2 = 1 := by
  rw [show (x / 2 ^ k % 2 = 1) ↔ x.testBit k = true by rw [Nat.testBit_eq_decide_div_mod_eq, decide_eq_true_iff]]
  constructor
  · intro h
    cases hc : x.testBit k with
    | true => rfl
    | false =>
      exfalso
      apply h
      apply Nat.eq_of_testBit_eq
      intro i
      rw [Nat.testBit_and, Nat.testBit_two_pow, Nat.zero_testBit]
      by_cases q : k = i
      · subst q; rw [hc]; rfl
      · simp [q]
  · intro h h0
    have : (x &&& 2 ^ k).testBit k = true := by rw [Nat.testBit_and, h, Nat.testBit_two_pow]; simp
    rw [h0, Nat.zero_testBit] at this
    cases this
theorem q_ahead {μ : pw_Mem} (I : Iv μ) (a1 a2 a3 : Int32) : Ok2 (fn_X5_ahead a1 a2 a3) (fn_X6_ahead a1 a2 a3) μ := by
  have I' := I
  obtain ⟨ρ, N, A, G, W, T, U, V⟩ := I
  obtain ⟨B0, B1, B2⟩ := N.b0
  unfold Ok2
  have Y1 := x_isPulpit N.1 B1 a1
  have Z1 := m_isPulpit N.2.1 B1 a1
  rcases bw_c a1 0 ((ρ 1 : Int) - 1) with b1 | ⟨b1, c1, e1⟩
  · exact ⟨(-1000001 : Int32), μ, μ, by simp only [fn_X5_ahead, Y1, b1, mm_bi, mm_n00, mm_n10, if_true, if_false, ne_eq, not_true_eq_false, not_false_eq_true], by simp only [fn_X6_ahead, Z1, b1, mm_bi, mm_n00, mm_n10, if_true, if_false, ne_eq, not_true_eq_false, not_false_eq_true], I'⟩
  clear Y1 Z1
  obtain ⟨j1, rfl, l1, u1, t1⟩ := bw_n c1 e1 (by omega)
  clear c1 e1
  have X1 : fn_X5_isPulpit (nI j1) μ = some (nI 1, μ) := by rw [x_isPulpit N.1 B1, b1]
  have M1 : ∀ m, rd_M m 0 ρ → fn_X6_isPulpit (nI j1) m = some (nI 1, m) := fun m h => by rw [m_isPulpit h B1, b1]
  clear b1
  have Y2 := (show fn_X5_isWithin a2 (0 : Int32) (60 : Int32) μ = some (nI (bw a2 0 60), μ) from x_isWithin a2 _ _ μ)
  have Z2 := (show fn_X6_in a2.toInt64 (0 : Int64) (60 : Int64) μ = some (nI (bw a2 0 60), μ) from m_in_nat a2 (lo := 0) (hi := 60) (by omega) (by omega) μ)
  rcases bw_c a2 0 60 with b2 | ⟨b2, c2, e2⟩
  · exact ⟨(-1000001 : Int32), μ, μ, by simp only [fn_X5_ahead, X1, Y2, b2, mm_bi, mm_n00, mm_n10, if_true, if_false, ne_eq, not_true_eq_false, not_false_eq_true], by simp only [fn_X6_ahead, M1 μ N.2.1, Z2, b2, mm_bi, mm_n00, mm_n10, if_true, if_false, ne_eq, not_true_eq_false, not_false_eq_true], I'⟩
  clear Y2 Z2
  obtain ⟨j2, rfl, l2, u2, t2⟩ := bw_n c2 e2 (by omega)
  clear c2 e2
  have X2 : ∀ m, fn_X5_isWithin (nI j2) (0 : Int32) (60 : Int32) m = some (nI 1, m) := fun m => by rw [(show fn_X5_isWithin _ (0 : Int32) (60 : Int32) m = some (nI (bw _ 0 60), m) from x_isWithin _ _ _ m), b2]
  have M2 : ∀ m, fn_X6_in ((nI j2)).toInt64 (0 : Int64) (60 : Int64) m = some (nI 1, m) := fun m => by rw [(show fn_X6_in _ (0 : Int64) (60 : Int64) m = some (nI (bw _ 0 60), m) from m_in_nat _ (lo := 0) (hi := 60) (by omega) (by omega) m), b2]
  clear b2
  have Y3 := (show fn_X5_isWithin a3 (0 : Int32) (1 : Int32) μ = some (nI (bw a3 0 1), μ) from x_isWithin a3 _ _ μ)
  have Z3 := (show fn_X6_in a3.toInt64 (0 : Int64) (1 : Int64) μ = some (nI (bw a3 0 1), μ) from m_in_nat a3 (lo := 0) (hi := 1) (by omega) (by omega) μ)
  rcases bw_c a3 0 1 with b3 | ⟨b3, c3, e3⟩
  · exact ⟨(-1000001 : Int32), μ, μ, by simp only [fn_X5_ahead, X1, X2, Y3, b3, mm_bi, mm_n00, mm_n10, if_true, if_false, ne_eq, not_true_eq_false, not_false_eq_true], by simp only [fn_X6_ahead, M1 μ N.2.1, M2, Z3, b3, mm_bi, mm_n00, mm_n10, if_true, if_false, ne_eq, not_true_eq_false, not_false_eq_true], I'⟩
  clear Y3 Z3
  obtain ⟨j3, rfl, l3, u3, t3⟩ := bw_n c3 e3 (by omega)
  clear c3 e3
  have X3 : ∀ m, fn_X5_isWithin (nI j3) (0 : Int32) (1 : Int32) m = some (nI 1, m) := fun m => by rw [(show fn_X5_isWithin _ (0 : Int32) (1 : Int32) m = some (nI (bw _ 0 1), m) from x_isWithin _ _ _ m), b3]
  have M3 : ∀ m, fn_X6_in ((nI j3)).toInt64 (0 : Int64) (1 : Int64) m = some (nI 1, m) := fun m => by rw [(show fn_X6_in _ (0 : Int64) (1 : Int64) m = some (nI (bw _ 0 1), m) from m_in_nat _ (lo := 0) (hi := 1) (by omega) (by omega) m), b3]
  clear b3
  obtain ⟨hs, ok⟩ := N.rk_of (by omega)
  obtain ⟨μ1, e1, e2, e3, e4, e6, e5⟩ := both_ahead N ok hs (D := j2) (by omega)
  obtain ⟨m2, m3, g1, g2, g3, g4, -⟩ := e5 μ1 (e6 55 (by omega))
  have hp : j1 < r_hours ρ j2 1 := by rw [r_hours_lo ρ (by omega)]; omega
  have E := e2.2.2.2.2.2.2 j1 hp
  have F1 : m3 55 (57 + j1) = nI (r_hours ρ j2 (19 + j1)) := by have := g3 (19 + j1) (by omega); rwa [show 38 + (19 + j1) = 57 + j1 by omega] at this
  have F2 : m3 55 (62 + j1) = nI (r_hours ρ j2 (24 + j1)) := by have := g3 (24 + j1) (by omega); rwa [show 38 + (24 + j1) = 62 + j1 by omega] at this
  rcases (show j3 = 0 ∨ j3 = 1 by omega) with rfl | rfl
  · exact ⟨nI (r_hours ρ j2 (19 + j1)), μ1, m3, by simp (disch := omega) only [fn_X5_ahead, X1, X2, X3, mm_bi, mm_n00, mm_n10, if_true, if_false, ne_eq, not_true_eq_false, not_false_eq_true, e1, mm_bv, mm_ix, E.2.1], by simp (disch := omega) only [fn_X6_ahead, M1 _ e4.2.1, M2, M3, mm_bi, mm_n00, mm_n10, if_true, if_false, ne_eq, not_true_eq_false, not_false_eq_true, g1, g2, mm_bv, mm_l57, mm_add, mm_ix, F1], I'.fr (e3.trans g4)⟩
  · exact ⟨nI (r_hours ρ j2 (24 + j1)), μ1, m3, by simp (disch := omega) only [fn_X5_ahead, X1, X2, X3, mm_bi, mm_n00, mm_n10, if_true, if_false, ne_eq, not_true_eq_false, not_false_eq_true, e1, mm_bv, mm_ix, E.2.2], by simp (disch := omega) only [fn_X6_ahead, M1 _ e4.2.1, M2, M3, mm_bi, mm_n00, mm_n10, if_true, if_false, ne_eq, not_true_eq_false, not_false_eq_true, g1, g2, mm_bv, mm_l62, mm_add, mm_ix, F2], I'.fr (e3.trans g4)⟩
theorem q_heard {μ : pw_Mem} (I : Iv μ) (a1 a2 : Int32) : Ok2 (fn_X5_heard a1 a2) (fn_X6_heard a1 a2) μ := by
  have I' := I
  obtain ⟨ρ, N, A, G, W, T, U, V⟩ := I
  obtain ⟨B0, B1, B2⟩ := N.b0
  unfold Ok2
  have Y1 := x_isStretch N.1 B0 a1
  have Z1 := m_isStretch N.2.1 B0 a1
  rcases bw_c a1 0 ((ρ 0 : Int) - 1) with b1 | ⟨b1, c1, e1⟩
  · exact ⟨(-1000001 : Int32), μ, μ, by simp only [fn_X5_heard, Y1, b1, mm_bi, mm_n00, mm_n10, if_true, if_false, ne_eq, not_true_eq_false, not_false_eq_true], by simp only [fn_X6_heard, Z1, b1, mm_bi, mm_n00, mm_n10, if_true, if_false, ne_eq, not_true_eq_false, not_false_eq_true], I'⟩
  clear Y1 Z1
  obtain ⟨j1, rfl, l1, u1, t1⟩ := bw_n c1 e1 (by omega)
  clear c1 e1
  have X1 : fn_X5_isStretch (nI j1) μ = some (nI 1, μ) := by rw [x_isStretch N.1 B0, b1]
  have M1 : ∀ m, rd_M m 0 ρ → fn_X6_isStretch (nI j1) m = some (nI 1, m) := fun m h => by rw [m_isStretch h B0, b1]
  clear b1
  have Y2 := (show fn_X5_isWithin a2 (0 : Int32) (60 : Int32) μ = some (nI (bw a2 0 60), μ) from x_isWithin a2 _ _ μ)
  have Z2 := (show fn_X6_in a2.toInt64 (0 : Int64) (60 : Int64) μ = some (nI (bw a2 0 60), μ) from m_in_nat a2 (lo := 0) (hi := 60) (by omega) (by omega) μ)
  rcases bw_c a2 0 60 with b2 | ⟨b2, c2, e2⟩
  · exact ⟨(-1000001 : Int32), μ, μ, by simp only [fn_X5_heard, X1, Y2, b2, mm_bi, mm_n00, mm_n10, if_true, if_false, ne_eq, not_true_eq_false, not_false_eq_true], by simp only [fn_X6_heard, M1 μ N.2.1, Z2, b2, mm_bi, mm_n00, mm_n10, if_true, if_false, ne_eq, not_true_eq_false, not_false_eq_true], I'⟩
  clear Y2 Z2
  obtain ⟨j2, rfl, l2, u2, t2⟩ := bw_n c2 e2 (by omega)
  clear c2 e2
  have X2 : ∀ m, fn_X5_isWithin (nI j2) (0 : Int32) (60 : Int32) m = some (nI 1, m) := fun m => by rw [(show fn_X5_isWithin _ (0 : Int32) (60 : Int32) m = some (nI (bw _ 0 60), m) from x_isWithin _ _ _ m), b2]
  have M2 : ∀ m, fn_X6_in ((nI j2)).toInt64 (0 : Int64) (60 : Int64) m = some (nI 1, m) := fun m => by rw [(show fn_X6_in _ (0 : Int64) (60 : Int64) m = some (nI (bw _ 0 60), m) from m_in_nat _ (lo := 0) (hi := 60) (by omega) (by omega) m), b2]
  clear b2
  obtain ⟨hs, ok⟩ := N.rk_of (by omega)
  obtain ⟨μ1, e1, e2, e3, e4, e6, e5⟩ := both_ahead N ok hs (D := j2) (by omega)
  obtain ⟨m2, m3, g1, g2, g3, g4, -⟩ := e5 μ1 (e6 55 (by omega))
  have hp : j1 < r_hours ρ j2 0 := by rw [r_hours_lo ρ (by omega)]; omega
  have E := e2.2.2.2.2.2.1 j1 hp
  have F1 : m3 55 (67 + j1) = nI (r_hours ρ j2 (29 + j1)) := by have := g3 (29 + j1) (by omega); rwa [show 38 + (29 + j1) = 67 + j1 by omega] at this
  exact ⟨nI (r_hours ρ j2 (29 + j1)), μ1, m3, by simp (disch := omega) only [fn_X5_heard, X1, X2, mm_bi, mm_n00, mm_n10, if_true, if_false, ne_eq, not_true_eq_false, not_false_eq_true, e1, mm_bv, mm_ix, E.2], by simp (disch := omega) only [fn_X6_heard, M1 _ e4.2.1, M2, mm_bi, mm_n00, mm_n10, if_true, if_false, ne_eq, not_true_eq_false, not_false_eq_true, g1, g2, mm_bv, mm_l67, mm_add, mm_ix, F1], I'.fr (e3.trans g4)⟩
theorem x_h2w_l {ρ : Rd} (ok : rk ρ) {g : Nat} (hg : g < 65536) : ∀ (d n i : Nat) (m : pw_Mem), rd_X m 11 (r_hours ρ i) → i + d = 61 → d < n → ∃ m', fl_X5_hoursToWhole_7 (fun m40 => some ((-1000000 : Int32), m40)) (nI g) n (nI i) m = some (r_fv (r_fd (fun j => decide (r_wg (r_hours ρ j) (ρ 0) &&& g ≠ 0)) d i), m') ∧ (∀ k, k < 11 ∨ 17 < k → m' k = m k) ∧ ∀ j, r_fd (fun j => decide (r_wg (r_hours ρ j) (ρ 0) &&& g ≠ 0)) d i = some j → rd_X m' 11 (r_hours ρ j) := by
  intro d
  induction d with
  | zero =>
    intro n i m h hi hn
    obtain ⟨n, rfl⟩ : ∃ q, n = q + 1 := ⟨n - 1, by omega⟩
    refine ⟨m, ?_, fun _ _ => rfl, fun j hj => by cases hj⟩
    rw [fl_X5_hoursToWhole_7, mm_l60, if_pos (nI_lt (by omega) (by omega))]
    rfl
  | succ d ih =>
    intro n i m h hi hn
    obtain ⟨n, rfl⟩ : ∃ q, n = q + 1 := ⟨n - 1, by omega⟩
    have okh := rk_hours ok i
    have e0 : r_hours ρ i 0 = ρ 0 := r_hours_lo ρ (by omega) i
    have w := x_wholeGates h okh
    rw [e0] at w
    have hw := r_wg_lt (r_hours ρ i) (ρ 0)
    have hle : r_wg (r_hours ρ i) (ρ 0) &&& g ≤ g := Nat.and_le_right
    rw [fl_X5_hoursToWhole_7, mm_l60, if_neg (nI_nlt (by omega) (by omega)), w, mm_bi, mm_and, r_fd]
    by_cases q : r_wg (r_hours ρ i) (ρ 0) &&& g = 0
    · obtain ⟨m1, a1, a2, a3, -, -⟩ := x_goHour h okh
      obtain ⟨m', b1, b2, b3⟩ := ih n (i + 1) m1 a2 (by omega) (by omega)
      rw [q, if_pos n00, a1, mm_bv, mm_l1, mm_add, if_neg (by simp)]
      exact ⟨m', b1, fun k hk => by rw [b2 k hk, a3 k (by omega)], b3⟩
    · rw [if_neg (nI_ne0 (by omega) (by omega)), if_pos (by simp [q])]
      exact ⟨m, rfl, fun _ _ => rfl, fun j hj => by cases hj; exact h⟩
theorem x_h2w {ρ : Rd} {μ : pw_Mem} (N : Iv_now μ ρ) (ok : rk ρ) (hs : μ 4 0 = nI 1) {g : Nat} (hg : g < 65536) : ∃ μ', fn_X5_hoursToWhole (nI g) μ = some (r_fv (r_fd (fun j => decide (r_wg (r_hours ρ j) (ρ 0) &&& g ≠ 0)) 61 0), μ') ∧ (∀ k, k < 11 ∨ 17 < k → μ' k = μ k) ∧ ∀ j, r_fd (fun j => decide (r_wg (r_hours ρ j) (ρ 0) &&& g ≠ 0)) 61 0 = some j → rd_X μ' 11 (r_hours ρ j) := by
  obtain ⟨m1, a1, a2, a3⟩ := x_foretell N.1 ok hs (D := 0) (by omega)
  obtain ⟨m', b1, b2, b3⟩ := x_h2w_l ok hg 61 1000 0 m1 a2 (by omega) (by omega)
  refine ⟨m', ?_, fun k hk => by rw [b2 k hk, a3 k hk], b3⟩
  unfold fn_X5_hoursToWhole
  rw [mm_l0, a1, mm_bv]
  exact b1
theorem m_whole_l {ρ : Rd} (ok : rk ρ) {g : Nat} (hg : g < ρ 0) : ∀ (d n i : Nat) (m : pw_Mem), rd_M m 38 (r_hours ρ i) → i + d = 61 → d < n → ∃ m', fl_X6_whole_17 (fun m51 => some ((-1000000 : Int32), m51)) (nI g) n (nI i) m = some (r_fv (r_fd (fun j => decide (r_wg (r_hours ρ j) (ρ 0) / 2 ^ g % 2 = 1)) d i), m') ∧ Fr m m' := by
  intro d
  have h0 := ok.1
  induction d with
  | zero =>
    intro n i m h hi hn
    obtain ⟨n, rfl⟩ : ∃ q, n = q + 1 := ⟨n - 1, by omega⟩
    refine ⟨m, ?_, Fr.rfl' m⟩
    rw [fl_X6_whole_17, mm_l60, if_pos (nI_lt (by omega) (by omega))]
    rfl
  | succ d ih =>
    intro n i m h hi hn
    obtain ⟨n, rfl⟩ : ∃ q, n = q + 1 := ⟨n - 1, by omega⟩
    have okh := rk_hours ok i
    have e0 : r_hours ρ i 0 = ρ 0 := r_hours_lo ρ (by omega) i
    have w := m_wholeOnes h okh (by omega)
    rw [e0] at w
    have hw := r_wg_lt (r_hours ρ i) (ρ 0)
    have hp : 2 ^ ρ 0 ≤ 2 ^ 9 := Nat.pow_le_pow_right (by omega) (by omega)
    have hb : r_wg (r_hours ρ i) (ρ 0) / 2 ^ g % 2 < 2 := Nat.mod_lt _ (by omega)
    rw [fl_X6_whole_17, mm_l60, if_neg (nI_nlt (by omega) (by omega)), mm_l38, w, mm_bi, m_has (by omega) (by omega), mm_bi, r_fd]
    by_cases q : r_wg (r_hours ρ i) (ρ 0) / 2 ^ g % 2 = 1
    · rw [q, if_neg (by decide), if_pos (by simp [q])]
      exact ⟨m, rfl, Fr.rfl' m⟩
    · obtain ⟨m1, a1, a2, a3, a4⟩ := m_hour h okh (by omega)
      obtain ⟨m', b1, b2⟩ := ih n (i + 1) m1 a2 (by omega) (by omega)
      rw [show r_wg (r_hours ρ i) (ρ 0) / 2 ^ g % 2 = 0 by omega, if_pos n00, mm_l0, a1, mm_bv, mm_l1, mm_add, if_neg (by simp)]
      exact ⟨m', b1, (Fr_m a3 a4).trans b2⟩
theorem q_whole {μ : pw_Mem} (I : Iv μ) (a1 : Int32) : Ok2 (fn_X5_whole a1) (fn_X6_whole a1) μ := by
  have I' := I
  obtain ⟨ρ, N, A, G, W, T, U, V⟩ := I
  obtain ⟨B0, B1, B2⟩ := N.b0
  unfold Ok2
  have Y1 := x_isStretch N.1 B0 a1
  have Z1 := m_isStretch N.2.1 B0 a1
  rcases bw_c a1 0 ((ρ 0 : Int) - 1) with b1 | ⟨b1, c1, e1⟩
  · exact ⟨(-1000001 : Int32), μ, μ, by simp only [fn_X5_whole, Y1, b1, mm_bi, mm_n00, mm_n10, if_true, if_false, ne_eq, not_true_eq_false, not_false_eq_true], by simp only [fn_X6_whole, Z1, b1, mm_bi, mm_n00, mm_n10, if_true, if_false, ne_eq, not_true_eq_false, not_false_eq_true], I'⟩
  clear Y1 Z1
  obtain ⟨j1, rfl, l1, u1, t1⟩ := bw_n c1 e1 (by omega)
  clear c1 e1
  have X1 : fn_X5_isStretch (nI j1) μ = some (nI 1, μ) := by rw [x_isStretch N.1 B0, b1]
  have M1 : ∀ m, rd_M m 0 ρ → fn_X6_isStretch (nI j1) m = some (nI 1, m) := fun m h => by rw [m_isStretch h B0, b1]
  clear b1
  obtain ⟨hs, ok⟩ := N.rk_of (by omega)
  have hp : 2 ^ j1 ≤ 2 ^ 8 := Nat.pow_le_pow_right (by omega) (by omega)
  obtain ⟨μ1, a1, a2, a3⟩ := x_h2w N ok hs (g := 2 ^ j1) (by omega)
  have hM : rd_M μ1 0 ρ := fun i hi => by rw [a2 55 (by omega)]; exact N.2.1 i hi
  obtain ⟨m2, b1, b2, b3, b4⟩ := m_tries hM
  obtain ⟨m3, c1, c2⟩ := m_whole_l ok (g := j1) (by omega) 61 1000 0 m2 b2 (by omega) (by omega)
  refine ⟨r_fv (r_fd (fun j => decide (r_wg (r_hours ρ j) (ρ 0) &&& 2 ^ j1 ≠ 0)) 61 0), μ1, m3, ?_, ?_, I'.fr ((Fr_x a2).trans ((Fr_m b3 b4).trans c2))⟩
  · simp only [fn_X5_whole, X1, mm_bi, mm_n00, mm_n10, if_true, if_false, ne_eq, not_true_eq_false, not_false_eq_true, mm_l1, mm_l31, mm_one (show j1 < 31 by omega), a1]
  · simp only [fn_X6_whole, M1 _ hM, mm_bi, mm_n00, mm_n10, if_true, if_false, ne_eq, not_true_eq_false, not_false_eq_true, b1, mm_bv]
    rw [mm_l0, c1, r_fd_cong (P := fun j => decide (r_wg (r_hours ρ j) (ρ 0) &&& 2 ^ j1 ≠ 0)) (fun i => decide_eq_decide.mpr (r_bit_and _ j1))]
def r_lb (x : Nat) : Option Nat := r_fd (fun i => decide (x / 2 ^ i % 2 = 1)) 9 0
theorem r_lb_some {x : Nat} (h0 : x ≠ 0) (h : x < 512) : ∃ b, r_lb x = some b := by
  cases hc : r_lb x with
  | some b => exact ⟨b, rfl⟩
  | none =>
    exfalso
    apply h0
    apply Nat.eq_of_testBit_eq
    intro i
    rw [Nat.zero_testBit]
    by_cases q : i < 9
    · have := r_fd_no 9 0 hc i (by omega) (by omega)
      rw [Nat.testBit_eq_decide_div_mod_eq]; exact this
    · exact Nat.testBit_lt_two_pow (Nat.lt_of_lt_of_le (show x < 2 ^ 9 from h) (Nat.pow_le_pow_right (by decide) (by omega)))
theorem x_leastOf_l {x : Nat} (h : x < 512) (μ : pw_Mem) : ∀ (d n i : Nat), i + d = 9 → d < n → fl_X5_leastOf_2 (fun m24 => some ((-1000000 : Int32), m24)) (nI x) n (nI i) μ = some (r_fv (r_fd (fun i => decide (x / 2 ^ i % 2 = 1)) d i), μ) := by
  intro d
  induction d with
  | zero =>
    intro n i hi hn
    obtain ⟨n, rfl⟩ : ∃ q, n = q + 1 := ⟨n - 1, by omega⟩
    rw [fl_X5_leastOf_2, mm_l9, if_pos (nI_le (by omega) (by omega))]
    rfl
  | succ d ih =>
    intro n i hi hn
    obtain ⟨n, rfl⟩ : ∃ q, n = q + 1 := ⟨n - 1, by omega⟩
    have hb : x / 2 ^ i % 2 < 2 := Nat.mod_lt _ (by omega)
    rw [fl_X5_leastOf_2, mm_l9, if_neg (nI_ge (by omega) (by omega)), mm_l1, mm_l31, mm_bit (by omega) (by omega), r_fd]
    by_cases q : x / 2 ^ i % 2 = 1
    · rw [q, if_neg (by decide), if_pos (by simp [q])]; rfl
    · rw [show x / 2 ^ i % 2 = 0 by omega, if_pos n00, if_neg (by simp), mm_add]
      exact ih n (i + 1) (by omega) (by omega)
theorem x_leastOf {x : Nat} (h : x < 512) (μ : pw_Mem) : fn_X5_leastOf (nI x) μ = some (r_fv (r_lb x), μ) := x_leastOf_l h μ 9 1000 0 (by omega) (by omega)
theorem m_leastOf_l {x : Nat} (h : x < 512) (μ : pw_Mem) : ∀ (d n i b : Nat), i + d = 9 → d + 1 < n → r_fd (fun i => decide (x / 2 ^ i % 2 = 1)) d i = some b → fl_X6_leastOf_2 (fun y2_2 m16 => some (y2_2, m16)) (nI x) n (nI i) μ = some (nI b, μ) := by
  intro d
  induction d with
  | zero => intro n i b hi hn hb; cases hb
  | succ d ih =>
    intro n i b hi hn hb
    obtain ⟨n, rfl⟩ : ∃ q, n = q + 1 := ⟨n - 1, by omega⟩
    have hb2 : x / 2 ^ i % 2 < 2 := Nat.mod_lt _ (by omega)
    rw [r_fd] at hb
    rw [fl_X6_leastOf_2, m_has (by omega) (by omega), mm_bi]
    by_cases q : x / 2 ^ i % 2 = 1
    · rw [if_pos (by simp [q])] at hb; cases hb
      rw [q, if_pos (by decide)]
    · rw [if_neg (by simp [q])] at hb
      rw [show x / 2 ^ i % 2 = 0 by omega, if_neg (fun z => z n00), mm_l1, mm_add]
      exact ih n (i + 1) b (by omega) (by omega) hb
theorem m_leastOf {x b : Nat} (h : x < 512) (hb : r_lb x = some b) (μ : pw_Mem) : fn_X6_leastOf (nI x) μ = some (nI b, μ) := m_leastOf_l h μ 9 1000 0 b (by omega) (by omega) hb
theorem m_first_l {ρ : Rd} (ok : rk ρ) {w : Nat} (hw : w ≤ 1) : ∀ (d n i : Nat) (m : pw_Mem), rd_M m 38 (r_hours ρ i) → i + d = 61 → d < n → ∃ m', fl_X6_first_29 (fun m73 => some ((-1000000 : Int32), m73)) (nI w) n (nI i) m = some ((match r_fd (fun j => decide (r_wg (r_hours ρ j) (ρ 0) ≠ 0)) d i with | none => (-1000000 : Int32) | some j => if w = 0 then r_fv (r_lb (r_wg (r_hours ρ j) (ρ 0))) else nI j), m') ∧ Fr m m' := by
  intro d
  have h0 := ok.1
  induction d with
  | zero =>
    intro n i m h hi hn
    obtain ⟨n, rfl⟩ : ∃ q, n = q + 1 := ⟨n - 1, by omega⟩
    refine ⟨m, ?_, Fr.rfl' m⟩
    rw [fl_X6_first_29, mm_l60, if_pos (nI_lt (by omega) (by omega))]
    rfl
  | succ d ih =>
    intro n i m h hi hn
    obtain ⟨n, rfl⟩ : ∃ q, n = q + 1 := ⟨n - 1, by omega⟩
    have okh := rk_hours ok i
    have e0 : r_hours ρ i 0 = ρ 0 := r_hours_lo ρ (by omega) i
    have w' := m_wholeOnes h okh (by omega)
    rw [e0] at w'
    have hwg := r_wg_lt (r_hours ρ i) (ρ 0)
    have hp : 2 ^ ρ 0 ≤ 2 ^ 9 := Nat.pow_le_pow_right (by omega) (by omega)
    rw [fl_X6_first_29, mm_l60, if_neg (nI_nlt (by omega) (by omega)), mm_l38, w', mm_bi, r_fd]
    by_cases q : r_wg (r_hours ρ i) (ρ 0) = 0
    · obtain ⟨m1, a1, a2, a3, a4⟩ := m_hour h okh (by omega)
      obtain ⟨m', b1, b2⟩ := ih n (i + 1) m1 a2 (by omega) (by omega)
      rw [q, if_pos (by decide), mm_l0, a1, mm_bv, mm_l1, mm_add, if_neg (by simp)]
      exact ⟨m', b1, (Fr_m a3 a4).trans b2⟩
    · obtain ⟨b, hb⟩ := r_lb_some q (by omega)
      rw [if_neg (nI_nle (by omega) (by omega)), if_pos (show decide (r_wg (r_hours ρ i) (ρ 0) ≠ 0) = true by simp [q])]
      dsimp only
      rcases (show w = 0 ∨ w = 1 by omega) with rfl | rfl
      · rw [if_neg (fun z => z n00), m_leastOf (by omega) hb, mm_bi, if_pos rfl, hb]
        exact ⟨m, rfl, Fr.rfl' m⟩
      · rw [if_pos (by decide), if_neg (by omega)]
        exact ⟨m, rfl, Fr.rfl' m⟩
theorem q_first {μ : pw_Mem} (I : Iv μ) (a1 : Int32) : Ok2 (fn_X5_first a1) (fn_X6_first a1) μ := by
  have I' := I
  obtain ⟨ρ, N, A, G, W, T, U, V⟩ := I
  obtain ⟨B0, B1, B2⟩ := N.b0
  unfold Ok2
  have MR : ∀ m, rd_M m 0 ρ → fn_X6_isRoad m = some (nI (if ρ 0 = 0 then 0 else 1), m) := fun m h => m_isRoad h B0
  rcases N.2.2 with ⟨hs, ok⟩ | ⟨hs, z0, z1, z2⟩
  rotate_left
  · exact ⟨_, μ, μ, by simp only [fn_X5_first, hs, mm_bi, mm_n00, mm_n10, if_true, if_false, ne_eq, not_true_eq_false, not_false_eq_true]; rfl, by simp only [fn_X6_first, MR μ N.2.1, z0, mm_bi, mm_n00, mm_n10, if_true, if_false, ne_eq, not_true_eq_false, not_false_eq_true], I'⟩
  have hz0 : ¬ ρ 0 = 0 := by have := ok.1; omega
  have MR1 : ∀ m, rd_M m 0 ρ → fn_X6_isRoad m = some (nI 1, m) := fun m h => by rw [MR m h, if_neg hz0]
  have Y1 := (show fn_X5_isWithin a1 (0 : Int32) (1 : Int32) μ = some (nI (bw a1 0 1), μ) from x_isWithin a1 _ _ μ)
  have Z1 := (show fn_X6_in a1.toInt64 (0 : Int64) (1 : Int64) μ = some (nI (bw a1 0 1), μ) from m_in_nat a1 (lo := 0) (hi := 1) (by omega) (by omega) μ)
  rcases bw_c a1 0 1 with b1 | ⟨b1, c1, e1⟩
  · exact ⟨(-1000001 : Int32), μ, μ, by simp only [fn_X5_first, hs, Y1, b1, mm_bi, mm_n00, mm_n10, if_true, if_false, ne_eq, not_true_eq_false, not_false_eq_true], by simp only [fn_X6_first, MR1 μ N.2.1, Z1, b1, mm_bi, mm_n00, mm_n10, if_true, if_false, ne_eq, not_true_eq_false, not_false_eq_true], I'⟩
  clear Y1 Z1
  obtain ⟨j1, rfl, l1, u1, t1⟩ := bw_n c1 e1 (by omega)
  clear c1 e1
  have X1 : ∀ m, fn_X5_isWithin (nI j1) (0 : Int32) (1 : Int32) m = some (nI 1, m) := fun m => by rw [(show fn_X5_isWithin _ (0 : Int32) (1 : Int32) m = some (nI (bw _ 0 1), m) from x_isWithin _ _ _ m), b1]
  have M1 : ∀ m, fn_X6_in ((nI j1)).toInt64 (0 : Int64) (1 : Int64) m = some (nI 1, m) := fun m => by rw [(show fn_X6_in _ (0 : Int64) (1 : Int64) m = some (nI (bw _ 0 1), m) from m_in_nat _ (lo := 0) (hi := 1) (by omega) (by omega) m), b1]
  clear b1
  have h0 := ok.1
  have hp : 2 ^ ρ 0 ≤ 2 ^ 9 := Nat.pow_le_pow_right (by omega) (by omega)
  have hp1 := Nat.two_pow_pos (ρ 0)
  obtain ⟨μ1, a1, a2, a3⟩ := x_h2w N ok hs (g := 2 ^ ρ 0 - 1) (by omega)
  have hM : rd_M μ1 0 ρ := fun i hi => by rw [a2 55 (by omega)]; exact N.2.1 i hi
  obtain ⟨m2, b1, b2, b3, b4⟩ := m_tries hM
  obtain ⟨m3, c1, c2⟩ := m_first_l ok (w := j1) (by omega) 61 1000 0 m2 b2 (by omega) (by omega)
  have pc : ∀ i, (fun j => decide (r_wg (r_hours ρ j) (ρ 0) &&& (2 ^ ρ 0 - 1) ≠ 0)) i = (fun j => decide (r_wg (r_hours ρ j) (ρ 0) ≠ 0)) i := fun i => by
    have := r_wg_lt (r_hours ρ i) (ρ 0)
    dsimp only
    rw [Nat.and_two_pow_sub_one_eq_mod, Nat.mod_eq_of_lt this]
  rw [r_fd_cong pc] at a1 a3
  have fin : fn_X6_first (nI j1) μ1 = some ((match r_fd (fun j => decide (r_wg (r_hours ρ j) (ρ 0) ≠ 0)) 61 0 with | none => (-1000000 : Int32) | some j => if j1 = 0 then r_fv (r_lb (r_wg (r_hours ρ j) (ρ 0))) else nI j), m3) := by
    simp only [fn_X6_first, MR1 _ hM, M1, mm_bi, mm_n00, mm_n10, if_true, if_false, ne_eq, not_true_eq_false, not_false_eq_true, b1, mm_bv]
    rw [mm_l0, c1]
  refine ⟨_, μ1, m3, ?_, fin, I'.fr ((Fr_x a2).trans ((Fr_m b3 b4).trans c2))⟩
  have e4 : μ 4 4 = nI (ρ 0) := N.1.2.2.2.1
  simp only [fn_X5_first, hs, X1, mm_bi, mm_n00, mm_n10, if_true, if_false, ne_eq, not_true_eq_false, not_false_eq_true]
  rw [e4, mm_l1, mm_l31, mm_one (show ρ 0 < 31 by omega), mm_sub hp1, a1, mm_bi]
  cases hc : r_fd (fun j => decide (r_wg (r_hours ρ j) (ρ 0) ≠ 0)) 61 0 with
  | none => rfl
  | some j =>
    have hj := r_fd_le 61 0 j hc
    have ex := a3 j hc
    have w' := x_wholeGates ex (rk_hours ok j)
    rw [r_hours_lo ρ (by omega)] at w'
    have hwg := r_wg_lt (r_hours ρ j) (ρ 0)
    have ne : ¬ nI j = (-1000000 : Int32) := fun z => by
      have := congrArg Int32.toInt z
      rw [nI_toInt (by omega)] at this
      have h2 : (-1000000 : Int32).toInt = -1000000 := by decide
      omega
    show (if nI j = (-1000000 : Int32) then some (nI j, μ1) else _) = _
    rw [if_neg ne]
    dsimp only
    rcases (show j1 = 0 ∨ j1 = 1 by omega) with rfl | rfl
    · rw [if_pos (show ¬ nI 0 = nI 1 by decide), w', mm_bi, x_leastOf (by omega), mm_bi, if_pos rfl]
    · rw [if_neg (by decide), if_neg (by omega)]; rfl
