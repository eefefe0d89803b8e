/-! LEFT, MEET, ROUND -/
theorem mm_mask {n : Nat} (h : n < 31) : ((1 : Int32) <<< (nI n &&& (31 : Int32))) - (1 : Int32) = nI (2 ^ n - 1) := by
  have := Nat.two_pow_pos n
  rw [mm_l1, mm_l31, mm_one h, mm_sub (by omega)]
theorem r_not {b : Nat} (hb : b < 65536) (i : Nat) : (65535 - b).testBit i = (decide (i < 16) && !b.testBit i) := by
  have := Nat.testBit_two_pow_sub_succ (n := 16) (x := b) hb i
  rwa [show 2 ^ 16 - (b + 1) = 65535 - b by omega] at this
theorem mm_andn {a b : Nat} (ha : a < 65536) (hb : b < 65536) : nI a &&& (nI b ^^^ (-1 : Int32)) = nI (a &&& (65535 - b)) := by
  apply Int32.toBitVec_inj.mp
  show BitVec.ofNat 32 a &&& (BitVec.ofNat 32 b ^^^ BitVec.allOnes 32) = BitVec.ofNat 32 (a &&& (65535 - b))
  apply BitVec.eq_of_getLsbD_eq
  intro i hi
  rw [BitVec.getLsbD_and, BitVec.getLsbD_xor, BitVec.getLsbD_ofNat, BitVec.getLsbD_ofNat, BitVec.getLsbD_allOnes, BitVec.getLsbD_ofNat, Nat.testBit_and, r_not hb]
  by_cases q : i < 16
  · simp [hi, q]
  · have : a.testBit i = false := Nat.testBit_lt_two_pow (Nat.lt_of_lt_of_le (show a < 2 ^ 16 from ha) (Nat.pow_le_pow_right (by decide) (by omega)))
    simp [this]
theorem r_not_or {x y : Nat} (hx : x < 65536) (hy : y < 65536) : 65535 - (x ||| y) = (65535 - x) &&& (65535 - y) := by
  apply Nat.eq_of_testBit_eq
  intro i
  rw [Nat.testBit_and, r_not hx, r_not hy, r_not (Nat.or_lt_two_pow (n := 16) hx hy), Nat.testBit_or]
  cases decide (i < 16) <;> cases x.testBit i <;> cases y.testBit i <;> rfl
def r_lf (σ : Rd) : Nat → Nat
  | 0 => 2 ^ σ 2 - 1
  | i + 1 => r_lf σ i &&& (65535 - σ (29 + i))
theorem r_ones_bit {n i : Nat} (h : i < n) : (2 ^ n - 1) / 2 ^ i % 2 = 1 := by
  have := Nat.testBit_two_pow_sub_one n i
  rw [Nat.testBit_eq_decide_div_mod_eq] at this
  simp [h] at this
  exact this
theorem r_lf_any {σ : Rd} (ok : rk σ) : ∀ i, i ≤ σ 0 → r_lf σ i = (2 ^ σ 2 - 1) &&& (65535 - r_any σ (2 ^ σ 0 - 1) i)
  | 0, _ => by
    have := r_pow16 ok
    show 2 ^ σ 2 - 1 = (2 ^ σ 2 - 1) &&& 65535
    rw [show 65535 = 2 ^ 16 - 1 from rfl, Nat.and_two_pow_sub_one_eq_mod, Nat.mod_eq_of_lt (by omega)]
  | i + 1, h => by
    have hp := r_pow16 ok
    have h1 := r_any_lt ok (2 ^ σ 0 - 1) i (by omega)
    have h2 := (ok.2.2.2.2.1 i (by omega)).2
    rw [r_lf, r_lf_any ok i (by omega), r_any, if_pos (r_ones_bit (by omega)), r_not_or (by omega) (by omega), Nat.and_assoc]
theorem r_lf_lt {σ : Rd} (ok : rk σ) : ∀ i, r_lf σ i < 65536
  | 0 => by have := r_pow16 ok; have := Nat.two_pow_pos (σ 2); show 2 ^ σ 2 - 1 < 65536; omega
  | i + 1 => Nat.lt_of_le_of_lt Nat.and_le_left (r_lf_lt ok i)
theorem m_left_l {ρ σ : Rd} {m : pw_Mem} (h0 : rd_M m 0 ρ) (h : rd_M m 38 σ) (ok : rk σ) (e : σ 0 = ρ 0) : ∀ (d n i : Nat), i + d = σ 0 → d < n → fl_X6_left_42 (fun y42_2 m72 => some (y42_2, m72)) n (nI (r_lf σ i)) (nI i) m = some (nI (r_lf σ (σ 0)), m) := by
  intro d
  have hz := ok.1
  have e0 : m 55 0 = nI (ρ 0) := h0 0 (by omega)
  induction d with
  | zero =>
    intro n i hi hn
    obtain ⟨n, rfl⟩ : ∃ q, n = q + 1 := ⟨n - 1, by omega⟩
    rw [fl_X6_left_42, mm_l0, mm_ix (by omega) (by omega), e0, if_pos (nI_le (by omega) (by omega)), ← hi, Nat.add_zero]
  | succ d ih =>
    intro n i hi hn
    obtain ⟨n, rfl⟩ : ∃ q, n = q + 1 := ⟨n - 1, by omega⟩
    have hp := r_pow16 ok
    have h2 := (ok.2.2.2.2.1 i (by omega)).2
    have F : m 55 (67 + i) = nI (σ (29 + i)) := by have := h (29 + i) (by omega); rwa [show 38 + (29 + i) = 67 + i by omega] at this
    rw [fl_X6_left_42, mm_l0, mm_ix (by omega) (by omega), e0, if_neg (nI_ge (by omega) (by omega)), mm_l67, mm_add, mm_ix (by omega) (by omega), F, mm_andn (r_lf_lt ok i) (by omega), mm_l1, mm_add]
    exact ih n (i + 1) (by omega) (by omega)
theorem q_left {μ : pw_Mem} (I : Iv μ) (a1 : Int32) : Ok2 (fn_X5_left a1) (fn_X6_left a1) μ := by
  have I' := I
  obtain ⟨ρ, N, A, G, W, T, U, V⟩ := I
  obtain ⟨B0, B1, B2⟩ := N.b0
  unfold Ok2
  have MR : ∀ m, rd_M m 0 ρ → fn_X6_isRoad m = some (nI (if ρ 0 = 0 then 0 else 1), m) := fun m h => m_isRoad h B0
  rcases N.2.2 with ⟨hs, ok⟩ | ⟨hs, z0, z1, z2⟩
  rotate_left
  · exact ⟨_, μ, μ, by simp only [fn_X5_left, hs, mm_bi, mm_n00, mm_n10, if_true, if_false, ne_eq, not_true_eq_false, not_false_eq_true]; rfl, by simp only [fn_X6_left, MR μ N.2.1, z0, mm_bi, mm_n00, mm_n10, if_true, if_false, ne_eq, not_true_eq_false, not_false_eq_true], I'⟩
  have hz0 : ¬ ρ 0 = 0 := by have := ok.1; omega
  have MR1 : ∀ m, rd_M m 0 ρ → fn_X6_isRoad m = some (nI 1, m) := fun m h => by rw [MR m h, if_neg hz0]
  have Y1 := (show fn_X5_isWithin a1 (0 : Int32) (60 : Int32) μ = some (nI (bw a1 0 60), μ) from x_isWithin a1 _ _ μ)
  have Z1 := (show fn_X6_in a1.toInt64 (0 : Int64) (60 : Int64) μ = some (nI (bw a1 0 60), μ) from m_in_nat a1 (lo := 0) (hi := 60) (by omega) (by omega) μ)
  rcases bw_c a1 0 60 with b1 | ⟨b1, c1, e1⟩
  · exact ⟨(-1000001 : Int32), μ, μ, by simp only [fn_X5_left, hs, Y1, b1, mm_bi, mm_n00, mm_n10, if_true, if_false, ne_eq, not_true_eq_false, not_false_eq_true], by simp only [fn_X6_left, MR1 μ N.2.1, Z1, b1, mm_bi, mm_n00, mm_n10, if_true, if_false, ne_eq, not_true_eq_false, not_false_eq_true], I'⟩
  clear Y1 Z1
  obtain ⟨j1, rfl, l1, u1, t1⟩ := bw_n c1 e1 (by omega)
  clear c1 e1
  have X1 : ∀ m, fn_X5_isWithin (nI j1) (0 : Int32) (60 : Int32) m = some (nI 1, m) := fun m => by rw [(show fn_X5_isWithin _ (0 : Int32) (60 : Int32) m = some (nI (bw _ 0 60), m) from x_isWithin _ _ _ m), b1]
  have M1 : ∀ m, fn_X6_in ((nI j1)).toInt64 (0 : Int64) (60 : Int64) m = some (nI 1, m) := fun m => by rw [(show fn_X6_in _ (0 : Int64) (60 : Int64) m = some (nI (bw _ 0 60), m) from m_in_nat _ (lo := 0) (hi := 60) (by omega) (by omega) m), b1]
  clear b1
  obtain ⟨μ1, e1, e2, e3, e4, e6, e5⟩ := both_ahead N ok hs (D := j1) (by omega)
  obtain ⟨m2, m3, g1, g2, g3, g4, g5, g6, g7, -⟩ := e5 μ1 (e6 55 (by omega))
  have okh := rk_hours ok j1
  have h0 := okh.1
  have el0 : r_hours ρ j1 0 = ρ 0 := r_hours_lo ρ (by omega) j1
  have el2 : r_hours ρ j1 2 = ρ 2 := r_hours_lo ρ (by omega) j1
  have hp9 : 2 ^ r_hours ρ j1 0 ≤ 2 ^ 9 := Nat.pow_le_pow_right (by omega) (by omega)
  have hp1 := Nat.two_pow_pos (r_hours ρ j1 0)
  have hpw := r_pow16 okh
  have han := r_any_lt okh (2 ^ r_hours ρ j1 0 - 1) (r_hours ρ j1 0) (Nat.le_refl _)
  have w1 := m_left_l g7 g3 okh el0 (r_hours ρ j1 0) 1000 0 (by omega) (by omega)
  refine ⟨nI (r_lf (r_hours ρ j1) (r_hours ρ j1 0)), μ1, m3, ?_, ?_, I'.fr (e3.trans g4)⟩
  · simp only [fn_X5_left, hs, X1, mm_bi, mm_n00, mm_n10, if_true, if_false, ne_eq, not_true_eq_false, not_false_eq_true, e1, mm_bv, x_allWords e2 okh]
    rw [e2.2.2.2.1, mm_mask (by omega), x_heardAtAny e2 okh (by omega), mm_bi, mm_andn (by omega) (by omega), ← r_lf_any okh _ (Nat.le_refl _)]
  · have al := m_all g7 ok (by omega)
    simp only [fn_X6_left, MR1 _ e4.2.1, M1, mm_bi, mm_n00, mm_n10, if_true, if_false, ne_eq, not_true_eq_false, not_false_eq_true, g1, g2, mm_bv]
    rw [mm_l0, al, mm_bi]
    have z : r_lf (r_hours ρ j1) 0 = 2 ^ ρ 2 - 1 := by rw [r_lf, el2]
    rw [z] at w1
    exact w1
theorem x_meet_l {ρ : Rd} (ok : rk ρ) {a b : Nat} (ha : a < ρ 1) (hb : b < ρ 1) : ∀ (d n i : Nat) (m : pw_Mem), rd_X m 11 (r_hours ρ i) → i + d = 61 → d < n → ∃ m', fl_X5_meet_31 (fun m73 => some ((-1000000 : Int32), m73)) (nI a) (nI b) n (nI i) m = some (r_fv (r_fd (fun j => decide (r_hours ρ j (19 + a) = r_hours ρ j (19 + b))) d i), m') ∧ ∀ k, k < 11 ∨ 17 < k → m' k = m k := by
  intro d
  have h1 := ok.2.1
  induction d with
  | zero =>
    intro n i m h hi hn
    obtain ⟨n, rfl⟩ : ∃ q, n = q + 1 := ⟨n - 1, by omega⟩
    refine ⟨m, ?_, fun _ _ => rfl⟩
    rw [fl_X5_meet_31, mm_l60, if_pos (nI_lt (by omega) (by omega))]
    rfl
  | succ d ih =>
    intro n i m h hi hn
    obtain ⟨n, rfl⟩ : ∃ q, n = q + 1 := ⟨n - 1, by omega⟩
    have okh := rk_hours ok i
    have e1 : r_hours ρ i 1 = ρ 1 := r_hours_lo ρ (by omega) i
    have ea := (h.2.2.2.2.2.2 a (by omega)).2.1
    have eb := (h.2.2.2.2.2.2 b (by omega)).2.1
    have ga := (okh.2.2.2.2.2 a (by omega)).2.1
    have gb := (okh.2.2.2.2.2 b (by omega)).2.1
    have g0 := okh.1
    rw [fl_X5_meet_31, mm_l60, if_neg (nI_nlt (by omega) (by omega)), mm_ix (by omega) (by omega), mm_ix (by omega) (by omega), ea, eb, r_fd]
    by_cases q : r_hours ρ i (19 + a) = r_hours ρ i (19 + b)
    · rw [q, if_neg (by simp), if_pos (by simp)]
      exact ⟨m, rfl, fun _ _ => rfl⟩
    · obtain ⟨m1, a1, a2, a3, -, -⟩ := x_goHour h okh
      obtain ⟨m', b1, b2⟩ := ih n (i + 1) m1 a2 (by omega) (by omega)
      rw [if_pos (by rw [mm_ne (by omega) (by omega)]; exact q), a1, mm_bv, mm_l1, mm_add, if_neg (by simp [q])]
      exact ⟨m', b1, fun k hk => by rw [b2 k hk, a3 k (by omega)]⟩
theorem m_meet_l {ρ : Rd} (ok : rk ρ) {a b : Nat} (ha : a < ρ 1) (hb : b < ρ 1) : ∀ (d n i : Nat) (m : pw_Mem), rd_M m 38 (r_hours ρ i) → i + d = 61 → d < n → ∃ m', fl_X6_meet_30 (fun m72 => some ((-1000000 : Int32), m72)) (nI a) (nI b) n (nI i) m = some (r_fv (r_fd (fun j => decide (r_hours ρ j (19 + a) = r_hours ρ j (19 + b))) d i), m') ∧ Fr m m' := by
  intro d
  have h1 := ok.2.1
  induction d with
  | zero =>
    intro n i m h hi hn
    obtain ⟨n, rfl⟩ : ∃ q, n = q + 1 := ⟨n - 1, by omega⟩
    refine ⟨m, ?_, Fr.rfl' m⟩
    rw [fl_X6_meet_30, mm_l60, if_pos (nI_lt (by omega) (by omega))]
    rfl
  | succ d ih =>
    intro n i m h hi hn
    obtain ⟨n, rfl⟩ : ∃ q, n = q + 1 := ⟨n - 1, by omega⟩
    have okh := rk_hours ok i
    have e1 : r_hours ρ i 1 = ρ 1 := r_hours_lo ρ (by omega) i
    have ea : m 55 (57 + a) = nI (r_hours ρ i (19 + a)) := by have := h (19 + a) (by omega); rwa [show 38 + (19 + a) = 57 + a by omega] at this
    have eb : m 55 (57 + b) = nI (r_hours ρ i (19 + b)) := by have := h (19 + b) (by omega); rwa [show 38 + (19 + b) = 57 + b by omega] at this
    have ga := (okh.2.2.2.2.2 a (by omega)).2.1
    have gb := (okh.2.2.2.2.2 b (by omega)).2.1
    have g0 := okh.1
    rw [fl_X6_meet_30, mm_l60, if_neg (nI_nlt (by omega) (by omega)), mm_l57, mm_add, mm_add, mm_ix (by omega) (by omega), mm_ix (by omega) (by omega), ea, eb, r_fd]
    by_cases q : r_hours ρ i (19 + a) = r_hours ρ i (19 + b)
    · rw [q, if_neg (by simp), if_pos (by simp)]
      exact ⟨m, rfl, Fr.rfl' m⟩
    · obtain ⟨m1, a1, a2, a3, a4⟩ := m_hour h okh (by omega)
      obtain ⟨m', b1, b2⟩ := ih n (i + 1) m1 a2 (by omega) (by omega)
      rw [if_pos (by rw [mm_ne (by omega) (by omega)]; exact q), mm_l38, mm_l0, a1, mm_bv, mm_l1, mm_add, if_neg (by simp [q])]
      exact ⟨m', b1, (Fr_m a3 a4).trans b2⟩
theorem q_meet {μ : pw_Mem} (I : Iv μ) (a1 a2 : Int32) : Ok2 (fn_X5_meet a1 a2) (fn_X6_meet a1 a2) μ := by
  have I' := I
  obtain ⟨ρ, N, A, G, W, T, U, V⟩ := I
  obtain ⟨B0, B1, B2⟩ := N.b0
  unfold Ok2
  have Y1 := x_isPulpit N.1 B1 a1
  have Z1 := m_isPulpit N.2.1 B1 a1
  rcases bw_c a1 0 ((ρ 1 : Int) - 1) with b1 | ⟨b1, c1, e1⟩
  · exact ⟨(-1000001 : Int32), μ, μ, by simp only [fn_X5_meet, Y1, b1, mm_bi, mm_n00, mm_n10, if_true, if_false, ne_eq, not_true_eq_false, not_false_eq_true], by simp only [fn_X6_meet, Z1, b1, mm_bi, mm_n00, mm_n10, if_true, if_false, ne_eq, not_true_eq_false, not_false_eq_true], I'⟩
  clear Y1 Z1
  obtain ⟨j1, rfl, l1, u1, t1⟩ := bw_n c1 e1 (by omega)
  clear c1 e1
  have X1 : fn_X5_isPulpit (nI j1) μ = some (nI 1, μ) := by rw [x_isPulpit N.1 B1, b1]
  have M1 : ∀ m, rd_M m 0 ρ → fn_X6_isPulpit (nI j1) m = some (nI 1, m) := fun m h => by rw [m_isPulpit h B1, b1]
  clear b1
  have Y2 := x_isPulpit N.1 B1 a2
  have Z2 := m_isPulpit N.2.1 B1 a2
  rcases bw_c a2 0 ((ρ 1 : Int) - 1) with b2 | ⟨b2, c2, e2⟩
  · exact ⟨(-1000001 : Int32), μ, μ, by simp only [fn_X5_meet, X1, Y2, b2, mm_bi, mm_n00, mm_n10, if_true, if_false, ne_eq, not_true_eq_false, not_false_eq_true], by simp only [fn_X6_meet, M1 μ N.2.1, Z2, b2, mm_bi, mm_n00, mm_n10, if_true, if_false, ne_eq, not_true_eq_false, not_false_eq_true], I'⟩
  clear Y2 Z2
  obtain ⟨j2, rfl, l2, u2, t2⟩ := bw_n c2 e2 (by omega)
  clear c2 e2
  have X2 : fn_X5_isPulpit (nI j2) μ = some (nI 1, μ) := by rw [x_isPulpit N.1 B1, b2]
  have M2 : ∀ m, rd_M m 0 ρ → fn_X6_isPulpit (nI j2) m = some (nI 1, m) := fun m h => by rw [m_isPulpit h B1, b2]
  clear b2
  obtain ⟨hs, ok⟩ := N.rk_of (by omega)
  by_cases q : j1 = j2
  · subst q
    exact ⟨(-1000001 : Int32), μ, μ, by simp only [fn_X5_meet, X1, X2, mm_bi, mm_n00, mm_n10, if_true, if_false, ne_eq, not_true_eq_false, not_false_eq_true], by simp only [fn_X6_meet, M1 _ N.2.1, M2 _ N.2.1, mm_bi, mm_n00, mm_n10, if_true, if_false, ne_eq, not_true_eq_false, not_false_eq_true], I'⟩
  have qn : (nI j1 = nI j2) = False := by rw [mm_eq (by omega) (by omega)]; exact eq_false q
  obtain ⟨m1, a1, a2, a3⟩ := x_foretell N.1 ok hs (D := 0) (by omega)
  obtain ⟨μ1, c1, c2⟩ := x_meet_l ok (a := j1) (b := j2) (by omega) (by omega) 61 1000 0 m1 a2 (by omega) (by omega)
  have F1 : ∀ k, k < 11 ∨ 17 < k → μ1 k = μ k := fun k hk => by rw [c2 k hk, a3 k hk]
  have hM : rd_M μ1 0 ρ := fun i hi => by rw [F1 55 (by omega)]; exact N.2.1 i hi
  obtain ⟨m2, b1, b2, b3, b4⟩ := m_tries hM
  obtain ⟨m3, d1, d2⟩ := m_meet_l ok (a := j1) (b := j2) (by omega) (by omega) 61 1000 0 m2 b2 (by omega) (by omega)
  refine ⟨r_fv (r_fd (fun j => decide (r_hours ρ j (19 + j1) = r_hours ρ j (19 + j2))) 61 0), μ1, m3, ?_, ?_, I'.fr ((Fr_x F1).trans ((Fr_m b3 b4).trans d2))⟩
  · simp only [fn_X5_meet, X1, X2, mm_bi, mm_n00, mm_n10, if_true, if_false, ne_eq, not_true_eq_false, not_false_eq_true, qn]
    rw [mm_l0, a1, mm_bv, c1]
  · simp only [fn_X6_meet, M1 _ hM, M2 _ hM, mm_bi, mm_n00, mm_n10, if_true, if_false, ne_eq, not_true_eq_false, not_false_eq_true, qn, b1, mm_bv]
    rw [mm_l0, d1]
/-! ROUND -/
def r_eqP (ρ σ : Rd) (n : Nat) : Bool := (List.range n).all fun p => decide (σ (19 + p) = ρ (19 + p)) && decide (σ (24 + p) = ρ (24 + p))
theorem r_eqP_s (ρ σ : Rd) (n : Nat) : r_eqP ρ σ (n + 1) = (r_eqP ρ σ n && (decide (σ (19 + n) = ρ (19 + n)) && decide (σ (24 + n) = ρ (24 + n)))) := by
  unfold r_eqP; rw [List.range_succ, List.all_append]; simp
theorem x_hasAs_l {μ : pw_Mem} {o : Nat} {ρ σ : Rd} (h : rd_X μ 4 ρ) (hσ : rd_X μ o σ) (ok : rk ρ) (okσ : rk σ) (e : σ 1 = ρ 1) (e0 : σ 0 = ρ 0) (e2 : σ 2 = ρ 2) : ∀ (d n i : Nat), i + d = ρ 1 → d < n → r_eqP ρ σ i = true → fl_X2_hasPulpitsAs_2 (fun m48 => fn_bz (1 : Int32) (some ((1 : Int32), m48))) o 4 n (nI i) μ = some (nI (if r_eqP ρ σ (ρ 1) = true then 1 else 0), μ) := by
  intro d
  have h1 := ok.2.1
  have h0 := ok.1
  have h2 := ok.2.2.1
  induction d with
  | zero =>
    intro n i hi hn hq
    obtain ⟨n, rfl⟩ : ∃ q, n = q + 1 := ⟨n - 1, by omega⟩
    rw [fl_X2_hasPulpitsAs_2, hσ.2.2.2.2.1, if_pos (nI_le (by omega) (by omega)), ← hi, Nat.add_zero, if_pos hq]
    rfl
  | succ d ih =>
    intro n i hi hn hq
    obtain ⟨n, rfl⟩ : ∃ q, n = q + 1 := ⟨n - 1, by omega⟩
    have a1 := h.2.2.2.2.2.2 i (by omega)
    have a2 := hσ.2.2.2.2.2.2 i (by omega)
    have g1 := (ok.2.2.2.2.2 i (by omega)).2
    have g2 := (okσ.2.2.2.2.2 i (by omega)).2
    rw [fl_X2_hasPulpitsAs_2, hσ.2.2.2.2.1, if_neg (nI_ge (by omega) (by omega)), mm_ix (by omega) (by omega), mm_ix (by omega) (by omega), a2.2.1, show μ (4 + 4) i = _ from a1.2.1]
    have no : ∀ j, ρ 1 = j + (i + 1) → r_eqP ρ σ (i + 1) = false → r_eqP ρ σ (ρ 1) = false := by
      intro j
      induction j with
      | zero => intro hj hf; rw [hj, Nat.zero_add]; exact hf
      | succ j ihj =>
        intro hj hf
        have aux : ∀ t, r_eqP ρ σ (t + (i + 1)) = false := by
          intro t
          induction t with
          | zero => rw [Nat.zero_add]; exact hf
          | succ t iht => rw [show t + 1 + (i + 1) = (t + (i + 1)) + 1 by omega, r_eqP_s, iht]; rfl
        rw [hj]; exact aux _
    by_cases q1 : σ (19 + i) = ρ (19 + i)
    · rw [q1, if_neg (by simp), mm_ix (by omega) (by omega), mm_ix (by omega) (by omega), a2.2.2, show μ (4 + 5) i = _ from a1.2.2]
      by_cases q2 : σ (24 + i) = ρ (24 + i)
      · rw [q2, if_pos rfl, mm_l1, mm_add]
        refine ih n (i + 1) (by omega) (by omega) ?_
        rw [r_eqP_s, hq, q1, q2]; simp
      · rw [if_neg (by rw [mm_eq (by omega) (by omega)]; exact q2), no (ρ 1 - (i + 1)) (by omega) (by rw [r_eqP_s]; simp [q2])]
        rfl
    · rw [if_pos (by rw [mm_ne (by omega) (by omega)]; exact q1), no (ρ 1 - (i + 1)) (by omega) (by rw [r_eqP_s]; simp [q1])]
      rfl
theorem x_hasAs {μ : pw_Mem} {o : Nat} {ρ σ : Rd} (h : rd_X μ 4 ρ) (hσ : rd_X μ o σ) (ok : rk ρ) (okσ : rk σ) (e : σ 1 = ρ 1) (e0 : σ 0 = ρ 0) (e2 : σ 2 = ρ 2) : fn_X2_hasPulpitsAs o 4 μ = some (nI (if r_eqP ρ σ (ρ 1) = true then 1 else 0), μ) := by
  have h1 := ok.2.1
  exact x_hasAs_l h hσ ok okσ e e0 e2 (ρ 1) 1000 0 (by omega) (by omega) rfl
theorem x_round_l {ρ : Rd} (ok : rk ρ) : ∀ (d n i : Nat) (m : pw_Mem), rd_X m 4 ρ → rd_X m 11 (r_hours ρ i) → i + d = 200 → d < n → ∃ m', fl_X5_round_20 (fun m56 => some ((-1000000 : Int32), m56)) n (nI (i + 1)) m = some (r_fv (r_fd (fun j => r_eqP ρ (r_hours ρ j) (ρ 1)) d (i + 1)), m') ∧ ∀ k, k < 11 ∨ 17 < k → m' k = m k := by
  intro d
  induction d with
  | zero =>
    intro n i m h4 h hi hn
    obtain ⟨n, rfl⟩ : ∃ q, n = q + 1 := ⟨n - 1, by omega⟩
    refine ⟨m, ?_, fun _ _ => rfl⟩
    rw [fl_X5_round_20, mm_l200, if_pos (nI_lt (by omega) (by omega))]
    rfl
  | succ d ih =>
    intro n i m h4 h hi hn
    obtain ⟨n, rfl⟩ : ∃ q, n = q + 1 := ⟨n - 1, by omega⟩
    obtain ⟨m1, a1, a2, a3, -, -⟩ := x_goHour h (rk_hours ok i)
    have h4' := x_other h4 (μ' := m1) (fun j hj => a3 _ (by omega))
    have w := x_hasAs h4' (σ := r_hours ρ (i + 1)) a2 ok (rk_hours ok (i + 1)) (r_hours_lo ρ (by omega) _) (r_hours_lo ρ (by omega) _) (r_hours_lo ρ (by omega) _)
    rw [fl_X5_round_20, mm_l200, if_neg (nI_nlt (by omega) (by omega)), a1, mm_bv, w, mm_bi, r_fd]
    by_cases q : r_eqP ρ (r_hours ρ (i + 1)) (ρ 1) = true
    · rw [if_pos q, if_pos q, if_neg n10]
      exact ⟨m1, rfl, fun k hk => a3 k (by omega)⟩
    · obtain ⟨m', b1, b2⟩ := ih n (i + 1) m1 h4' a2 (by omega) (by omega)
      rw [if_neg q, if_neg q, if_pos n00, mm_l1, mm_add]
      exact ⟨m', b1, fun k hk => by rw [b2 k hk, a3 k (by omega)]⟩
/-- who is no pulpit does not move -/
theorem r_hr_dead (ρ : Rd) (ok : rk ρ) (st : Nat) {q : Nat} (hq : ρ 1 ≤ q) (hq5 : q < 5) : ∀ p, p ≤ ρ 1 → r_hr ρ st p (19 + q) = ρ (19 + q) ∧ r_hr ρ st p (24 + q) = ρ (24 + q)
  | 0, _ => ⟨rfl, rfl⟩
  | p + 1, h => by
    have ih := r_hr_dead ρ ok st hq hq5 p (by omega)
    have okp := rk_hr ok st p (by omega)
    have e1 : r_hr ρ st p 1 = ρ 1 := r_hr_lo ρ st (by omega) p
    have h1 := ok.2.1
    have hl := (okp.2.2.2.2.2 p (by omega)).2.1
    unfold r_hr
    split
    · exact ih
    · unfold r_pass
      rw [upR_ne _ _ (by omega), upR_ne _ _ (by omega), upR_ne _ _ (by omega), upR_ne _ _ (by omega), upR_ne _ _ (by omega), upR_ne _ _ (by omega)]
      exact ih
theorem r_hours_dead (ρ : Rd) (ok : rk ρ) {q : Nat} (hq : ρ 1 ≤ q) (hq5 : q < 5) : ∀ d, r_hours ρ d (19 + q) = ρ (19 + q) ∧ r_hours ρ d (24 + q) = ρ (24 + q)
  | 0 => ⟨rfl, rfl⟩
  | d + 1 => by
    have ih := r_hours_dead ρ ok hq hq5 d
    have e1 : r_hours ρ d 1 = ρ 1 := r_hours_lo ρ (by omega) d
    have := r_hr_dead (r_hours ρ d) (rk_hours ok d) (r_cm (r_hours ρ d) (r_hours ρ d 1)) (q := q) (by omega) hq5 (r_hours ρ d 1) (Nat.le_refl _)
    rw [r_hours, r_hour, r_hourS, upR_ne _ _ (by omega), upR_ne _ _ (by omega), this.1, this.2]
    exact ih
def r_eq10 (ρ σ : Rd) : Nat → Bool
  | 0 => true
  | k + 1 => r_eq10 ρ σ k && decide (σ (19 + k) = ρ (19 + k))
theorem m_round_in {ρ σ : Rd} {m : pw_Mem} (h : rd_M m 0 ρ) (hσ : rd_M m 38 σ) (hb : ∀ k, k < 10 → (nI (σ (19 + k)) = nI (ρ (19 + k)) ↔ σ (19 + k) = ρ (19 + k))) (w : Int32) (k : Int32 → pw_Mem → Option (Int32 × pw_Mem)) : ∀ (d n i : Nat), i + d = 10 → d < n → fl_X6_round_34 k w n (nI (if r_eq10 ρ σ i = true then 1 else 0)) (nI i) m = k (nI (if r_eq10 ρ σ 10 = true then 1 else 0)) m := by
  intro d
  induction d with
  | zero =>
    intro n i hi hn
    obtain ⟨n, rfl⟩ : ∃ q, n = q + 1 := ⟨n - 1, by omega⟩
    rw [fl_X6_round_34, mm_l10, if_pos (nI_le (by omega) (by omega)), show i = 10 by omega]
  | succ d ih =>
    intro n i hi hn
    obtain ⟨n, rfl⟩ : ∃ q, n = q + 1 := ⟨n - 1, by omega⟩
    have := ih n (i + 1) (by omega) (by omega)
    rw [r_eq10] at this
    have ea : m 55 (57 + i) = nI (σ (19 + i)) := by have := hσ (19 + i) (by omega); rwa [show 38 + (19 + i) = 57 + i by omega] at this
    have eb : m 55 (19 + i) = nI (ρ (19 + i)) := by have := h (19 + i) (by omega); rwa [Nat.zero_add] at this
    have hbi := hb i (by omega)
    rw [fl_X6_round_34, mm_l10, if_neg (nI_ge (by omega) (by omega)), mm_j1, mm_j0]
    by_cases q : r_eq10 ρ σ i = true
    · rw [if_pos q, if_neg n10, mm_l57, mm_l19, mm_add, mm_add, mm_ix (by omega) (by omega), mm_ix (by omega) (by omega), ea, eb]
      by_cases q2 : σ (19 + i) = ρ (19 + i)
      · rw [q2, if_neg (by simp)]
        rw [q, q2] at this
        simp only [decide_true, Bool.and_self, if_true] at this
        rw [mm_l1, mm_add]; exact this
      · rw [if_pos (fun z => q2 (hbi.mp z))]
        rw [q] at this
        simp only [q2, decide_false, Bool.and_false, if_false] at this
        rw [mm_l0, mm_l1, mm_add]
        exact this
    · rw [if_neg q, if_pos n00]
      have qf : r_eq10 ρ σ i = false := Bool.eq_false_iff.mpr q
      rw [qf] at this
      simp only [Bool.false_and, if_false] at this
      rw [mm_l0, mm_l1, mm_add]
      exact this
theorem r_eq10_P {ρ σ : Rd} (h1 : ρ 1 ≤ 5) (hd : ∀ q, ρ 1 ≤ q → q < 5 → σ (19 + q) = ρ (19 + q) ∧ σ (24 + q) = ρ (24 + q)) : r_eq10 ρ σ 10 = r_eqP ρ σ (ρ 1) := by
  have e10 : ∀ n, r_eq10 ρ σ n = (List.range n).all fun k => decide (σ (19 + k) = ρ (19 + k)) := by
    intro n
    induction n with
    | zero => rfl
    | succ n ih => rw [r_eq10, ih, List.range_succ, List.all_append]; simp
  rw [e10, r_eqP]
  apply Bool.eq_iff_iff.mpr
  rw [List.all_eq_true, List.all_eq_true]
  constructor
  · intro h p hp
    have hp' := List.mem_range.mp hp
    have a := h p (List.mem_range.mpr (by omega))
    have b := h (5 + p) (List.mem_range.mpr (by omega))
    rw [show 19 + (5 + p) = 24 + p by omega] at b
    rw [a, b]; rfl
  · intro h k hk
    have hk' := List.mem_range.mp hk
    by_cases q : k < 5
    · by_cases q2 : k < ρ 1
      · have := h k (List.mem_range.mpr q2)
        rw [Bool.and_eq_true] at this; exact this.1
      · exact decide_eq_true (hd k (by omega) q).1
    · obtain ⟨p, rfl⟩ : ∃ p, k = 5 + p := ⟨k - 5, by omega⟩
      rw [show 19 + (5 + p) = 24 + p by omega]
      by_cases q2 : p < ρ 1
      · have := h p (List.mem_range.mpr q2)
        rw [Bool.and_eq_true] at this; exact this.2
      · exact decide_eq_true (hd p (by omega) (by omega)).2
theorem m_round_l {ρ : Rd} (ok : rk ρ) : ∀ (d n i : Nat) (m : pw_Mem), rd_M m 0 ρ → rd_M m 38 (r_hours ρ i) → i + d = 200 → d < n → ∃ m', fl_X6_round_16 (fun m89 => some ((-1000000 : Int32), m89)) n (nI (i + 1)) m = some (r_fv (r_fd (fun j => r_eqP ρ (r_hours ρ j) (ρ 1)) d (i + 1)), m') ∧ Fr m m' := by
  intro d
  have h1 := ok.2.1
  induction d with
  | zero =>
    intro n i m h4 h hi hn
    obtain ⟨n, rfl⟩ : ∃ q, n = q + 1 := ⟨n - 1, by omega⟩
    refine ⟨m, ?_, Fr.rfl' m⟩
    rw [fl_X6_round_16, mm_l200, if_pos (nI_lt (by omega) (by omega))]
    rfl
  | succ d ih =>
    intro n i m h4 h hi hn
    obtain ⟨n, rfl⟩ : ∃ q, n = q + 1 := ⟨n - 1, by omega⟩
    obtain ⟨m1, a1, a2, a3, a4⟩ := m_hour h (rk_hours ok i) (by omega)
    have h4' : rd_M m1 0 ρ := fun j hj => by rw [a4 _ (by omega)]; exact h4 j hj
    have okh := rk_hours ok (i + 1)
    have l0 : r_hours ρ (i + 1) 0 = ρ 0 := r_hours_lo ρ (by omega) _
    have l1 : r_hours ρ (i + 1) 1 = ρ 1 := r_hours_lo ρ (by omega) _
    have l2 : r_hours ρ (i + 1) 2 = ρ 2 := r_hours_lo ρ (by omega) _
    have o0 := ok.1
    have o2 := ok.2.2.1
    have hb2 : ∀ k, k < 10 → (nI (r_hours ρ (i + 1) (19 + k)) = nI (ρ (19 + k)) ↔ r_hours ρ (i + 1) (19 + k) = ρ (19 + k)) := by
      intro k hk
      by_cases q : k < 5
      · by_cases q2 : k < ρ 1
        · have := (okh.2.2.2.2.2 k (by omega)).2.1
          have := (ok.2.2.2.2.2 k (by omega)).2.1
          rw [mm_eq (by omega) (by omega)]
        · rw [(r_hours_dead ρ ok (q := k) (by omega) q (i + 1)).1]; simp
      · obtain ⟨p, rfl⟩ : ∃ p, k = 5 + p := ⟨k - 5, by omega⟩
        rw [show 19 + (5 + p) = 24 + p by omega]
        by_cases q2 : p < ρ 1
        · have := (okh.2.2.2.2.2 p (by omega)).2.2
          have := (ok.2.2.2.2.2 p (by omega)).2.2
          rw [mm_eq (by omega) (by omega)]
        · rw [(r_hours_dead ρ ok (q := p) (by omega) (by omega) (i + 1)).2]; simp
    have w := m_round_in h4' (σ := r_hours ρ (i + 1)) a2 hb2 (nI (i + 1)) (fun y34_2 m77 => (if y34_2 = 0 then fl_X6_round_16 (fun m89 => some ((-1000000 : Int32), m89)) n (nI (i + 1) + 1) m77 else some (nI (i + 1), m77))) 10 1000 0 (by omega) (by omega)
    rw [r_eq10_P h1 (fun q hq hq5 => r_hours_dead ρ ok hq hq5 (i + 1))] at w
    rw [fl_X6_round_16, mm_l200, if_neg (nI_nlt (by omega) (by omega)), mm_l38, mm_l0, a1, mm_bv, r_fd]
    rw [show r_eq10 ρ (r_hours ρ (i + 1)) 0 = true from rfl, if_pos rfl] at w
    refine (show ∃ m', _ = _ ∧ _ from ?_)
    by_cases q : r_eqP ρ (r_hours ρ (i + 1)) (ρ 1) = true
    · rw [if_pos q] at w
      rw [if_pos q]
      refine ⟨m1, w.trans ?_, Fr_m a3 a4⟩
      rw [if_neg n10]; rfl
    · rw [if_neg q] at w
      rw [if_neg q]
      obtain ⟨m', b1, b2⟩ := ih n (i + 1) m1 h4' a2 (by omega) (by omega)
      refine ⟨m', w.trans ?_, (Fr_m a3 a4).trans b2⟩
      rw [if_pos n00, mm_l1, mm_add]
      exact b1
theorem q_round {μ : pw_Mem} (I : Iv μ) : Ok2 (fn_X5_round ) (fn_X6_round ) μ := by
  have I' := I
  obtain ⟨ρ, N, A, G, W, T, U, V⟩ := I
  obtain ⟨B0, B1, B2⟩ := N.b0
  unfold Ok2
  have MR : ∀ m, rd_M m 0 ρ → fn_X6_isRoad m = some (nI (if ρ 0 = 0 then 0 else 1), m) := fun m h => m_isRoad h B0
  rcases N.2.2 with ⟨hs, ok⟩ | ⟨hs, z0, z1, z2⟩
  rotate_left
  · exact ⟨_, μ, μ, by simp only [fn_X5_round, hs, mm_bi, mm_n00, mm_n10, if_true, if_false, ne_eq, not_true_eq_false, not_false_eq_true]; rfl, by simp only [fn_X6_round, MR μ N.2.1, z0, mm_bi, mm_n00, mm_n10, if_true, if_false, ne_eq, not_true_eq_false, not_false_eq_true], I'⟩
  have hz0 : ¬ ρ 0 = 0 := by have := ok.1; omega
  have MR1 : ∀ m, rd_M m 0 ρ → fn_X6_isRoad m = some (nI 1, m) := fun m h => by rw [MR m h, if_neg hz0]
  obtain ⟨m1, a1, a2, a3⟩ := x_foretell N.1 ok hs (D := 0) (by omega)
  obtain ⟨μ1, c1, c2⟩ := x_round_l ok 200 1000 0 m1 (x_other N.1 (fun j hj => a3 _ (by omega))) a2 (by omega) (by omega)
  have F1 : ∀ k, k < 11 ∨ 17 < k → μ1 k = μ k := fun k hk => by rw [c2 k hk, a3 k hk]
  have hM : rd_M μ1 0 ρ := fun i hi => by rw [F1 55 (by omega)]; exact N.2.1 i hi
  obtain ⟨m2, b1, b2, b3, b4⟩ := m_tries hM
  obtain ⟨m3, d1, d2⟩ := m_round_l ok 200 1000 0 m2 (fun i hi => by rw [b4 _ (by omega)]; exact hM i hi) b2 (by omega) (by omega)
  refine ⟨r_fv (r_fd (fun j => r_eqP ρ (r_hours ρ j) (ρ 1)) 200 1), μ1, m3, ?_, ?_, I'.fr ((Fr_x F1).trans ((Fr_m b3 b4).trans d2))⟩
  · simp only [fn_X5_round, hs, mm_bi, mm_n00, mm_n10, if_true, if_false, ne_eq, not_true_eq_false, not_false_eq_true]
    rw [mm_l0, a1, mm_bv, mm_l1, c1]
  · simp only [fn_X6_round, MR1 _ hM, mm_bi, mm_n00, mm_n10, if_true, if_false, ne_eq, not_true_eq_false, not_false_eq_true, b1, mm_bv]
    rw [mm_l1, d1]
