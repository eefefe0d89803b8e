/-! THE MOST of several, the first -/
def mI (M : Nat) : Int32 := nI M - nI 1
theorem mI_0 : (-1 : Int32) = mI 0 := by decide
theorem mI_s (w : Nat) : mI (w + 1) = nI w := by unfold mI; rw [mm_sub (by omega), Nat.add_sub_cancel]
theorem mI_le {w M : Nat} (hw : w < 2147483647) (hM : M < 2147483647) : (nI w ≤ mI M) ↔ w < M := by
  rcases Nat.eq_zero_or_pos M with rfl | h
  · rw [show mI 0 = (-1 : Int32) from mI_0.symm, bw_le, nI_toInt (by omega), show (-1 : Int32).toInt = -1 from by decide]; omega
  · obtain ⟨v, rfl⟩ : ∃ v, M = v + 1 := ⟨M - 1, by omega⟩
    rw [mI_s, nI_leI (by omega) (by omega)]; omega
def r_bst (f : Nat → Nat) : Nat → Nat × Nat
  | 0 => (0, 0)
  | i + 1 => if f i < (r_bst f i).1 then r_bst f i else (f i + 1, i)
theorem r_bst_le {f : Nat → Nat} {B : Nat} (hf : ∀ i, f i ≤ B) : ∀ i, (r_bst f i).1 ≤ B + 1 ∧ (r_bst f i).2 ≤ i
  | 0 => ⟨Nat.zero_le _, Nat.le_refl _⟩
  | i + 1 => by
    have := r_bst_le hf i
    have := hf i
    unfold r_bst
    split
    · exact ⟨by omega, by omega⟩
    · exact ⟨by dsimp only; omega, by dsimp only; omega⟩
theorem r_bst_pos {f : Nat → Nat} : ∀ i, 0 < i → 0 < (r_bst f i).1
  | 0, h => by omega
  | i + 1, _ => by
    unfold r_bst
    split
    · omega
    · dsimp only; omega
def r_bf (ρ : Rd) (p g n s : Nat) : Nat := r_pc (r_hours (upR ρ (19 + p) s) n (29 + g)) 16
theorem x_best_l {ρ : Rd} (ok : rk ρ) {p g D : Nat} (hp : p < ρ 1) (hg : g < ρ 0) (hD : D ≤ 30) (w : Int32) (k : Int32 → Int32 → pw_Mem → Option (Int32 × pw_Mem)) : ∀ (d n i : Nat) (m : pw_Mem), rd_X m 4 ρ → m 4 0 = nI 1 → i + d = ρ 0 → d < n → ∃ m', fl_X5_best_48 k (nI p) (nI g) (nI D) w n (mI (r_bst (r_bf ρ p g D) i).1) (nI (r_bst (r_bf ρ p g D) i).2) (nI i) m = k (mI (r_bst (r_bf ρ p g D) (ρ 0)).1) (nI (r_bst (r_bf ρ p g D) (ρ 0)).2) m' ∧ ∀ k, k < 11 ∨ 17 < k → m' k = m k := by
  intro d
  have h0 := ok.1
  have h1 := ok.2.1
  have hf : ∀ i, r_bf ρ p g D i ≤ 16 := fun i => r_pc_le _ _
  induction d with
  | zero =>
    intro n i m h hs hi hn
    obtain ⟨n, rfl⟩ : ∃ q, n = q + 1 := ⟨n - 1, by omega⟩
    refine ⟨m, ?_, fun _ _ => rfl⟩
    rw [fl_X5_best_48, h.2.2.2.1, if_pos (nI_le (by omega) (by omega)), ← hi, Nat.add_zero]
  | succ d ih =>
    intro n i m h hs hi hn
    obtain ⟨n, rfl⟩ : ∃ q, n = q + 1 := ⟨n - 1, by omega⟩
    obtain ⟨m1, a1, a2, a3, a4⟩ := x_take (o := 11) h (by omega) h1 (by omega) (Or.inr hs)
    have a5 := x_at a2 ok hp i
    have ok5 : rk (upR ρ (19 + p) i) := rk_at ok hp (by omega)
    obtain ⟨m2, b1, b2, b3, b4⟩ := x_goHours a5 ok5 (D := D) (by omega)
    have okh := rk_hours ok5 D
    have l0 : r_hours (upR ρ (19 + p) i) D 0 = ρ 0 := by rw [r_hours_lo _ (by omega), upR_ne _ _ (by omega)]
    have eh := (b2.2.2.2.2.2.1 g (by omega)).2
    have gh := (okh.2.2.2.2.1 g (by omega)).2
    have hpw := r_pow16 okh
    have F : ∀ k, k < 11 ∨ 17 < k → m2 k = m k := fun k hk => by rw [b3 k (by omega), ms_row _ _ (by omega), a4 k (by omega)]
    obtain ⟨m', c1, c2⟩ := ih n (i + 1) m2 (x_other h (fun j hj => F _ (by omega))) (by rw [F 4 (by omega)]; exact hs) (by omega) (by omega)
    have bl := r_bst_le hf i
    have fi := hf i
    rw [r_bst] at c1
    refine ⟨m', ?_, fun k hk => by rw [c2 k hk, F k hk]⟩
    rw [fl_X5_best_48, h.2.2.2.1, if_neg (nI_ge (by omega) (by omega)), a1, mm_bv, mm_ix (by omega) (by omega), b1, mm_bv, mm_ix (by omega) (by omega), eh, j_bitCount (by omega), mm_bi, mm_j2]
    rw [show r_pc (r_hours (upR ρ (19 + p) i) D (29 + g)) 16 = r_bf ρ p g D i from rfl]
    by_cases q : r_bf ρ p g D i < (r_bst (r_bf ρ p g D) i).1
    · rw [if_pos ((mI_le (by omega) (by omega)).mpr q), mm_l1, mm_add]
      rw [if_pos q] at c1
      exact c1
    · rw [if_neg (fun z => q ((mI_le (by omega) (by omega)).mp z)), mm_l1, mm_add]
      rw [if_neg q, mI_s] at c1
      exact c1
theorem m_best_l {ρ : Rd} (ok : rk ρ) {p g D : Nat} (hp : p < ρ 1) (hg : g < ρ 0) (hD : D ≤ 30) (w : Int32) (k : Int32 → Int32 → pw_Mem → Option (Int32 × pw_Mem)) : ∀ (d n i : Nat) (m : pw_Mem), rd_M m 0 ρ → i + d = ρ 0 → d < n → ∃ m', fl_X6_best_51 k (nI p) (nI g) (nI D) w n (nI (r_bst (r_bf ρ p g D) i).2) (mI (r_bst (r_bf ρ p g D) i).1) (nI i) m = k (nI (r_bst (r_bf ρ p g D) (ρ 0)).2) (mI (r_bst (r_bf ρ p g D) (ρ 0)).1) m' ∧ Fr m m' := by
  intro d
  have h0 := ok.1
  have h1 := ok.2.1
  have hf : ∀ i, r_bf ρ p g D i ≤ 16 := fun i => r_pc_le _ _
  induction d with
  | zero =>
    intro n i m h hi hn
    obtain ⟨n, rfl⟩ : ∃ q, n = q + 1 := ⟨n - 1, by omega⟩
    have e0 : m 55 0 = nI (ρ 0) := h 0 (by omega)
    refine ⟨m, ?_, Fr.rfl' m⟩
    rw [fl_X6_best_51, mm_l0, mm_ix (by omega) (by omega), e0, if_pos (nI_le (by omega) (by omega)), ← hi, Nat.add_zero]
  | succ d ih =>
    intro n i m h hi hn
    obtain ⟨n, rfl⟩ : ∃ q, n = q + 1 := ⟨n - 1, by omega⟩
    have e0 : m 55 0 = nI (ρ 0) := h 0 (by omega)
    obtain ⟨m1, a1, a2, a3, a4⟩ := m_tries h
    have a5 := m_up a2 (19 + p) i
    rw [show 38 + (19 + p) = 57 + p by omega] at a5
    have ok5 : rk (upR ρ (19 + p) i) := rk_at ok hp (by omega)
    obtain ⟨m2, b1, b2, b3, b4⟩ := m_goesOn a5 ok5 (D := D) (by omega)
    have okh := rk_hours ok5 D
    have l0 : r_hours (upR ρ (19 + p) i) D 0 = ρ 0 := by rw [r_hours_lo _ (by omega), upR_ne _ _ (by omega)]
    have eh : m2 55 (67 + g) = nI (r_hours (upR ρ (19 + p) i) D (29 + g)) := by have := b2 (29 + g) (by omega); rwa [show 38 + (29 + g) = 67 + g by omega] at this
    have gh := (okh.2.2.2.2.1 g (by omega)).2
    have hpw := r_pow16 okh
    have F : Fr m m2 := (Fr_m a3 a4).trans ((Fr_m (fun j hj => ms_row _ _ hj) (fun j hj => ms_nj _ _ (by omega))).trans (Fr_m b3 b4))
    obtain ⟨m', c1, c2⟩ := ih n (i + 1) m2 (fun j hj => by rw [F.2.2.2 _ (by omega)]; exact h j hj) (by omega) (by omega)
    have bl := r_bst_le hf i
    have fi := hf i
    rw [r_bst] at c1
    refine ⟨m', ?_, F.trans c2⟩
    rw [fl_X6_best_51, mm_l0, mm_ix (by omega) (by omega), e0, if_neg (nI_ge (by omega) (by omega)), a1, mm_bv, mm_l57, mm_l67, mm_add, mm_add, mm_ix (by omega) (by omega), b1, mm_bv, mm_ix (by omega) (by omega), eh, m_ones (by omega), mm_bi, mm_j1]
    rw [show r_pc (r_hours (upR ρ (19 + p) i) D (29 + g)) 16 = r_bf ρ p g D i from rfl]
    by_cases q : r_bf ρ p g D i < (r_bst (r_bf ρ p g D) i).1
    · rw [if_pos ((mI_le (by omega) (by omega)).mpr q)]; dsimp only; rw [mm_j1, if_pos ((mI_le (by omega) (by omega)).mpr q), mm_l1, mm_add]
      rw [if_pos q] at c1
      exact c1
    · rw [if_neg (fun z => q ((mI_le (by omega) (by omega)).mp z))]; dsimp only; rw [mm_j1, if_neg (fun z => q ((mI_le (by omega) (by omega)).mp z)), mm_l1, mm_add]
      rw [if_neg q, mI_s] at c1
      exact c1
theorem q_best {μ : pw_Mem} (I : Iv μ) (a1 a2 a3 a4 : Int32) : Ok2 (fn_X5_best a1 a2 a3 a4) (fn_X6_best a1 a2 a3 a4) μ := by
  have I' := I
  obtain ⟨ρ, N, A, G, W, T, U, V⟩ := I
  obtain ⟨B0, B1, B2⟩ := N.b0
  unfold Ok2
  have Y1 := x_isPulpit N.1 B1 a1
  have Z1 := m_isPulpit N.2.1 B1 a1
  rcases bw_c a1 0 ((ρ 1 : Int) - 1) with b1 | ⟨b1, c1, e1⟩
  · exact ⟨(-1000001 : Int32), μ, μ, by simp only [fn_X5_best, Y1, b1, mm_bi, mm_n00, mm_n10, if_true, if_false, ne_eq, not_true_eq_false, not_false_eq_true], by simp only [fn_X6_best, Z1, b1, mm_bi, mm_n00, mm_n10, if_true, if_false, ne_eq, not_true_eq_false, not_false_eq_true], I'⟩
  clear Y1 Z1
  obtain ⟨j1, rfl, l1, u1, t1⟩ := bw_n c1 e1 (by omega)
  clear c1 e1
  have X1 : fn_X5_isPulpit (nI j1) μ = some (nI 1, μ) := by rw [x_isPulpit N.1 B1, b1]
  have M1 : ∀ m, rd_M m 0 ρ → fn_X6_isPulpit (nI j1) m = some (nI 1, m) := fun m h => by rw [m_isPulpit h B1, b1]
  clear b1
  have Y2 := x_isStretch N.1 B0 a2
  have Z2 := m_isStretch N.2.1 B0 a2
  rcases bw_c a2 0 ((ρ 0 : Int) - 1) with b2 | ⟨b2, c2, e2⟩
  · exact ⟨(-1000001 : Int32), μ, μ, by simp only [fn_X5_best, X1, Y2, b2, mm_bi, mm_n00, mm_n10, if_true, if_false, ne_eq, not_true_eq_false, not_false_eq_true], by simp only [fn_X6_best, M1 μ N.2.1, Z2, b2, mm_bi, mm_n00, mm_n10, if_true, if_false, ne_eq, not_true_eq_false, not_false_eq_true], I'⟩
  clear Y2 Z2
  obtain ⟨j2, rfl, l2, u2, t2⟩ := bw_n c2 e2 (by omega)
  clear c2 e2
  have X2 : fn_X5_isStretch (nI j2) μ = some (nI 1, μ) := by rw [x_isStretch N.1 B0, b2]
  have M2 : ∀ m, rd_M m 0 ρ → fn_X6_isStretch (nI j2) m = some (nI 1, m) := fun m h => by rw [m_isStretch h B0, b2]
  clear b2
  have Y3 := (show fn_X5_isWithin a3 (1 : Int32) (30 : Int32) μ = some (nI (bw a3 1 30), μ) from x_isWithin a3 _ _ μ)
  have Z3 := (show fn_X6_in a3.toInt64 (1 : Int64) (30 : Int64) μ = some (nI (bw a3 1 30), μ) from m_in_nat a3 (lo := 1) (hi := 30) (by omega) (by omega) μ)
  rcases bw_c a3 1 30 with b3 | ⟨b3, c3, e3⟩
  · exact ⟨(-1000001 : Int32), μ, μ, by simp only [fn_X5_best, X1, X2, Y3, b3, mm_bi, mm_n00, mm_n10, if_true, if_false, ne_eq, not_true_eq_false, not_false_eq_true], by simp only [fn_X6_best, M1 μ N.2.1, M2 μ N.2.1, Z3, b3, mm_bi, mm_n00, mm_n10, if_true, if_false, ne_eq, not_true_eq_false, not_false_eq_true], I'⟩
  clear Y3 Z3
  obtain ⟨j3, rfl, l3, u3, t3⟩ := bw_n c3 e3 (by omega)
  clear c3 e3
  have X3 : ∀ m, fn_X5_isWithin (nI j3) (1 : Int32) (30 : Int32) m = some (nI 1, m) := fun m => by rw [(show fn_X5_isWithin _ (1 : Int32) (30 : Int32) m = some (nI (bw _ 1 30), m) from x_isWithin _ _ _ m), b3]
  have M3 : ∀ m, fn_X6_in ((nI j3)).toInt64 (1 : Int64) (30 : Int64) m = some (nI 1, m) := fun m => by rw [(show fn_X6_in _ (1 : Int64) (30 : Int64) m = some (nI (bw _ 1 30), m) from m_in_nat _ (lo := 1) (hi := 30) (by omega) (by omega) m), b3]
  clear b3
  have Y4 := (show fn_X5_isWithin a4 (0 : Int32) (1 : Int32) μ = some (nI (bw a4 0 1), μ) from x_isWithin a4 _ _ μ)
  have Z4 := (show fn_X6_in a4.toInt64 (0 : Int64) (1 : Int64) μ = some (nI (bw a4 0 1), μ) from m_in_nat a4 (lo := 0) (hi := 1) (by omega) (by omega) μ)
  rcases bw_c a4 0 1 with b4 | ⟨b4, c4, e4⟩
  · exact ⟨(-1000001 : Int32), μ, μ, by simp only [fn_X5_best, X1, X2, X3, Y4, b4, mm_bi, mm_n00, mm_n10, if_true, if_false, ne_eq, not_true_eq_false, not_false_eq_true], by simp only [fn_X6_best, M1 μ N.2.1, M2 μ N.2.1, M3, Z4, b4, mm_bi, mm_n00, mm_n10, if_true, if_false, ne_eq, not_true_eq_false, not_false_eq_true], I'⟩
  clear Y4 Z4
  obtain ⟨j4, rfl, l4, u4, t4⟩ := bw_n c4 e4 (by omega)
  clear c4 e4
  have X4 : ∀ m, fn_X5_isWithin (nI j4) (0 : Int32) (1 : Int32) m = some (nI 1, m) := fun m => by rw [(show fn_X5_isWithin _ (0 : Int32) (1 : Int32) m = some (nI (bw _ 0 1), m) from x_isWithin _ _ _ m), b4]
  have M4 : ∀ m, fn_X6_in ((nI j4)).toInt64 (0 : Int64) (1 : Int64) m = some (nI 1, m) := fun m => by rw [(show fn_X6_in _ (0 : Int64) (1 : Int64) m = some (nI (bw _ 0 1), m) from m_in_nat _ (lo := 0) (hi := 1) (by omega) (by omega) m), b4]
  clear b4
  obtain ⟨hs, ok⟩ := N.rk_of (by omega)
  have h0 := ok.1
  obtain ⟨μ1, c1, c2⟩ := x_best_l ok (p := j1) (g := j2) (D := j3) (by omega) (by omega) (by omega) (nI j4) (fun y48_5 y48_6 m125 => (if nI j4 ≠ 0 then some (y48_5, m125) else some (y48_6, m125))) (ρ 0) 1000 0 μ N.1 hs (by omega) (by omega)
  have hM : rd_M μ1 0 ρ := fun i hi => by rw [c2 55 (by omega)]; exact N.2.1 i hi
  obtain ⟨m3, d1, d2⟩ := m_best_l ok (p := j1) (g := j2) (D := j3) (by omega) (by omega) (by omega) (nI j4) (fun y51_5 y51_6 m134 => (if nI j4 ≠ 0 then some (y51_6, m134) else some (y51_5, m134))) (ρ 0) 1000 0 μ1 hM (by omega) (by omega)
  refine ⟨if nI j4 ≠ 0 then mI (r_bst (r_bf ρ j1 j2 j3) (ρ 0)).1 else nI (r_bst (r_bf ρ j1 j2 j3) (ρ 0)).2, μ1, m3, ?_, ?_, I'.fr ((Fr_x c2).trans d2)⟩
  · simp only [fn_X5_best, X1, X2, X3, X4, mm_bi, mm_n10, if_false, ne_eq, not_false_eq_true, if_true]
    rw [mI_0, mm_l0]
    refine c1.trans ?_
    by_cases q : nI j4 = nI 0
    · have q' : nI j4 = (0 : Int32) := q
      simp [q, q', mm_n00]
    · have q' : ¬ nI j4 = (0 : Int32) := q
      simp [q, q']
  · simp only [fn_X6_best, M1 _ hM, M2 _ hM, M3, M4, mm_bi, mm_n10, if_false, ne_eq, not_false_eq_true, if_true]
    rw [mI_0, mm_l0]
    refine d1.trans ?_
    by_cases q : nI j4 = nI 0
    · have q' : nI j4 = (0 : Int32) := q
      simp [q, q', mm_n00]
    · have q' : ¬ nI j4 = (0 : Int32) := q
      simp [q, q']
/-! DRAWN -/
theorem x_w_big (a : Int32) (μ : pw_Mem) : fn_X5_isWithin a (1 : Int32) (999999 : Int32) μ = some (nI (bw a 1 999999), μ) := by
  have e : (999999 : Int32).toInt = ((999999 : Nat) : Int) := nI_toInt (n := 999999) (by omega)
  have e1 : (1 : Int32).toInt = ((1 : Nat) : Int) := nI_toInt (n := 1) (by omega)
  rw [x_isWithin, e, e1]
  rfl
theorem m_w_big (a : Int32) (μ : pw_Mem) : fn_X6_in a.toInt64 (1 : Int64) (999999 : Int64) μ = some (nI (bw a 1 999999), μ) := by
  have e : (999999 : Int64) = (nI 999999).toInt64 := by rw [nI_l (by omega)]; rfl
  have e1 : (1 : Int64) = (nI 1).toInt64 := by rw [nI_l (by omega)]; rfl
  rw [e, e1, m_in_nat a (by omega) (by omega)]
  rfl
def r_dx (x : Nat) : Nat := x * 16807 % 2147483647
def r_dr (ρ : Rd) (x : Nat) : Rd := if x % 3 = 0 ∧ 0 < ρ 1 then upR ρ (19 + x % ρ 1) (x % ρ 0) else ρ
def r_ds (ρ : Rd) (x : Nat) : Nat → Nat × Rd
  | 0 => (x, ρ)
  | i + 1 => (r_dx (r_ds ρ x i).1, r_hour (r_dr (r_ds ρ x i).2 (r_dx (r_ds ρ x i).1)))
theorem rk_dr {ρ : Rd} (ok : rk ρ) (x : Nat) : rk (r_dr ρ x) := by
  have h0 := ok.1
  unfold r_dr
  split
  · rename_i h
    exact rk_at ok (Nat.mod_lt _ h.2) (Nat.mod_lt _ (by omega))
  · exact ok
theorem r_dr_lo (ρ : Rd) (x : Nat) {j : Nat} (h : j < 18) : r_dr ρ x j = ρ j := by
  unfold r_dr
  split
  · rw [upR_ne _ _ (by omega)]
  · rfl
theorem rk_ds {ρ : Rd} (ok : rk ρ) (x : Nat) : ∀ i, rk (r_ds ρ x i).2
  | 0 => ok
  | i + 1 => rk_hourR (rk_dr (rk_ds ok x i) _)
theorem r_ds_lo (ρ : Rd) (x : Nat) {j : Nat} (h : j < 18) : ∀ i, (r_ds ρ x i).2 j = ρ j
  | 0 => rfl
  | i + 1 => by
    show r_hour (r_dr (r_ds ρ x i).2 _) j = ρ j
    rw [r_hour, r_hourS_lo _ _ h, r_dr_lo _ _ h]; exact r_ds_lo ρ x h i
theorem r_ds_lt (ρ : Rd) {x : Nat} (hx : x < 2147483647) : ∀ i, (r_ds ρ x i).1 < 2147483647
  | 0 => hx
  | i + 1 => Nat.mod_lt _ (by omega)
theorem r_dx_lt (x : Nat) : r_dx x < 2147483647 := Nat.mod_lt _ (by omega)
theorem ll_mul (a b : Nat) : lN a * lN b = lN (a * b) := lN_mul a b
theorem ll_rem {a b : Nat} (ha : a < 9223372036854775808) (h0 : 0 < b) (hb : b < 9223372036854775808) : lN a - lN a / lN b * lN b = lN (a % b) := pk_lRem (by omega) h0 (by omega)
theorem ll_nz {R : Type} {a : Nat} {k : Option R} (h : 0 < a) (ha : a < 9223372036854775808) : fn_nzl (lN a) k = k := by
  unfold fn_nzl
  rw [if_neg]
  intro z
  have := (pk_lEQ (a := a) (b := 0) (by omega) (by omega)).mp z
  omega
theorem ll_dx {x : Nat} (hx : x < 2147483647) : lN x * lN 16807 - lN x * lN 16807 / lN 2147483647 * lN 2147483647 = lN (r_dx x) := by
  rw [ll_mul, ll_rem (by omega) (by omega) (by omega)]; rfl
theorem ll_cmp0 {a : Nat} (ha : a < 9223372036854775808) : (lg_cmp (lN a) (lN 0) ≠ 0) ↔ a ≠ 0 := by
  unfold lg_cmp
  by_cases q : a = 0
  · subst q
    rw [if_neg (by decide), if_pos rfl]; simp
  · rw [if_pos (show lN a > lN 0 from (pk_lLT (by omega) (by omega)).mpr (by omega))]
    simp [q]
theorem x_putByDraw {μ : pw_Mem} {ρ : Rd} (h : rd_X μ 11 ρ) (ok : rk ρ) {x : Nat} (hx : x < 2147483647) : ∃ μ', fn_X5_putByDraw (lN x) μ = some μ' ∧ rd_X μ' 11 (r_dr ρ x) ∧ ∀ k, k ≠ 15 → μ' k = μ k := by
  have h0 := ok.1
  have h1 := ok.2.1
  have m3 : x % 3 < 3 := Nat.mod_lt _ (by omega)
  unfold fn_X5_putByDraw r_dr
  rw [show (3 : Int64) = lN 3 from rfl, ll_nz (by omega) (by omega), ll_rem (by omega) (by omega) (by omega), show (0 : Int64) = lN 0 from rfl, h.2.2.2.1, h.2.2.2.2.1]
  by_cases q : x % 3 = 0
  · rw [if_neg (fun z => (ll_cmp0 (by omega)).mp z q)]
    by_cases q1 : ρ 1 = 0
    · rw [q1, if_pos (by decide), if_neg (by omega)]
      exact ⟨μ, rfl, h, fun _ _ => rfl⟩
    · have mp : x % ρ 1 < ρ 1 := Nat.mod_lt _ (by omega)
      have ms : x % ρ 0 < ρ 0 := Nat.mod_lt _ (by omega)
      rw [if_neg (nI_nle (by omega) (by omega)), if_neg (nI_nle (by omega) (by omega)), nI_l (by omega), nI_l (by omega), ll_nz (by omega) (by omega), ll_nz (by omega) (by omega), ll_rem (by omega) (by omega) (by omega), ll_rem (by omega) (by omega) (by omega), lN_i, lN_i, mm_ix (by omega) (by omega), if_pos ⟨q, by omega⟩]
      exact ⟨_, rfl, x_at h ok mp _, fun k hk => ms_row _ _ hk⟩
  · rw [if_pos ((ll_cmp0 (by omega)).mpr q), if_neg (by omega)]
    exact ⟨μ, rfl, h, fun _ _ => rfl⟩
theorem x_drawn_l {ρ : Rd} (ok : rk ρ) {x D : Nat} (hx : x < 2147483647) (hD : D ≤ 60) (w : Int32) (k : pw_Mem → Option (Int32 × pw_Mem)) : ∀ (d n i : Nat) (m : pw_Mem), rd_X m 11 (r_ds ρ x i).2 → i + d = D → d < n → ∃ m', fl_X5_drawn_57 k (nI D) w n (lN (r_ds ρ x i).1) (nI i) m = k m' ∧ rd_X m' 11 (r_ds ρ x D).2 ∧ ∀ k, k < 11 ∨ 17 < k → m' k = m k := by
  intro d
  induction d with
  | zero =>
    intro n i m h hi hn
    obtain ⟨n, rfl⟩ : ∃ q, n = q + 1 := ⟨n - 1, by omega⟩
    refine ⟨m, ?_, by rw [← hi]; exact h, fun _ _ => rfl⟩
    rw [fl_X5_drawn_57, if_pos (nI_le (by omega) (by omega))]
  | succ d ih =>
    intro n i m h hi hn
    obtain ⟨n, rfl⟩ : ∃ q, n = q + 1 := ⟨n - 1, by omega⟩
    have hxi := r_ds_lt ρ hx i
    obtain ⟨m1, a1, a2, a3⟩ := x_putByDraw h (rk_ds ok x i) (r_dx_lt (r_ds ρ x i).1)
    obtain ⟨m2, b1, b2, b3, -, -⟩ := x_goHour a2 (rk_dr (rk_ds ok x i) _)
    obtain ⟨m', c1, c2, c3⟩ := ih n (i + 1) m2 b2 (by omega) (by omega)
    refine ⟨m', ?_, c2, fun k hk => by rw [c3 k hk, b3 k (by omega), a3 k (by omega)]⟩
    rw [fl_X5_drawn_57, if_neg (nI_ge (by omega) (by omega)), show (2147483647 : Int64) = lN 2147483647 from rfl, show (16807 : Int64) = lN 16807 from rfl, ll_nz (by omega) (by omega), ll_dx hxi, a1, mm_bv, b1, mm_bv, mm_l1, mm_add]
    exact c1
theorem m_drawn_l {ρ : Rd} (ok : rk ρ) {x D : Nat} (hx : x < 2147483647) (hD : D ≤ 60) (w : Int32) (k : pw_Mem → Option (Int32 × pw_Mem)) : ∀ (d n i : Nat) (m : pw_Mem), rd_M m 0 ρ → rd_M m 38 (r_ds ρ x i).2 → i + d = D → d < n → ∃ m', fl_X6_drawn_58 k (nI D) w n (lN (r_ds ρ x i).1) (nI i) m = k m' ∧ rd_M m' 38 (r_ds ρ x D).2 ∧ Fr m m' := by
  intro d
  have h0 := ok.1
  have h1 := ok.2.1
  induction d with
  | zero =>
    intro n i m g h hi hn
    obtain ⟨n, rfl⟩ : ∃ q, n = q + 1 := ⟨n - 1, by omega⟩
    refine ⟨m, ?_, by rw [← hi]; exact h, Fr.rfl' m⟩
    rw [fl_X6_drawn_58, if_pos (nI_le (by omega) (by omega))]
  | succ d ih =>
    intro n i m g h hi hn
    obtain ⟨n, rfl⟩ : ∃ q, n = q + 1 := ⟨n - 1, by omega⟩
    have hxi := r_ds_lt ρ hx i
    have hxd := r_dx_lt (r_ds ρ x i).1
    have e1 : m 55 1 = nI (ρ 1) := g 1 (by omega)
    have e0 : m 55 0 = nI (ρ 0) := g 0 (by omega)
    have l1 : (r_ds ρ x i).2 1 = ρ 1 := r_ds_lo ρ x (by omega) i
    have l0 : (r_ds ρ x i).2 0 = ρ 0 := r_ds_lo ρ x (by omega) i
    -- the way on from a memory that holds the drawn road
    have go : ∀ M : pw_Mem, rd_M M 38 (r_dr (r_ds ρ x i).2 (r_dx (r_ds ρ x i).1)) → rd_M M 0 ρ → Fr m M → ∃ m', (fn_bv (fn_X6_hourBy (nI 38) (nI 0) M) (fun m130 => fl_X6_drawn_58 k (nI D) w n (lN (r_dx (r_ds ρ x i).1)) (nI (i + 1)) m130)) = k m' ∧ rd_M m' 38 (r_ds ρ x D).2 ∧ Fr m m' := by
      intro M hM hM0 hF
      obtain ⟨m2, b1, b2, b3, b4⟩ := m_hour hM (rk_dr (rk_ds ok x i) _) (by omega)
      obtain ⟨m', c1, c2, c3⟩ := ih n (i + 1) m2 (fun j hj => by rw [b4 _ (by omega)]; exact hM0 j hj) b2 (by omega) (by omega)
      rw [b1, mm_bv]
      exact ⟨m', c1, c2, hF.trans ((Fr_m b3 b4).trans c3)⟩
    have m3 : r_dx (r_ds ρ x i).1 % 3 < 3 := Nat.mod_lt _ (by omega)
    rw [fl_X6_drawn_58, if_neg (nI_ge (by omega) (by omega)), show (2147483647 : Int64) = lN 2147483647 from rfl, show (16807 : Int64) = lN 16807 from rfl, ll_nz (by omega) (by omega), ll_dx hxi, mm_l1, mm_l38, mm_l0, mm_l57, mm_add, mm_ix (by omega) (by omega), e1, mm_j0]
    generalize hX : r_dx (r_ds ρ x i).1 = X at *
    by_cases q1 : ρ 1 = 0
    · rw [q1, if_pos (by decide)]
      refine go m ?_ g (Fr.rfl' m)
      unfold r_dr; rw [if_neg (by omega)]; exact h
    · rw [if_neg (nI_ge (by omega) (by omega)), show (3 : Int64) = lN 3 from rfl, ll_nz (by omega) (by omega), ll_rem (by omega) (by omega) (by omega), show (0 : Int64) = lN 0 from rfl]
      by_cases q : X % 3 = 0
      · have mp : X % ρ 1 < ρ 1 := Nat.mod_lt _ (by omega)
        rw [if_neg (show ¬ (lg_cmp (lN (X % 3)) (lN 0) ≠ nI 0) from fun z => (ll_cmp0 (by omega)).mp z q), mm_ix (by omega) (by omega), e1, nI_l (by omega), ll_nz (by omega) (by omega), mm_ix (by omega) (by omega), e0, nI_l (by omega), ll_nz (by omega) (by omega), ll_rem (by omega) (by omega) (by omega), ll_rem (by omega) (by omega) (by omega), lN_i, lN_i, mm_add, mm_ix (by omega) (by omega)]
        refine go _ ?_ (fun j hj => by rw [ms_nj _ _ (by omega)]; exact g j hj) (Fr_m (fun j hj => ms_row _ _ hj) (fun j hj => ms_nj _ _ (by omega)))
        unfold r_dr
        rw [if_pos ⟨q, by omega⟩, l1, l0]
        have := m_up h (19 + X % ρ 1) (X % ρ 0)
        rwa [show 38 + (19 + X % ρ 1) = 57 + X % ρ 1 by omega] at this
      · rw [if_pos (show lg_cmp (lN (X % 3)) (lN 0) ≠ nI 0 from (ll_cmp0 (by omega)).mpr q)]
        refine go m ?_ g (Fr.rfl' m)
        unfold r_dr; rw [if_neg (by omega)]; exact h
