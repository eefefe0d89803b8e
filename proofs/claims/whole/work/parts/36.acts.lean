theorem q_hours {μ : pw_Mem} (I : Iv μ) (a : Int32) : Ok2 (fn_X5_hours a) (fn_X6_hours a) μ := by
  have I' := I
  obtain ⟨ρ, N, A, G, W, T, U, V⟩ := I
  obtain ⟨B0, B1, B2⟩ := N.b0
  unfold Ok2
  have MR : ∀ m, rd_M m 0 ρ → fn_X6_isRoad m = some (nI (if ρ 0 = 0 then 0 else 1), m) := fun m h => m_isRoad h B0
  rcases N.2.2 with ⟨hs, ok⟩ | ⟨hs, z0, z1, z2⟩
  rotate_left
  · exact ⟨(-1000002 : Int32), μ, μ, by simp only [fn_X5_hours, hs, mm_bi, mm_n00, mm_n10, if_true, if_false, ne_eq, not_true_eq_false, not_false_eq_true], by simp only [fn_X6_hours, MR μ N.2.1, z0, mm_bi, mm_n00, mm_n10, if_true, if_false, ne_eq, not_true_eq_false, not_false_eq_true], I'⟩
  have hz0 : ¬ ρ 0 = 0 := by have := ok.1; omega
  have MR1 : ∀ m, rd_M m 0 ρ → fn_X6_isRoad m = some (nI 1, m) := fun m h => by rw [MR m h, if_neg hz0]
  have MI : ∀ m, fn_X6_in a.toInt64 (1 : Int64) (24 : Int64) m = some (nI (bw a 1 24), m) := fun m => m_in_nat a (lo := 1) (hi := 24) (by omega) (by omega) m
  have o1 : (1 : Int32).toInt = 1 := rfl
  have o24 : (24 : Int32).toInt = 24 := rfl
  rcases bw_c a 1 24 with b | ⟨b, c, d⟩
  · refine ⟨(-1000001 : Int32), μ, μ, ?_, by simp only [fn_X6_hours, MR1 μ N.2.1, MI, b, mm_bi, mm_n00, mm_n10, if_true, if_false, ne_eq, not_true_eq_false, not_false_eq_true], I'⟩
    simp only [fn_X5_hours, hs, mm_bi, mm_n00, mm_n10, if_true, if_false, ne_eq, not_true_eq_false, not_false_eq_true]
    by_cases q : a < 1
    · rw [if_pos q]
    · rw [if_neg q, if_neg]
      intro z
      unfold bw at b
      rw [bw_lt, o1] at q
      rw [bw_le, o24] at z
      rw [if_pos ⟨by omega, z⟩] at b
      cases b
  obtain ⟨D, rfl, l, u, s⟩ := bw_n c d (by omega)
  have e18 : μ 55 18 = nI (ρ 18) := N.2.1 18 (by omega)
  have i18 : ∀ k : Nat → Option (Int32 × pw_Mem), fn_ix (18 : Int32) 670 k = k 18 := fun k => by rw [mm_l18, mm_ix (by omega) (by omega)]
  have c1 : (nI D < (1 : Int32)) = False := eq_false (by rw [mm_l1]; exact nI_nlt (by omega) (by omega))
  have c2 : (nI D ≤ (24 : Int32)) = True := eq_true (by rw [mm_l24]; exact nI_le (by omega) (by omega))
  by_cases f : nI (ρ 18) + nI D ≤ (9999 : Int32)
  rotate_left
  · exact ⟨(-1000003 : Int32), μ, μ, by simp only [fn_X5_hours, hs, mm_bi, mm_n00, mm_n10, if_true, if_false, ne_eq, not_true_eq_false, not_false_eq_true, c1, c2, N.1.2.2.1, f], by simp only [fn_X6_hours, MR1 μ N.2.1, MI, b, mm_bi, mm_n00, mm_n10, if_true, if_false, ne_eq, not_true_eq_false, not_false_eq_true, i18, e18, f], I'⟩
  obtain ⟨kept, h, hk, -, AX, AM, AV⟩ := A
  obtain ⟨μ1, x1, x2, x3, x4, x5⟩ := x_hours_l ok hk (h := h) (D := D) (by omega) (fun m76 => fn_bi (fn_X2_wholeGates 4 m76) (fun r80 m80 => some (r80, m80))) D 1000 0 μ N.1 AX (by omega) (by omega)
  have hM : rd_M μ1 0 ρ := fun i hi => by rw [x4 55 (by omega) (by omega) (by omega)]; exact N.2.1 i hi
  have e18' : μ1 55 18 = nI (ρ 18) := hM 18 (by omega)
  obtain ⟨μ2, y1, y2, y3, y4, y5, y6⟩ := m_hours_l ok hk (h := h) (D := D) (by omega) (fun m66 => fn_bi (fn_X6_wholeOnes (nI 0) m66) (fun r68 m68 => some (r68, m68))) D 1000 0 μ1 hM (AM.same (by rw [x4 54 (by omega) (by omega) (by omega)]) (fun i _ => by rw [x4 55 (by omega) (by omega) (by omega)])) (by omega) (by omega)
  have okh := rk_hours ok D
  have l0 : r_hours ρ D 0 = ρ 0 := r_hours_lo ρ (by omega) D
  have l1 : r_hours ρ D 1 = ρ 1 := r_hours_lo ρ (by omega) D
  have l2 : r_hours ρ D 2 = ρ 2 := r_hours_lo ρ (by omega) D
  refine ⟨nI (r_wg (r_hours ρ D) (r_hours ρ D 0)), μ1, μ2, ?_, ?_, ?_⟩
  · simp only [fn_X5_hours, hs, mm_bi, mm_n00, mm_n10, if_true, if_false, ne_eq, not_true_eq_false, not_false_eq_true, c1, c2, N.1.2.2.1, f]
    rw [mm_l0, x1, x_wholeGates x2 okh, mm_bi]
  · simp only [fn_X6_hours, MR1 _ hM, MI, b, mm_bi, mm_n00, mm_n10, if_true, if_false, ne_eq, not_true_eq_false, not_false_eq_true, i18, e18', f]
    rw [mm_l0, y1, m_wholeOnes y2 okh (by omega), mm_bi]
  · refine Iv_after G W T U V (x_other x2 (fun j hj => y4 _ (by omega) (by omega))) y2 (by rw [y4 4 (by omega) (by omega), x5]; exact hs) okh (kS_le hk D) ?_ y3 (fun k hk2 => aV_to (hS_v ok hk AV D k hk2) l0 l1 l2) (fun k a1 a2 a3 a4 a5 => by rw [y4 k a4 a5, x4 k a1 a2 a3]) (fun j hj => by rw [y5 j hj, x4 54 (by omega) (by omega) (by omega)]) (fun i h1 h2 => by rw [y6 i h1 h2, x4 55 (by omega) (by omega) (by omega)])
    rw [l0, l1]
    exact x3.same (y4 20 (by omega) (by omega)) (y4 21 (by omega) (by omega))
/-! UNDO -/
def r_ud (ρ τ : Rd) : Rd := fun i => if i < 18 then ρ i else τ i
theorem r_ud_lo (ρ τ : Rd) {i : Nat} (h : i < 18) : r_ud ρ τ i = ρ i := if_pos h
theorem r_ud_hi (ρ τ : Rd) {i : Nat} (h : 18 ≤ i) : r_ud ρ τ i = τ i := if_neg (by omega)
theorem rk_ud {ρ τ : Rd} (ok : rk ρ) (v : aV ρ τ) : rk (r_ud ρ τ) := by
  obtain ⟨h0, h1, h2, h3, h4, h5⟩ := ok
  unfold rk
  rw [r_ud_lo ρ τ (show 0 < 18 by omega), r_ud_lo ρ τ (show 1 < 18 by omega), r_ud_lo ρ τ (show 2 < 18 by omega), r_ud_lo ρ τ (show 3 < 18 by omega)]
  refine ⟨h0, h1, h2, h3, fun s hs => ⟨?_, ?_⟩, fun p hp => ⟨?_, ?_, ?_⟩⟩
  · rw [r_ud_lo ρ τ (by omega)]; exact (h4 s hs).1
  · rw [r_ud_hi ρ τ (by omega)]; exact v.1 s hs
  · rw [r_ud_lo ρ τ (by omega)]; exact (h5 p hp).1
  · rw [r_ud_hi ρ τ (by omega)]; exact (v.2 p hp).1
  · rw [r_ud_hi ρ τ (by omega)]; exact (v.2 p hp).2
theorem x_gb_l1 {b : Nat} (hb : b + 9 ≤ 480) (k : Int32 → pw_Mem → Option pw_Mem) : ∀ (d n i : Nat) (m : pw_Mem), i + d = 9 → d < n → ∃ m', fl_X0_giveBack_55 k 4 n (nI (b + i)) (nI i) m = k (nI (b + 9)) m' ∧ (∀ j, j ≠ 6 → m' j = m j) ∧ (∀ s, s < i → m' 6 s = m 6 s) ∧ ∀ s, i ≤ s → s < 9 → m' 6 s = m 21 (b + s) := by
  intro d
  induction d with
  | zero =>
    intro n i m hi hn
    obtain ⟨n, rfl⟩ : ∃ q, n = q + 1 := ⟨n - 1, by omega⟩
    refine ⟨m, ?_, fun _ _ => rfl, fun _ _ => rfl, fun s h1 h2 => by omega⟩
    rw [fl_X0_giveBack_55, mm_l9, if_pos (nI_le (by omega) (by omega)), show i = 9 by omega]
  | succ d ih =>
    intro n i m hi hn
    obtain ⟨n, rfl⟩ : ∃ q, n = q + 1 := ⟨n - 1, by omega⟩
    obtain ⟨m', a1, a2, a3, a4⟩ := ih n (i + 1) (pw_st m (4 + 2) i (m 21 (b + i))) (by omega) (by omega)
    refine ⟨m', ?_, fun j hj => by rw [a2 j hj, ms_row _ _ (by omega)], fun s hs => by rw [a3 s (by omega), ms_nj _ _ (by omega)], fun s h1 h2 => ?_⟩
    · rw [fl_X0_giveBack_55, mm_l9, if_neg (nI_ge (by omega) (by omega)), mm_ix (by omega) (by omega), mm_ix (by omega) (by omega), mm_l1, mm_add, mm_add]
      exact a1
    · by_cases q : s = i
      · subst q; rw [a3 _ (by omega)]; exact ms_eq _ _ _ _
      · rw [a4 s (by omega) h2, ms_row _ _ (by omega)]
theorem x_gb_l2 {b : Nat} (hb : b + 10 ≤ 480) (k : pw_Mem → Option pw_Mem) : ∀ (d n i : Nat) (m : pw_Mem), i + d = 5 → d < n → ∃ m', fl_X0_giveBack_84 k 4 n (nI (b + 2 * i)) (nI i) m = k m' ∧ (∀ j, j ≠ 8 → j ≠ 9 → m' j = m j) ∧ (∀ s, s < i → m' 8 s = m 8 s ∧ m' 9 s = m 9 s) ∧ ∀ s, i ≤ s → s < 5 → m' 8 s = m 21 (b + 2 * s) ∧ m' 9 s = m 21 (b + 2 * s + 1) := by
  intro d
  induction d with
  | zero =>
    intro n i m hi hn
    obtain ⟨n, rfl⟩ : ∃ q, n = q + 1 := ⟨n - 1, by omega⟩
    refine ⟨m, ?_, fun _ _ _ => rfl, fun _ _ => ⟨rfl, rfl⟩, fun s h1 h2 => by omega⟩
    rw [fl_X0_giveBack_84, mm_l5, if_pos (nI_le (by omega) (by omega))]
  | succ d ih =>
    intro n i m hi hn
    obtain ⟨n, rfl⟩ : ∃ q, n = q + 1 := ⟨n - 1, by omega⟩
    obtain ⟨m', a1, a2, a3, a4⟩ := ih n (i + 1) (pw_st (pw_st m (4 + 4) i (m 21 (b + 2 * i))) (4 + 5) i ((pw_st m (4 + 4) i (m 21 (b + 2 * i))) 21 (b + 2 * i + 1))) (by omega) (by omega)
    refine ⟨m', ?_, fun j h1 h2 => by rw [a2 j h1 h2, ms_row _ _ (by omega), ms_row _ _ (by omega)], fun s hs => ?_, fun s h1 h2 => ?_⟩
    · rw [fl_X0_giveBack_84, mm_l5, if_neg (nI_ge (by omega) (by omega)), mm_l1, mm_add, mm_add, mm_add, mm_ix (by omega) (by omega), mm_ix (by omega) (by omega), mm_ix (by omega) (by omega), mm_ix (by omega) (by omega)]
      rw [show b + 2 * (i + 1) = b + 2 * i + 1 + 1 by omega] at a1
      exact a1
    · have := a3 s (by omega)
      rw [this.1, this.2, ms_nj _ _ (by omega), ms_nj _ _ (by omega), ms_nj _ _ (by omega), ms_nj _ _ (by omega)]
      exact ⟨rfl, rfl⟩
    · by_cases q : s = i
      · subst q
        have := a3 s (by omega)
        rw [this.1, this.2]
        refine ⟨?_, ?_⟩
        · rw [ms_row _ _ (by omega)]; exact ms_eq _ _ _ _
        · refine (ms_eq _ _ _ _).trans ?_
          rw [ms_row _ _ (by omega)]
      · have := a4 s (by omega) h2
        rw [this.1, this.2, ms_row _ _ (by omega), ms_row _ _ (by omega)]
        exact ⟨rfl, rfl⟩
theorem x_giveBack {μ : pw_Mem} {ρ : Rd} {kept : Nat} {h : Nat → Rd} (N : rd_X μ 4 ρ) (ok : rk ρ) (hk : kept < 24) (A : acX μ (ρ 0) (ρ 1) (kept + 1) h) : ∃ μ', fn_X0_giveBack 4 μ = some μ' ∧ rd_X μ' 4 (r_ud ρ (h kept)) ∧ acX μ' (ρ 0) (ρ 1) kept h ∧ (∀ j, (j < 4 ∨ 9 < j) → j ≠ 20 → μ' j = μ j) ∧ μ' 4 0 = μ 4 0 := by
  have h0 := ok.1
  have h1 := ok.2.1
  obtain ⟨e, e1, e2, e3, e4⟩ := A
  have main : ∀ E : Nat, E < 24 → E = (e + 23) % 24 → ∃ μ', (fn_ix (((pw_st (pw_st μ 20 2 (nI E)) 20 1 (((pw_st μ 20 2 (nI E)) 20 1) - (1 : Int32))) 20 2) * (20 : Int32)) 480 (fun j49 => fl_X0_giveBack_55 (fun y55_2 m82 => fl_X0_giveBack_84 (fun m125 => some m125) 4 1000 y55_2 (0 : Int32) m82) 4 1000 ((((pw_st (pw_st μ 20 2 (nI E)) 20 1 (((pw_st μ 20 2 (nI E)) 20 1) - (1 : Int32))) 20 2) * (20 : Int32)) + 1) (0 : Int32) (pw_st (pw_st (pw_st μ 20 2 (nI E)) 20 1 (((pw_st μ 20 2 (nI E)) 20 1) - (1 : Int32))) 4 3 ((pw_st (pw_st μ 20 2 (nI E)) 20 1 (((pw_st μ 20 2 (nI E)) 20 1) - (1 : Int32))) 21 j49)))) = some μ' ∧ rd_X μ' 4 (r_ud ρ (h kept)) ∧ acX μ' (ρ 0) (ρ 1) kept h ∧ (∀ j, (j < 4 ∨ 9 < j) → j ≠ 20 → μ' j = μ j) ∧ μ' 4 0 = μ 4 0 := by
    intro E hE hE2
    have hold := e4 kept (by omega)
    rw [show (e + 24 - (kept + 1) + kept) % 24 = E by omega] at hold
    obtain ⟨o1, o2, o3⟩ := hold
    rw [ms_nj μ (nI E) (show 1 ≠ 2 by omega), e2, mm_l1, mm_sub (by omega), Nat.add_sub_cancel]
    generalize hM : pw_st (pw_st μ 20 2 (nI E)) 20 1 (nI kept) = M
    have r1 : M 20 1 = nI kept := by rw [← hM, ms_eq]
    have r2 : M 20 2 = nI E := by rw [← hM, ms_nj _ _ (by omega), ms_eq]
    have r3 : ∀ j, j ≠ 20 → M j = μ j := fun j hj => by rw [← hM, ms_row _ _ hj, ms_row _ _ hj]
    clear hM
    obtain ⟨m1, a1, a2, -, a4⟩ := x_gb_l1 (b := 20 * E + 1) (by omega) (fun y55_2 m82 => fl_X0_giveBack_84 (fun m125 => some m125) 4 1000 y55_2 (nI 0) m82) 9 1000 0 (pw_st M 4 3 (M 21 (20 * E))) (by omega) (by omega)
    obtain ⟨m2, b1, b2, -, b4⟩ := x_gb_l2 (b := 20 * E + 1 + 9) (by omega) (fun m125 => some m125) 5 1000 0 m1 (by omega) (by omega)
    have row21 : m1 21 = μ 21 := by rw [a2 21 (by omega), ms_row _ _ (by omega), r3 21 (by omega)]
    have row4 : ∀ j, j ≠ 3 → m2 4 j = μ 4 j := fun j hj => by rw [b2 4 (by omega) (by omega), a2 4 (by omega), ms_nj _ _ hj, r3 4 (by omega)]
    refine ⟨m2, ?_, ?_, ?_, fun j hj h20 => by rw [b2 j (by omega) (by omega), a2 j (by omega), ms_row _ _ (by omega), r3 j h20], row4 0 (by omega)⟩
    · rw [r2, mm_l20, mm_mul, mm_ix (by omega) (by omega), show E * 20 = 20 * E by omega, mm_l0, mm_add]
      exact a1.trans b1
    · obtain ⟨c1, c2, c3, c4, c5, c6, c7⟩ := N
      unfold rd_X
      rw [r_ud_lo ρ _ (show 0 < 18 by omega), r_ud_lo ρ _ (show 1 < 18 by omega), r_ud_lo ρ _ (show 2 < 18 by omega), r_ud_lo ρ _ (show 3 < 18 by omega), r_ud_hi ρ _ (show 18 ≤ 18 by omega)]
      refine ⟨by rw [row4 1 (by omega)]; exact c1, by rw [row4 2 (by omega)]; exact c2, ?_, by rw [row4 4 (by omega)]; exact c4, by rw [row4 5 (by omega)]; exact c5, fun s hs => ⟨?_, ?_⟩, fun p hp => ⟨?_, ?_, ?_⟩⟩
      · rw [b2 4 (by omega) (by omega), a2 4 (by omega), ms_eq, r3 21 (by omega)]; exact o1
      · rw [b2 _ (by omega) (by omega), a2 _ (by omega), ms_row _ _ (by omega), r3 _ (by omega), r_ud_lo ρ _ (by omega)]; exact (c6 s hs).1
      · rw [b2 _ (by omega) (by omega), show m1 (4 + 2) s = _ from a4 s (by omega) (by omega), ms_row _ _ (by omega), r3 21 (by omega), r_ud_hi ρ _ (by omega)]; exact o2 s hs
      · rw [b2 _ (by omega) (by omega), a2 _ (by omega), ms_row _ _ (by omega), r3 _ (by omega), r_ud_lo ρ _ (by omega)]; exact (c7 p hp).1
      · have q := (b4 p (by omega) (by omega)).1
        rw [show m2 (4 + 4) p = _ from q, row21, r_ud_hi ρ _ (by omega), show 20 * E + 1 + 9 + 2 * p = 20 * E + 10 + 2 * p by omega]; exact (o3 p hp).1
      · have q := (b4 p (by omega) (by omega)).2
        rw [show m2 (4 + 5) p = _ from q, row21, r_ud_hi ρ _ (by omega), show 20 * E + 1 + 9 + 2 * p + 1 = 20 * E + 11 + 2 * p by omega]; exact (o3 p hp).2
    · refine ⟨E, hE, by rw [b2 20 (by omega) (by omega), a2 20 (by omega), ms_row _ _ (by omega)]; exact r1, by rw [b2 20 (by omega) (by omega), a2 20 (by omega), ms_row _ _ (by omega)]; exact r2, fun k hk2 => ?_⟩
      have := e4 k (by omega)
      rw [show (e + 24 - (kept + 1) + k) % 24 = (E + 24 - kept + k) % 24 by omega] at this
      exact aX_same (by omega) h1 this (fun x _ _ => by rw [b2 21 (by omega) (by omega), row21])
  unfold fn_X0_giveBack
  rw [mm_j1, e3]
  by_cases q : e = 0
  · rw [q, if_pos (by decide)]
    dsimp only
    rw [mm_l23]
    exact main 23 (by omega) (by omega)
  · rw [if_neg (nI_nle (by omega) (by omega))]
    dsimp only
    have := main (e - 1) (by omega) (by omega)
    rw [show nI e - (1 : Int32) = nI (e - 1) from by rw [mm_l1, mm_sub (by omega)]]
    exact this
theorem q_undo {μ : pw_Mem} (I : Iv μ) : Ok2 fn_X5_undo fn_X6_undo μ := by
  have I' := I
  obtain ⟨ρ, N, ⟨kept, h, hk, hr, AX, AM, AV⟩, G, W, T, U, V⟩ := I
  have k1 : μ 20 1 = nI kept := by obtain ⟨e, -, q, -⟩ := AX; exact q
  have k2 : μ 54 1 = nI kept := AM.1
  unfold Ok2
  rcases Nat.eq_zero_or_pos kept with z | z
  · subst z
    exact ⟨(-1000002 : Int32), μ, μ, by simp only [fn_X5_undo, k1, mm_bi, mm_n00, mm_n10, if_true, if_false, ne_eq, not_true_eq_false, not_false_eq_true], by simp only [fn_X6_undo, k2, mm_bi, mm_n00, mm_n10, if_true, if_false, ne_eq, not_true_eq_false, not_false_eq_true], I'⟩
  have ok := hr z
  have hs := (N.rk_of (by have := ok.1; omega)).1
  obtain ⟨kept, rfl⟩ : ∃ q, kept = q + 1 := ⟨kept - 1, by omega⟩
  obtain ⟨μ1, x1, x2, x3, x4, x5⟩ := x_giveBack N.1 ok (by omega) AX
  have AM1 : acM μ1 (kept + 1) h := AM.same (by rw [x4 54 (by omega) (by omega)]) (fun i _ => by rw [x4 55 (by omega) (by omega)])
  obtain ⟨m2, b1, b2, b3, b4⟩ := m_copyOf (a := 190 + 20 * kept) (b := 18) (N := 20) (by omega) (by omega) (by omega) (pw_st μ1 54 1 (nI kept))
  have ne : ¬ nI (kept + 1) = (0 : Int32) := nI_ne0 (by omega) (by omega)
  have av := AV kept (by omega)
  have k3 : μ1 20 1 = nI kept := by obtain ⟨e, -, q, -⟩ := x3; exact q
  refine ⟨nI kept, μ1, m2, ?_, ?_, ?_⟩
  · simp only [fn_X5_undo, k1, ne, ne_eq, not_false_eq_true, if_true]
    rw [x1, mm_bv, k3]
  · simp only [fn_X6_undo, AM1.1, ne, ne_eq, not_false_eq_true, if_true]
    rw [mm_l1, mm_sub (by omega), Nat.add_sub_cancel, ms_eq, mm_l190, mm_l20, mm_l18, mm_mul, mm_add, b1, mm_bv, b2 54 (by omega), ms_eq]
  · refine Iv_after (kept := kept) (h := h) G W T U V (x_other x2 (fun j hj => by rw [b2 _ (by omega), ms_row _ _ (by omega)])) (fun i hi => ?_) (by rw [b2 4 (by omega), ms_row _ _ (by omega), x5]; exact hs) (rk_ud ok av) (by omega) ?_ ?_ (fun k hk2 => aV_to (AV k (by omega)) (r_ud_lo _ _ (by omega)) (r_ud_lo _ _ (by omega)) (r_ud_lo _ _ (by omega))) (fun k a1 a2 a3 a4 a5 => by rw [b2 k a5, ms_row _ _ a4, x4 k (by omega) a2]) (fun j hj => by rw [b2 54 (by omega), ms_nj _ _ hj, x4 54 (by omega) (by omega)]) (fun i h1 h2 => by rw [b3 i (by omega), ms_row _ _ (by omega), x4 55 (by omega) (by omega)])
    · rw [Nat.zero_add]
      by_cases q : i < 18
      · rw [b3 i (by omega), ms_row _ _ (by omega), x4 55 (by omega) (by omega), r_ud_lo _ _ q]
        have := N.2.1 i hi
        rwa [Nat.zero_add] at this
      · obtain ⟨j, rfl⟩ : ∃ j, i = 18 + j := ⟨i - 18, by omega⟩
        rw [b4 j (by omega), ms_row _ _ (by omega), r_ud_hi _ _ (by omega)]
        exact AM1.2 kept (by omega) j (by omega)
    · rw [r_ud_lo ρ _ (show 0 < 18 by omega), r_ud_lo ρ _ (show 1 < 18 by omega)]
      exact x3.same (by rw [b2 20 (by omega), ms_row _ _ (by omega)]) (by rw [b2 21 (by omega), ms_row _ _ (by omega)])
    · exact ⟨by rw [b2 54 (by omega), ms_eq], fun k hk2 i hi => by rw [b3 _ (by omega), ms_row _ _ (by omega)]; exact AM1.2 k (by omega) i hi⟩
