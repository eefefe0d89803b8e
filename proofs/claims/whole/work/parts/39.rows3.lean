/-! SET, COPY -/
def hp (n : Nat) (a b : Int32) : Prop := 0 ≤ a.toInt ∧ 0 ≤ b.toInt ∧ a.toInt + b.toInt ≤ n
theorem hp_n {n : Nat} {a b : Int32} (h : hp n a b) : ∃ i l : Nat, a = nI i ∧ b = nI l ∧ i + l ≤ n := by
  obtain ⟨h1, h2, h3⟩ := h
  obtain ⟨i, rfl, c1, c2, c3⟩ := bw_n (a := a) (lo := 0) (hi := a.toInt) h1 (by omega) (by omega)
  obtain ⟨l, rfl, d1, d2, d3⟩ := bw_n (a := b) (lo := 0) (hi := b.toInt) h2 (by omega) (by omega)
  exact ⟨i, l, rfl, rfl, by omega⟩
theorem x_hasPlaces {μ : pw_Mem} {o n : Nat} (h : μ o 3 = nI n) (hn : n ≤ 40) (a b : Int32) : (hp n a b → fn_X3_hasPlaces o a b μ = some (nI 1, μ)) ∧ (¬ hp n a b → fn_X3_hasPlaces o a b μ = some (nI 0, μ)) := by
  have o0 : (0 : Int32).toInt = 0 := rfl
  have on : (nI n).toInt = n := nI_toInt (by omega)
  unfold fn_X3_hasPlaces
  rw [h]
  by_cases q1 : a < 0
  · rw [if_pos q1]
    rw [bw_lt, o0] at q1
    exact ⟨fun z => by unfold hp at z; omega, fun _ => rfl⟩
  rw [if_neg q1]
  rw [bw_lt, o0] at q1
  by_cases q2 : b < 0
  · rw [if_pos q2]
    rw [bw_lt, o0] at q2
    exact ⟨fun z => by unfold hp at z; omega, fun _ => rfl⟩
  rw [if_neg q2]
  rw [bw_lt, o0] at q2
  by_cases q3 : nI n < a
  · rw [if_pos q3]
    rw [bw_lt, on] at q3
    exact ⟨fun z => by unfold hp at z; omega, fun _ => rfl⟩
  rw [if_neg q3]
  rw [bw_lt, on] at q3
  obtain ⟨i, rfl, c1, c2, c3⟩ := bw_n (a := a) (lo := 0) (hi := n) (by omega) (by omega) (by omega)
  have oi : (nI i).toInt = i := nI_toInt (by omega)
  have on2 : (nI (n - i)).toInt = ((n - i : Nat) : Int) := nI_toInt (by omega)
  rw [mm_sub (by omega)]
  by_cases q4 : nI (n - i) < b
  · rw [if_pos q4]
    rw [bw_lt, on2] at q4
    exact ⟨fun z => by unfold hp at z; omega, fun _ => rfl⟩
  · rw [if_neg q4]
    rw [bw_lt, on2] at q4
    exact ⟨fun _ => rfl, fun z => absurd (show hp n (nI i) b from ⟨by omega, by omega, by omega⟩) z⟩
theorem lgc_le (x y : Int64) : lg_cmp x y ≤ 0 ↔ x.toInt ≤ y.toInt := by
  unfold lg_cmp
  by_cases q : x > y
  · rw [if_pos q]
    have : y.toInt < x.toInt := Int64.lt_iff_toInt_lt.mp q
    constructor
    · intro z; exact absurd z (by decide)
    · intro z; omega
  · rw [if_neg q]
    have : ¬ y.toInt < x.toInt := fun z => q (Int64.lt_iff_toInt_lt.mpr z)
    refine ⟨fun _ => by omega, fun _ => ?_⟩
    by_cases r : x = y
    · rw [if_pos r]; decide
    · rw [if_neg r]; decide
theorem lgc_add (x y : Int32) : (x.toInt64 + y.toInt64).toInt = x.toInt + y.toInt := by
  have h1 := Int32.toInt_lt x
  have h2 := Int32.le_toInt x
  have h3 := Int32.toInt_lt y
  have h4 := Int32.le_toInt y
  rw [Int64.toInt_add, Int32.toInt_toInt64, Int32.toInt_toInt64]
  apply Int.bmod_eq_of_le <;> omega
theorem m_against {μ : pw_Mem} {r n : Nat} (hr : r < 8) (h : μ 57 r = nI n) (hn : n ≤ 40) (a b : Int32) : (hp n a b → fn_X6_against (nI r) a b μ = some (nI 0, μ)) ∧ (¬ hp n a b → fn_X6_against (nI r) a b μ = some (nI 2, μ)) := by
  have o0 : (0 : Int32).toInt = 0 := rfl
  have on : (nI n).toInt = n := nI_toInt (by omega)
  unfold fn_X6_against
  rw [mm_ix (by omega) (by omega), h, if_pos (by rw [mm_l0]; exact nI_le (by omega) (by omega)), mm_j0]
  by_cases q1 : a < 0
  · rw [if_pos q1]
    rw [bw_lt, o0] at q1
    exact ⟨fun z => by unfold hp at z; omega, fun _ => rfl⟩
  rw [if_neg q1]
  rw [bw_lt, o0] at q1
  by_cases q2 : b < 0
  · rw [if_pos q2]
    rw [bw_lt, o0] at q2
    exact ⟨fun z => by unfold hp at z; omega, fun _ => rfl⟩
  rw [if_neg q2]
  rw [bw_lt, o0] at q2
  rw [mm_ix (by omega) (by omega), h]
  have e := lgc_add a b
  have f : (nI n).toInt64.toInt = n := by rw [Int32.toInt_toInt64]; exact on
  by_cases q3 : lg_cmp (a.toInt64 + b.toInt64) (nI n).toInt64 ≤ 0
  · rw [if_pos q3]
    rw [lgc_le, e, f] at q3
    exact ⟨fun _ => rfl, fun z => absurd (show hp n a b from ⟨by omega, by omega, by omega⟩) z⟩
  · rw [if_neg q3]
    rw [lgc_le, e, f] at q3
    exact ⟨fun z => by unfold hp at z; omega, fun _ => rfl⟩
theorem m_against0 {μ : pw_Mem} {r : Nat} (hr : r < 8) (h : μ 57 r = (-1 : Int32)) (a b : Int32) : fn_X6_against (nI r) a b μ = some (nI 1, μ) := by
  unfold fn_X6_against
  rw [mm_ix (by omega) (by omega), h, if_neg (by decide)]; rfl
def r_cut (L : Nat) (v : Int32) : Int32 := if L = 0 then v.toInt8.toInt32 else if L = 1 then v.toInt16.toInt32 else v
theorem x_cut {μ : pw_Mem} {o L : Nat} (h : μ o 2 = nI L) (hL : L ≤ 2) (v : Int32) : fn_X3_cut o v μ = some (r_cut L v, μ) := by
  unfold fn_X3_cut r_cut
  rw [h]
  have a : L = 0 ∨ L = 1 ∨ L = 2 := by omega
  rcases a with rfl | rfl | rfl
  · rw [if_neg (by decide), if_pos rfl]
  · rw [if_pos (by decide), if_neg (by decide), if_neg (by decide), if_pos rfl]
  · rw [if_pos (by decide), if_pos (by decide), if_neg (by decide), if_neg (by decide)]
theorem q_set {μ : pw_Mem} (I : Iv μ) (a1 a2 a3 : Int32) : Ok2 (fn_X5_set a1 a2 a3) (fn_X6_set a1 a2 a3) μ := by
  have I' := I
  obtain ⟨ρ, N, A, G, W, T, U, V⟩ := I
  obtain ⟨B0, B1, B2⟩ := N.b0
  unfold Ok2
  have Y1 := x_isRow a1 μ
  have Z1 := m_isRow a1 μ
  rcases bw_c a1 0 7 with b1 | ⟨b1, c1, e1⟩
  · exact ⟨(-1000001 : Int32), μ, μ, by simp only [fn_X5_set, Y1, b1, mm_bi, mm_n00, mm_n10, if_true, if_false, ne_eq, not_true_eq_false, not_false_eq_true], by simp only [fn_X6_set, Z1, b1, mm_bi, mm_n00, mm_n10, if_true, if_false, ne_eq, not_true_eq_false, not_false_eq_true], I'⟩
  clear Y1 Z1
  obtain ⟨j1, rfl, l1, u1, t1⟩ := bw_n c1 e1 (by omega)
  clear c1 e1
  have X1 : ∀ m, fn_X5_isRow (nI j1) m = some (nI 1, m) := fun m => by rw [x_isRow, b1]
  have M1 : ∀ m, fn_X6_isRow (nI j1) m = some (nI 1, m) := fun m => by rw [m_isRow, b1]
  clear b1
  have hlt : j1 < 8 := by omega
  rcases W j1 hlt with ⟨w1, w2⟩ | ⟨n, L, w1, w2, w3, w4, w5, w6, w7, w8⟩
  · refine ⟨(-1000010 : Int32) - (1 : Int32), pw_st μ 0 9 1, pw_st (pw_st μ 0 9 1) 54 5 1, ?_, ?_, I'.find 1⟩
    · simp only [fn_X5_set, X1, mm_bi, mm_n00, mm_n10, if_true, if_false, ne_eq, not_true_eq_false, not_false_eq_true]
      rw [mm_ix (by omega) (by omega), w1, if_neg n10, x_found, mm_bi]
    · simp only [fn_X6_set, M1, mm_bi, mm_n00, mm_n10, if_true, if_false, ne_eq, not_true_eq_false, not_false_eq_true]
      rw [m_against0 hlt (by rw [ms_row _ _ (by omega)]; exact w2), mm_bi, if_neg (by decide), show nI 1 = (1 : Int32) from rfl, m_finds, mm_bi]
  · by_cases q : hp n a2 1
    · obtain ⟨i, l, rfl, e1, hi⟩ := hp_n q
      have hl : l = 1 := by
        have z : nI 1 = nI l := e1
        rw [mm_eq (by omega) (by omega)] at z; omega
      subst hl
      have ag := (m_against (μ := pw_st (pw_st μ (24 + 2 * j1 + 1) i (r_cut L a3)) 0 9 0) hlt (by simp (disch := omega) only [ms_row]; exact w7) w1 (nI i) 1).1 q
      refine ⟨r_cut L a3, pw_st (pw_st μ (24 + 2 * j1 + 1) i (r_cut L a3)) 0 9 0, pw_st (pw_st (pw_st (pw_st μ (24 + 2 * j1 + 1) i (r_cut L a3)) 0 9 0) 54 5 0) 59 (40 * j1 + i) (r_cut L a3), ?_, ?_, ?_⟩
      · simp only [fn_X5_set, X1, mm_bi, mm_n00, mm_n10, if_true, if_false, ne_eq, not_true_eq_false, not_false_eq_true]
        rw [mm_ix (by omega) (by omega), w3, if_pos n00, (x_hasPlaces w6 w1 _ _).1 q, mm_bi, if_pos n10, x_cut w4 w2, mm_bi, mm_ix (by omega) (by omega), mm_ix (by omega) (by omega), x_fnone, mm_bi, ms_eq]
      · simp only [fn_X6_set, M1, mm_bi, mm_n00, mm_n10, if_true, if_false, ne_eq, not_true_eq_false, not_false_eq_true]
        rw [ag, mm_bi, if_pos (by decide), mm_ix (by omega) (by omega), mm_j1]
        have r5 : (pw_st (pw_st (pw_st μ (24 + 2 * j1 + 1) i (r_cut L a3)) 0 9 0) 54 5 0) 58 j1 = nI L := by simp (disch := omega) only [ms_row]; exact w5
        rw [r5]
        simp only [mm_l40, mm_mul, mm_add]
        rw [mm_ix (by omega) (by omega)]
        rw [r5]
        have a : L = 0 ∨ L = 1 ∨ L = 2 := by omega
        rcases a with rfl | rfl | rfl
        · rw [if_neg (by decide), mm_ix (by omega) (by omega), mm_ix (by omega) (by omega), ms_eq]; rfl
        · rw [if_pos (by decide), if_neg (by decide), mm_ix (by omega) (by omega), mm_ix (by omega) (by omega), ms_eq]; rfl
        · rw [if_pos (by decide), if_pos (by decide), mm_ix (by omega) (by omega), mm_ix (by omega) (by omega), ms_eq]; rfl
      · refine I'.rows (fun r hr => ?_) ⟨?_, ?_⟩ (fun k a b c d e f g => ?_) (fun j hj => ?_)
        · by_cases z : r = j1
          · subst z
            refine Or.inr ⟨n, L, by omega, by omega, ?_, ?_, ?_, ?_, ?_, fun s hs => ?_⟩
            · simp (disch := omega) only [ms_row]; exact w3
            · simp (disch := omega) only [ms_row]; exact w4
            · simp (disch := omega) only [ms_row]; exact w5
            · simp (disch := omega) only [ms_row]; exact w6
            · simp (disch := omega) only [ms_row]; exact w7
            · by_cases t : s = i
              · subst t
                rw [ms_eq]
                simp (disch := omega) only [ms_row]
                rw [show 25 + 2 * r = 24 + 2 * r + 1 by omega, ms_eq]
              · simp (disch := omega) only [ms_row, ms_nj]; exact w8 s hs
          · refine (W r hr).same2 ?_ ?_ ?_ ?_ (fun s hs => ?_)
            · simp (disch := omega) only [ms_row]
            · simp (disch := omega) only [ms_row]
            · simp (disch := omega) only [ms_row]
            · simp (disch := omega) only [ms_row]
            · simp (disch := omega) only [ms_row, ms_nj]
        · simp (disch := omega) only [ms_row, ms_nj]; exact U.1
        · simp (disch := omega) only [ms_row, ms_nj, ms_eq]
        · simp (disch := omega) only [ms_row]
        · simp (disch := omega) only [ms_row, ms_nj]
    · refine ⟨(-1000010 : Int32) - (2 : Int32), pw_st μ 0 9 2, pw_st (pw_st μ 0 9 2) 54 5 2, ?_, ?_, I'.find 2⟩
      · simp only [fn_X5_set, X1, mm_bi, mm_n00, mm_n10, if_true, if_false, ne_eq, not_true_eq_false, not_false_eq_true]
        rw [mm_ix (by omega) (by omega), w3, if_pos n00, (x_hasPlaces w6 w1 _ _).2 q, mm_bi, if_neg (fun z => z n00), x_found, mm_bi]
      · simp only [fn_X6_set, M1, mm_bi, mm_n00, mm_n10, if_true, if_false, ne_eq, not_true_eq_false, not_false_eq_true]
        rw [(m_against hlt (by rw [ms_row _ _ (by omega)]; exact w7) w1 _ _).2 q, mm_bi, if_neg (by decide), show nI 2 = (2 : Int32) from rfl, m_finds, mm_bi]
/-! COPY -/
theorem m_copy1_l {b i N : Nat} (hb : b + i + N ≤ 320) (w3 w4 : Int32) (hN : N ≤ 40) (r : Nat) (hr : 40 * r = b) (k : pw_Mem → Option (Int32 × pw_Mem)) : ∀ (d n s : Nat) (m : pw_Mem), s + d = N → d < n → ∃ m', fl_X6_copy_99 k (nI r) (nI i) w3 w4 (nI N) n (nI s) m = k m' ∧ (∀ j, j ≠ 60 → m' j = m j) ∧ (∀ x, x < s → m' 60 x = m 60 x) ∧ ∀ x, s ≤ x → x < N → m' 60 x = m 59 (b + i + x) := by
  intro d
  induction d with
  | zero =>
    intro n s m hi hn
    obtain ⟨n, rfl⟩ : ∃ q, n = q + 1 := ⟨n - 1, by omega⟩
    refine ⟨m, ?_, fun _ _ => rfl, fun _ _ => rfl, fun s h1 h2 => by omega⟩
    rw [fl_X6_copy_99, if_pos (nI_le (by omega) (by omega))]
  | succ d ih =>
    intro n s m hi hn
    obtain ⟨n, rfl⟩ : ∃ q, n = q + 1 := ⟨n - 1, by omega⟩
    obtain ⟨m', a, c, e, f⟩ := ih n (s + 1) (pw_st m 60 s (m 59 (b + i + s))) (by omega) (by omega)
    refine ⟨m', ?_, fun j h1 => by rw [c j h1, ms_row _ _ h1], fun x hx => by rw [e x (by omega), ms_nj _ _ (by omega)], fun x h1 h2 => ?_⟩
    · rw [fl_X6_copy_99, if_neg (nI_ge (by omega) (by omega)), mm_l40, mm_mul, mm_add, mm_add, hr, mm_ix (by omega) (by omega), mm_ix (by omega) (by omega), show nI s + 1 = nI (s + 1) from mm_add s 1]
      exact a
    · by_cases q : x = s
      · subst q; rw [e x (by omega), ms_eq]
      · rw [f x (by omega) h2, ms_row _ _ (by omega)]
theorem m_copy2_l {b i N : Nat} (hb : b + i + N ≤ 320) (hN : N ≤ 40) (r : Nat) (hr : 40 * r = b) (k : pw_Mem → Option (Int32 × pw_Mem)) : ∀ (d n s : Nat) (m : pw_Mem), s + d = N → d < n → ∃ m', fl_X6_copy_136 k (nI r) (nI i) (nI N) n (nI s) m = k m' ∧ (∀ j, j ≠ 59 → m' j = m j) ∧ (∀ x, x < b + i + s ∨ b + i + N ≤ x → m' 59 x = m 59 x) ∧ ∀ x, s ≤ x → x < N → m' 59 (b + i + x) = m 60 x := by
  intro d
  induction d with
  | zero =>
    intro n s m hi hn
    obtain ⟨n, rfl⟩ : ∃ q, n = q + 1 := ⟨n - 1, by omega⟩
    refine ⟨m, ?_, fun _ _ => rfl, fun _ _ => rfl, fun s h1 h2 => by omega⟩
    rw [fl_X6_copy_136, if_pos (nI_le (by omega) (by omega))]
  | succ d ih =>
    intro n s m hi hn
    obtain ⟨n, rfl⟩ : ∃ q, n = q + 1 := ⟨n - 1, by omega⟩
    obtain ⟨m', a, c, e, f⟩ := ih n (s + 1) (pw_st m 59 (b + i + s) (m 60 s)) (by omega) (by omega)
    refine ⟨m', ?_, fun j h1 => by rw [c j h1, ms_row _ _ h1], fun x hx => by rw [e x (by omega), ms_nj _ _ (by omega)], fun x h1 h2 => ?_⟩
    · rw [fl_X6_copy_136, if_neg (nI_ge (by omega) (by omega)), mm_l40, mm_mul, mm_add, mm_add, hr, mm_ix (by omega) (by omega), mm_ix (by omega) (by omega), show nI s + 1 = nI (s + 1) from mm_add s 1]
      exact a
    · by_cases q : x = s
      · subst q; rw [e _ (by omega), ms_eq]
      · rw [f x (by omega) h2, ms_row _ _ (by omega)]
theorem up_row (μ : pw_Mem) {o a : Nat} (f : Nat → Int32) (h : a ≠ o) : va_up μ o f a = μ a := va_up_ne _ _ h
theorem up_eq (μ : pw_Mem) (o : Nat) (f : Nat → Int32) : va_up μ o f o = f := if_pos rfl
theorem q_copy {μ : pw_Mem} (I : Iv μ) (a1 a2 a3 a4 a5 : Int32) : Ok2 (fn_X5_copy a1 a2 a3 a4 a5) (fn_X6_copy a1 a2 a3 a4 a5) μ := by
  have I' := I
  obtain ⟨ρ, N, A, G, W, T, U, V⟩ := I
  obtain ⟨B0, B1, B2⟩ := N.b0
  unfold Ok2
  have Y1 := x_isRow a1 μ
  have Z1 := m_isRow a1 μ
  rcases bw_c a1 0 7 with b1 | ⟨b1, c1, e1⟩
  · exact ⟨(-1000001 : Int32), μ, μ, by simp only [fn_X5_copy, Y1, b1, mm_bi, mm_n00, mm_n10, if_true, if_false, ne_eq, not_true_eq_false, not_false_eq_true], by simp only [fn_X6_copy, Z1, b1, mm_bi, mm_n00, mm_n10, if_true, if_false, ne_eq, not_true_eq_false, not_false_eq_true], I'⟩
  clear Y1 Z1
  obtain ⟨j1, rfl, l1, u1, t1⟩ := bw_n c1 e1 (by omega)
  clear c1 e1
  have X1 : ∀ m, fn_X5_isRow (nI j1) m = some (nI 1, m) := fun m => by rw [x_isRow, b1]
  have M1 : ∀ m, fn_X6_isRow (nI j1) m = some (nI 1, m) := fun m => by rw [m_isRow, b1]
  clear b1
  have Y3 := x_isRow a3 μ
  have Z3 := m_isRow a3 μ
  rcases bw_c a3 0 7 with b3 | ⟨b3, c3, e3⟩
  · exact ⟨(-1000001 : Int32), μ, μ, by simp only [fn_X5_copy, X1, Y3, b3, mm_bi, mm_n00, mm_n10, if_true, if_false, ne_eq, not_true_eq_false, not_false_eq_true], by simp only [fn_X6_copy, M1, Z3, b3, mm_bi, mm_n00, mm_n10, if_true, if_false, ne_eq, not_true_eq_false, not_false_eq_true], I'⟩
  clear Y3 Z3
  obtain ⟨j3, rfl, l3, u3, t3⟩ := bw_n c3 e3 (by omega)
  clear c3 e3
  have X3 : ∀ m, fn_X5_isRow (nI j3) m = some (nI 1, m) := fun m => by rw [x_isRow, b3]
  have M3 : ∀ m, fn_X6_isRow (nI j3) m = some (nI 1, m) := fun m => by rw [m_isRow, b3]
  clear b3
  have hlt : j1 < 8 := by omega
  have hlt3 : j3 < 8 := by omega
  have FX : ∀ x m, (pw_st μ 0 9 x) 57 m = μ 57 m := fun x m => by rw [ms_row _ _ (by omega)]
  have FL : ∀ x m, (pw_st μ 0 9 x) 58 m = μ 58 m := fun x m => by rw [ms_row _ _ (by omega)]
  rcases W j1 hlt with ⟨w1, w2⟩ | ⟨n, L, w1, w2, w3, w4, w5, w6, w7, w8⟩
  · refine ⟨(-1000010 : Int32) - (1 : Int32), pw_st μ 0 9 1, pw_st (pw_st μ 0 9 1) 54 5 1, ?_, ?_, I'.find 1⟩
    · simp only [fn_X5_copy, X1, X3, mm_bi, mm_n00, mm_n10, if_true, if_false, ne_eq, not_true_eq_false, not_false_eq_true]
      rw [mm_ix (by omega) (by omega), mm_ix (by omega) (by omega), w1, if_pos n10, x_found, mm_bi]
    · simp only [fn_X6_copy, M1, M3, mm_bi, mm_n00, mm_n10, if_true, if_false, ne_eq, not_true_eq_false, not_false_eq_true]
      rw [mm_ix (by omega) (by omega), FX, w2, if_pos (by decide), m_finds, mm_bi]
  rcases W j3 hlt3 with ⟨v1, v2⟩ | ⟨n3, L3, v1, v2, v3, v4, v5, v6, v7, v8⟩
  · refine ⟨(-1000010 : Int32) - (1 : Int32), pw_st μ 0 9 1, pw_st (pw_st μ 0 9 1) 54 5 1, ?_, ?_, I'.find 1⟩
    · simp only [fn_X5_copy, X1, X3, mm_bi, mm_n00, mm_n10, if_true, if_false, ne_eq, not_true_eq_false, not_false_eq_true]
      rw [mm_ix (by omega) (by omega), mm_ix (by omega) (by omega), w3, if_neg (fun z => z n00), v1, if_neg n10, x_found, mm_bi]
    · simp only [fn_X6_copy, M1, M3, mm_bi, mm_n00, mm_n10, if_true, if_false, ne_eq, not_true_eq_false, not_false_eq_true]
      rw [mm_ix (by omega) (by omega), FX, w7, if_neg (nI_pos (by omega)), mm_ix (by omega) (by omega), FX, v2, if_neg (by decide), m_finds, mm_bi]
  by_cases qL : L = L3
  rotate_left
  · have qn : ¬ nI L = nI L3 := by rw [mm_eq (by omega) (by omega)]; exact qL
    refine ⟨(-1000010 : Int32) - (5 : Int32), pw_st μ 0 9 5, pw_st (pw_st μ 0 9 5) 54 5 5, ?_, ?_, I'.find 5⟩
    · simp only [fn_X5_copy, X1, X3, mm_bi, mm_n00, mm_n10, if_true, if_false, ne_eq, not_true_eq_false, not_false_eq_true]
      rw [mm_ix (by omega) (by omega), mm_ix (by omega) (by omega), w3, if_neg (fun z => z n00), v3, if_pos n00, w4, v4, if_neg qn, x_found, mm_bi]
    · simp only [fn_X6_copy, M1, M3, mm_bi, mm_n00, mm_n10, if_true, if_false, ne_eq, not_true_eq_false, not_false_eq_true]
      rw [mm_ix (by omega) (by omega), FX, w7, if_neg (nI_pos (by omega)), mm_ix (by omega) (by omega), FX, v7, if_pos (by rw [mm_l0]; exact nI_le (by omega) (by omega)), mm_ix (by omega) (by omega), mm_ix (by omega) (by omega), FL, FL, w5, v5, if_neg qn, m_finds, mm_bi]
  subst qL
  have AX : ∀ x, (hp n a2 a5 → fn_X6_against (nI j1) a2 a5 (pw_st μ 0 9 x) = some (nI 0, pw_st μ 0 9 x)) ∧ (¬ hp n a2 a5 → fn_X6_against (nI j1) a2 a5 (pw_st μ 0 9 x) = some (nI 2, pw_st μ 0 9 x)) := fun x => m_against hlt (by rw [FX]; exact w7) w1 _ _
  have BX : ∀ x, (hp n3 a4 a5 → fn_X6_against (nI j3) a4 a5 (pw_st μ 0 9 x) = some (nI 0, pw_st μ 0 9 x)) ∧ (¬ hp n3 a4 a5 → fn_X6_against (nI j3) a4 a5 (pw_st μ 0 9 x) = some (nI 2, pw_st μ 0 9 x)) := fun x => m_against hlt3 (by rw [FX]; exact v7) v1 _ _
  by_cases q1 : hp n a2 a5
  rotate_left
  · refine ⟨(-1000010 : Int32) - (2 : Int32), pw_st μ 0 9 2, pw_st (pw_st μ 0 9 2) 54 5 2, ?_, ?_, I'.find 2⟩
    · simp only [fn_X5_copy, X1, X3, mm_bi, mm_n00, mm_n10, if_true, if_false, ne_eq, not_true_eq_false, not_false_eq_true]
      rw [mm_ix (by omega) (by omega), mm_ix (by omega) (by omega), w3, if_neg (fun z => z n00), v3, if_pos n00, w4, v4, if_pos rfl, (x_hasPlaces w6 w1 _ _).2 q1, mm_bi, if_pos n00, x_found, mm_bi]
    · simp only [fn_X6_copy, M1, M3, mm_bi, mm_n00, mm_n10, if_true, if_false, ne_eq, not_true_eq_false, not_false_eq_true]
      rw [mm_ix (by omega) (by omega), FX, w7, if_neg (nI_pos (by omega)), mm_ix (by omega) (by omega), FX, v7, if_pos (by rw [mm_l0]; exact nI_le (by omega) (by omega)), mm_ix (by omega) (by omega), mm_ix (by omega) (by omega), FL, FL, w5, v5, if_pos rfl, (AX 2).2 q1, mm_bi, if_pos (by decide), m_finds, mm_bi]
  by_cases q2 : hp n3 a4 a5
  rotate_left
  · refine ⟨(-1000010 : Int32) - (2 : Int32), pw_st μ 0 9 2, pw_st (pw_st μ 0 9 2) 54 5 2, ?_, ?_, I'.find 2⟩
    · simp only [fn_X5_copy, X1, X3, mm_bi, mm_n00, mm_n10, if_true, if_false, ne_eq, not_true_eq_false, not_false_eq_true]
      rw [mm_ix (by omega) (by omega), mm_ix (by omega) (by omega), w3, if_neg (fun z => z n00), v3, if_pos n00, w4, v4, if_pos rfl, (x_hasPlaces w6 w1 _ _).1 q1, mm_bi, if_neg n10, (x_hasPlaces v6 v1 _ _).2 q2, mm_bi, if_neg (fun z => z n00), x_found, mm_bi]
    · simp only [fn_X6_copy, M1, M3, mm_bi, mm_n00, mm_n10, if_true, if_false, ne_eq, not_true_eq_false, not_false_eq_true]
      rw [mm_ix (by omega) (by omega), FX, w7, if_neg (nI_pos (by omega)), mm_ix (by omega) (by omega), FX, v7, if_pos (by rw [mm_l0]; exact nI_le (by omega) (by omega)), mm_ix (by omega) (by omega), mm_ix (by omega) (by omega), FL, FL, w5, v5, if_pos rfl, (AX 2).1 q1, mm_bi, if_neg (by decide), (BX 2).2 q2, mm_bi, if_neg (by decide), m_finds, mm_bi]
  obtain ⟨i, l, rfl, rfl, hi⟩ := hp_n q1
  obtain ⟨i4, l4, rfl, el, hi4⟩ := hp_n q2
  have hl : l4 = l := by
    have z : nI l = nI l4 := el
    rw [mm_eq (by omega) (by omega)] at z; omega
  subst hl
  have BXv : ∀ m : pw_Mem, m 57 = μ 57 → fn_X6_against (nI j1) (nI i) (nI l4) m = some (nI 0, m) ∧ fn_X6_against (nI j3) (nI i4) (nI l4) m = some (nI 0, m) := fun m hm => ⟨(m_against hlt (by rw [hm]; exact w7) w1 _ _).1 q1, (m_against hlt3 (by rw [hm]; exact v7) v1 _ _).1 q2⟩
  obtain ⟨ν, hν⟩ : ∃ ν, ν = pw_st (va_up μ (24 + 2 * j3 + 1) (va_cpy (μ (24 + 2 * j1 + 1)) (μ (24 + 2 * j3 + 1)) i i4 l4)) 0 9 0 := ⟨_, rfl⟩
  have νr : ∀ k, k ≠ 0 → k ≠ 24 + 2 * j3 + 1 → ν k = μ k := fun k h1 h2 => by rw [hν, ms_row _ _ h1, up_row _ _ h2]
  obtain ⟨m1, x1, x2, x3, x4⟩ := m_copy1_l (b := 40 * j1) (i := i) (N := l4) (by omega) (nI j3) (nI i4) (by omega) j1 rfl (fun m133 => fl_X6_copy_136 (fun m171 => some (nI l4, m171)) (nI j3) (nI i4) (nI l4) 1000 (0 : Int32) m133) l4 1000 0 (pw_st ν 54 5 0) (by omega) (by omega)
  obtain ⟨m2, y1, y2, y3, y4⟩ := m_copy2_l (b := 40 * j3) (i := i4) (N := l4) (by omega) (by omega) j3 rfl (fun m171 => some (nI l4, m171)) l4 1000 0 m1 (by omega) (by omega)
  refine ⟨nI l4, ν, m2, ?_, ?_, ?_⟩
  · simp only [fn_X5_copy, X1, X3, mm_bi, mm_n00, mm_n10, if_true, if_false, ne_eq, not_true_eq_false, not_false_eq_true]
    rw [mm_ix (by omega) (by omega), mm_ix (by omega) (by omega), w3, if_neg (fun z => z n00), v3, if_pos n00, w4, v4, if_pos rfl, (x_hasPlaces w6 w1 _ _).1 q1, mm_bi, if_neg n10, (x_hasPlaces v6 v1 _ _).1 q2, mm_bi, if_pos n10]
    unfold fn_cp
    rw [mm_clamp (by omega), mm_clamp (by omega), mm_clamp (by omega), if_pos ⟨nI_pos (by omega), nI_pos (by omega), nI_pos (by omega), by omega, by omega⟩, x_fnone, mm_bi, hν]
  · simp only [fn_X6_copy, M1, M3, mm_bi, mm_n00, mm_n10, if_true, if_false, ne_eq, not_true_eq_false, not_false_eq_true]
    rw [mm_ix (by omega) (by omega), νr 57 (by omega) (by omega), w7, if_neg (nI_pos (by omega)), mm_ix (by omega) (by omega), v7, if_pos (by rw [mm_l0]; exact nI_le (by omega) (by omega)), mm_ix (by omega) (by omega), mm_ix (by omega) (by omega), νr 58 (by omega) (by omega), w5, v5, if_pos rfl, (BXv ν (νr 57 (by omega) (by omega))).1, mm_bi, if_neg (by decide), (BXv ν (νr 57 (by omega) (by omega))).2, mm_bi, if_pos (by decide)]
    exact x1.trans y1
  · have z9 : ν 0 9 = 0 := by rw [hν, ms_eq]
    have z8 : ν 0 8 = μ 0 8 := by rw [hν, ms_nj _ _ (by omega), up_row _ _ (by omega)]
    have zc : ν (25 + 2 * j3) = va_cpy (μ (24 + 2 * j1 + 1)) (μ (24 + 2 * j3 + 1)) i i4 l4 := by rw [show 25 + 2 * j3 = 24 + 2 * j3 + 1 by omega, hν, ms_row _ _ (by omega), up_eq]
    refine I'.rows (fun r hr => ?_) ⟨?_, ?_⟩ (fun k a b c d e f g => ?_) (fun j hj => ?_)
    · by_cases z : r = j3
      · subst z
        refine Or.inr ⟨n3, L, by omega, by omega, ?_, ?_, ?_, ?_, ?_, fun s hs => ?_⟩
        · rw [y2 _ (by omega), x2 _ (by omega), ms_row _ _ (by omega), νr _ (by omega) (by omega)]; exact v3
        · rw [y2 _ (by omega), x2 _ (by omega), ms_row _ _ (by omega), νr _ (by omega) (by omega)]; exact v4
        · rw [y2 _ (by omega), x2 _ (by omega), ms_row _ _ (by omega), νr _ (by omega) (by omega)]; exact v5
        · rw [y2 _ (by omega), x2 _ (by omega), ms_row _ _ (by omega), νr _ (by omega) (by omega)]; exact v6
        · rw [y2 _ (by omega), x2 _ (by omega), ms_row _ _ (by omega), νr _ (by omega) (by omega)]; exact v7
        · rw [y2 _ (by omega), x2 _ (by omega), ms_row _ _ (by omega), zc]
          unfold va_cpy
          by_cases t : i4 ≤ s ∧ s < i4 + l4
          · rw [if_pos t, show 40 * r + s = 40 * r + i4 + (s - i4) by omega, y4 _ (by omega) (by omega), x4 _ (by omega) (by omega), ms_row _ _ (by omega), νr 59 (by omega) (by omega), show 24 + 2 * j1 + 1 = 25 + 2 * j1 by omega, w8 _ (by omega), Nat.add_assoc]
          · rw [if_neg t, y3 _ (by omega), x2 _ (by omega), ms_row _ _ (by omega), νr 59 (by omega) (by omega)]
            rw [show 24 + 2 * r + 1 = 25 + 2 * r by omega]
            exact v8 s hs
      · refine (W r hr).same2 ?_ ?_ ?_ ?_ (fun s hs => ?_)
        · rw [y2 _ (by omega), x2 _ (by omega), ms_row _ _ (by omega), νr _ (by omega) (by omega)]
        · rw [y2 _ (by omega), x2 _ (by omega), ms_row _ _ (by omega), νr _ (by omega) (by omega)]
        · rw [y2 _ (by omega), x2 _ (by omega), ms_row _ _ (by omega), νr _ (by omega) (by omega)]
        · rw [y2 _ (by omega), x2 _ (by omega), ms_row _ _ (by omega), νr _ (by omega) (by omega)]
        · rw [y3 _ (by omega), x2 _ (by omega), ms_row _ _ (by omega), νr _ (by omega) (by omega)]
    · rw [y2 _ (by omega), x2 _ (by omega), ms_row _ _ (by omega), z8, y2 _ (by omega), x2 _ (by omega), ms_nj _ _ (by omega), νr _ (by omega) (by omega)]; exact U.1
    · rw [y2 _ (by omega), x2 _ (by omega), ms_row _ _ (by omega), z9, y2 _ (by omega), x2 _ (by omega), ms_eq]
    · rw [y2 _ (by omega), x2 _ (by omega), ms_row _ _ (by omega), νr _ (by omega) (by omega)]
    · rw [y2 _ (by omega), x2 _ (by omega), ms_nj _ _ (by omega), νr _ (by omega) (by omega)]
