/-! ACTS -/
def hpK (kept : Nat) : Nat := if kept = 24 then 24 else kept + 1
def hpH (kept : Nat) (h : Nat → Rd) (ρ : Rd) : Nat → Rd := fun k => if kept = 24 then (if k = 23 then ρ else h (k + 1)) else (if k = kept then ρ else h k)
theorem x_keep_l1 {b : Nat} (hb : b + 9 ≤ 480) (k : Int32 → pw_Mem → Option pw_Mem) : ∀ (d n i : Nat) (m : pw_Mem), i + d = 9 → d < n → ∃ m', fl_X0_keep_23 k 4 n (nI (b + i)) (nI i) m = k (nI (b + 9)) m' ∧ (∀ j, j ≠ 21 → m' j = m j) ∧ (∀ x, x < b + i ∨ b + 9 ≤ x → m' 21 x = m 21 x) ∧ ∀ s, i ≤ s → s < 9 → m' 21 (b + s) = m 6 s := by
  intro d
  induction d with
  | zero =>
    intro n i m hi hn
    obtain ⟨n, rfl⟩ : ∃ q, n = q + 1 := ⟨n - 1, by omega⟩
    refine ⟨m, ?_, fun _ _ => rfl, fun _ _ => rfl, fun s h1 h2 => by omega⟩
    rw [fl_X0_keep_23, mm_l9, if_pos (nI_le (by omega) (by omega)), show i = 9 by omega]
  | succ d ih =>
    intro n i m hi hn
    obtain ⟨n, rfl⟩ : ∃ q, n = q + 1 := ⟨n - 1, by omega⟩
    obtain ⟨m', a1, a2, a3, a4⟩ := ih n (i + 1) (pw_st m 21 (b + i) (m (4 + 2) i)) (by omega) (by omega)
    refine ⟨m', ?_, fun j hj => by rw [a2 j hj, ms_row _ _ hj], fun x hx => by rw [a3 x (by omega), ms_nj _ _ (by omega)], fun s h1 h2 => ?_⟩
    · rw [fl_X0_keep_23, mm_l9, if_neg (nI_ge (by omega) (by omega)), mm_ix (by omega) (by omega), mm_ix (by omega) (by omega), mm_l1, mm_add, mm_add]
      exact a1
    · by_cases q : s = i
      · subst q; rw [a3 _ (by omega), ms_eq]
      · rw [a4 s (by omega) h2, ms_row _ _ (by omega)]
theorem x_keep_l2 {b : Nat} (hb : b + 10 ≤ 480) (k : pw_Mem → Option pw_Mem) : ∀ (d n i : Nat) (m : pw_Mem), i + d = 5 → d < n → ∃ m', fl_X0_keep_52 k 4 n (nI (b + 2 * i)) (nI i) m = k m' ∧ (∀ j, j ≠ 21 → m' j = m j) ∧ (∀ x, x < b + 2 * i ∨ b + 10 ≤ x → m' 21 x = m 21 x) ∧ ∀ s, i ≤ s → s < 5 → m' 21 (b + 2 * s) = m 8 s ∧ m' 21 (b + 2 * s + 1) = m 9 s := by
  intro d
  induction d with
  | zero =>
    intro n i m hi hn
    obtain ⟨n, rfl⟩ : ∃ q, n = q + 1 := ⟨n - 1, by omega⟩
    refine ⟨m, ?_, fun _ _ => rfl, fun _ _ => rfl, fun s h1 h2 => by omega⟩
    rw [fl_X0_keep_52, mm_l5, if_pos (nI_le (by omega) (by omega))]
  | succ d ih =>
    intro n i m hi hn
    obtain ⟨n, rfl⟩ : ∃ q, n = q + 1 := ⟨n - 1, by omega⟩
    obtain ⟨m', a1, a2, a3, a4⟩ := ih n (i + 1) (pw_st (pw_st m 21 (b + 2 * i) (m (4 + 4) i)) 21 (b + 2 * i + 1) ((pw_st m 21 (b + 2 * i) (m (4 + 4) i)) (4 + 5) i)) (by omega) (by omega)
    refine ⟨m', ?_, fun j hj => by rw [a2 j hj, ms_row _ _ hj, ms_row _ _ hj], fun x hx => by rw [a3 x (by omega), ms_nj _ _ (by omega), ms_nj _ _ (by omega)], fun s h1 h2 => ?_⟩
    · rw [fl_X0_keep_52, mm_l5, if_neg (nI_ge (by omega) (by omega)), mm_l1, mm_add, mm_add, mm_add, mm_ix (by omega) (by omega), mm_ix (by omega) (by omega), mm_ix (by omega) (by omega), mm_ix (by omega) (by omega)]
      rw [show b + 2 * (i + 1) = b + 2 * i + 1 + 1 by omega] at a1
      exact a1
    · by_cases q : s = i
      · subst q
        rw [a3 _ (by omega), a3 _ (by omega), ms_nj _ _ (by omega), ms_eq, ms_eq, ms_row _ _ (by omega)]
        exact ⟨rfl, rfl⟩
      · have := a4 s (by omega) h2
        rw [this.1, this.2, ms_row _ _ (by omega), ms_row _ _ (by omega), ms_row _ _ (by omega), ms_row _ _ (by omega)]
        exact ⟨rfl, rfl⟩
theorem aX_same {μ μ' : pw_Mem} {S P q : Nat} {τ : Rd} (hS : S ≤ 9) (hP : P ≤ 5) (a : aX μ S P q τ) (h : ∀ x, 20 * q ≤ x → x < 20 * q + 20 → μ' 21 x = μ 21 x) : aX μ' S P q τ := by
  obtain ⟨a1, a2, a3⟩ := a
  refine ⟨by rw [h _ (by omega) (by omega)]; exact a1, fun s hs => by rw [h _ (by omega) (by omega)]; exact a2 s hs, fun p hp => ?_⟩
  rw [h _ (by omega) (by omega), h _ (by omega) (by omega)]
  exact a3 p hp
theorem x_keep {μ : pw_Mem} {ρ : Rd} {kept : Nat} {h : Nat → Rd} (N : rd_X μ 4 ρ) (ok : rk ρ) (hk : kept ≤ 24) (A : acX μ (ρ 0) (ρ 1) kept h) : ∃ μ', fn_X0_keep 4 μ = some μ' ∧ acX μ' (ρ 0) (ρ 1) (hpK kept) (hpH kept h ρ) ∧ ∀ j, j ≠ 20 → j ≠ 21 → μ' j = μ j := by
  have h0 := ok.1
  have h1 := ok.2.1
  obtain ⟨e, e1, e2, e3, e4⟩ := A
  obtain ⟨m1, a1, a2, a3, a4⟩ := x_keep_l1 (b := 20 * e + 1) (by omega) (fun y23_2 m50 => fl_X0_keep_52 (fun m93 => fn_jn1 (fun x115_0 m115 => some (pw_st (pw_st m115 20 2 x115_0) 20 1 (if (24 : Int32) < (((pw_st m115 20 2 x115_0) 20 1) + (1 : Int32)) then (24 : Int32) else (((pw_st m115 20 2 x115_0) 20 1) + (1 : Int32))))) (fun k115 => (if (24 : Int32) ≤ ((m93 20 2) + (1 : Int32)) then k115 (0 : Int32) m93 else k115 ((m93 20 2) + (1 : Int32)) m93))) 4 1000 y23_2 (nI 0) m50) 9 1000 0 (pw_st μ 21 (20 * e) (μ 4 3)) (by omega) (by omega)
  obtain ⟨m2, b1, b2, b3, b4⟩ := x_keep_l2 (b := 20 * e + 1 + 9) (by omega) (fun m93 => fn_jn1 (fun x115_0 m115 => some (pw_st (pw_st m115 20 2 x115_0) 20 1 (if (24 : Int32) < (((pw_st m115 20 2 x115_0) 20 1) + (1 : Int32)) then (24 : Int32) else (((pw_st m115 20 2 x115_0) 20 1) + (1 : Int32))))) (fun k115 => (if (24 : Int32) ≤ ((m93 20 2) + (1 : Int32)) then k115 (0 : Int32) m93 else k115 ((m93 20 2) + (1 : Int32)) m93))) 5 1000 0 m1 (by omega) (by omega)
  have r20 : m2 20 = μ 20 := by rw [b2 20 (by omega), a2 20 (by omega), ms_row _ _ (by omega)]
  have out : ∀ x, x < 20 * e ∨ 20 * e + 20 ≤ x → m2 21 x = μ 21 x := fun x hx => by rw [b3 x (by omega), a3 x (by omega), ms_nj _ _ (by omega)]
  have own : aX m2 (ρ 0) (ρ 1) e ρ := by
    refine ⟨?_, fun s hs => ?_, fun p hp => ?_⟩
    · rw [b3 _ (by omega), a3 _ (by omega), ms_eq]; exact N.2.2.1
    · rw [b3 _ (by omega), a4 s (by omega) (by omega), ms_row _ _ (by omega)]
      exact (N.2.2.2.2.2.1 s hs).2
    · have q := b4 p (by omega) (by omega)
      rw [show 20 * e + 10 + 2 * p = 20 * e + 1 + 9 + 2 * p by omega, show 20 * e + 11 + 2 * p = 20 * e + 1 + 9 + 2 * p + 1 by omega, q.1, q.2, a2 8 (by omega), a2 9 (by omega), ms_row _ _ (by omega), ms_row _ _ (by omega)]
      exact (N.2.2.2.2.2.2 p hp).2
  have other : ∀ q τ, q ≠ e → aX μ (ρ 0) (ρ 1) q τ → aX m2 (ρ 0) (ρ 1) q τ := fun q τ hq hx => aX_same (by omega) h1 hx (fun x x1 x2 => out x (by omega))
  -- the end of it
  have fin : ∀ (E : Nat), E < 24 → E = (e + 1) % 24 → acX (pw_st (pw_st m2 20 2 (nI E)) 20 1 (nI (hpK kept))) (ρ 0) (ρ 1) (hpK kept) (hpH kept h ρ) := by
    intro E hE hE2
    refine ⟨E, hE, ms_eq _ _ _ _, by rw [ms_nj _ _ (by omega), ms_eq], fun k hk2 => ?_⟩
    have st : ∀ q τ, aX m2 (ρ 0) (ρ 1) q τ → aX (pw_st (pw_st m2 20 2 (nI E)) 20 1 (nI (hpK kept))) (ρ 0) (ρ 1) q τ := fun q τ hx => aX_same (by omega) h1 hx (fun x _ _ => by rw [ms_row _ _ (by omega), ms_row _ _ (by omega)])
    apply st
    unfold hpK at hk2 ⊢
    unfold hpH
    by_cases q : kept = 24
    · rw [if_pos q] at hk2 ⊢
      rw [if_pos q]
      by_cases q2 : k = 23
      · rw [if_pos q2, show (E + 24 - 24 + k) % 24 = e by omega]; exact own
      · rw [if_neg q2, show (E + 24 - 24 + k) % 24 = (e + 24 - kept + (k + 1)) % 24 by omega]
        exact other _ _ (by omega) (e4 (k + 1) (by omega))
    · rw [if_neg q] at hk2 ⊢
      rw [if_neg q]
      by_cases q2 : k = kept
      · rw [if_pos q2, show (E + 24 - (kept + 1) + k) % 24 = e by omega]; exact own
      · rw [if_neg q2, show (E + 24 - (kept + 1) + k) % 24 = (e + 24 - kept + k) % 24 by omega]
        exact other _ _ (by omega) (e4 k (by omega))
  have mn : (if (24 : Int32) < nI kept + (1 : Int32) then (24 : Int32) else nI kept + (1 : Int32)) = nI (hpK kept) := by
    rw [mm_l24, mm_l1, mm_add]
    unfold hpK
    by_cases q : kept = 24
    · rw [if_pos q, if_pos (nI_lt (by omega) (by omega))]
    · rw [if_neg q, if_neg (nI_nlt (by omega) (by omega))]
  have beg : fn_X0_keep 4 μ = (fn_jn1 (fun x115_0 m115 => some (pw_st (pw_st m115 20 2 x115_0) 20 1 (if (24 : Int32) < (((pw_st m115 20 2 x115_0) 20 1) + (1 : Int32)) then (24 : Int32) else (((pw_st m115 20 2 x115_0) 20 1) + (1 : Int32))))) (fun k115 => (if (24 : Int32) ≤ ((m2 20 2) + (1 : Int32)) then k115 (0 : Int32) m2 else k115 ((m2 20 2) + (1 : Int32)) m2))) := by
    unfold fn_X0_keep
    rw [e3, mm_l20, mm_mul, mm_ix (by omega) (by omega), mm_l0, show e * 20 = 20 * e by omega, show nI (20 * e) + 1 = nI (20 * e + 1 + 0) from mm_add _ _]
    exact a1.trans b1
  rw [beg, r20, e3, mm_l24, mm_l1, mm_add, mm_j1]
  by_cases q : 24 ≤ e + 1
  · rw [if_pos (nI_le q (by omega))]
    dsimp only
    rw [mm_l0, ms_nj _ _ (by omega), r20, e2, ← mm_l24, ← mm_l1, mn]
    exact ⟨_, rfl, fin 0 (by omega) (by omega), fun j h1 h2 => by rw [ms_row _ _ h1, ms_row _ _ h1, b2 j h2, a2 j h2, ms_row _ _ h2]⟩
  · rw [if_neg (nI_ge (by omega) (by omega))]
    dsimp only
    rw [ms_nj _ _ (by omega), r20, e2, ← mm_l24, ← mm_l1, mn]
    exact ⟨_, rfl, fin (e + 1) (by omega) (by omega), fun j h1 h2 => by rw [ms_row _ _ h1, ms_row _ _ h1, b2 j h2, a2 j h2, ms_row _ _ h2]⟩
theorem m_minds_l (k : pw_Mem → Option pw_Mem) : ∀ (d n i : Nat) (m : pw_Mem), i + d = 460 → d < n → ∃ m', fl_X6_minds_11 k n (nI i) m = k m' ∧ (∀ j, j ≠ 55 → m' j = m j) ∧ (∀ x, x < 190 + i → m' 55 x = m 55 x) ∧ (∀ x, 650 ≤ x → m' 55 x = m 55 x) ∧ ∀ x, i ≤ x → x < 460 → m' 55 (190 + x) = m 55 (210 + x) := by
  intro d
  induction d with
  | zero =>
    intro n i m hi hn
    obtain ⟨n, rfl⟩ : ∃ q, n = q + 1 := ⟨n - 1, by omega⟩
    refine ⟨m, ?_, fun _ _ => rfl, fun _ _ => rfl, fun _ _ => rfl, fun s h1 h2 => by omega⟩
    rw [fl_X6_minds_11, mm_l460, if_pos (nI_le (by omega) (by omega))]
  | succ d ih =>
    intro n i m hi hn
    obtain ⟨n, rfl⟩ : ∃ q, n = q + 1 := ⟨n - 1, by omega⟩
    obtain ⟨m', a1, a2, a3, a4, a5⟩ := ih n (i + 1) (pw_st m 55 (190 + i) (m 55 (190 + i + 20))) (by omega) (by omega)
    refine ⟨m', ?_, fun j hj => by rw [a2 j hj, ms_row _ _ hj], fun x hx => by rw [a3 x (by omega), ms_nj _ _ (by omega)], fun x hx => by rw [a4 x hx, ms_nj _ _ (by omega)], fun x h1 h2 => ?_⟩
    · rw [fl_X6_minds_11, mm_l460, if_neg (nI_ge (by omega) (by omega)), mm_l190, mm_l20, mm_l1, mm_add, mm_add, mm_add, mm_ix (by omega) (by omega), mm_ix (by omega) (by omega)]
      exact a1
    · by_cases q : x = i
      · subst q; rw [a3 _ (by omega), ms_eq, show 190 + x + 20 = 210 + x by omega]
      · rw [a5 x (by omega) h2, ms_nj _ _ (by omega)]
theorem m_minds {μ : pw_Mem} {ρ : Rd} {kept : Nat} {h : Nat → Rd} (N : rd_M μ 0 ρ) (hk : kept ≤ 24) (A : acM μ kept h) : ∃ μ', fn_X6_minds μ = some μ' ∧ acM μ' (hpK kept) (hpH kept h ρ) ∧ (∀ j, j ≠ 54 → j ≠ 55 → μ' j = μ j) ∧ (∀ j, j ≠ 1 → μ' 54 j = μ 54 j) ∧ ∀ i, i < 190 → μ' 55 i = μ 55 i := by
  obtain ⟨e1, e2⟩ := A
  unfold fn_X6_minds
  rw [mm_j0, e1]
  by_cases q : kept = 24
  · subst q
    obtain ⟨m1, a1, a2, a3, a4, a5⟩ := m_minds_l (fun m47 => (fun m57 => fn_bv (fn_X6_copyOf (18 : Int32) ((190 : Int32) + ((20 : Int32) * (m57 54 1))) (20 : Int32) m57) (fun m73 => some (pw_st m73 54 1 ((m73 54 1) + (1 : Int32))))) (pw_st m47 54 1 ((m47 54 1) - (1 : Int32)))) 460 1000 0 μ (by omega) (by omega)
    obtain ⟨m2, b1, b2, b3, b4⟩ := m_copyOf (a := 18) (b := 190 + 20 * 23) (N := 20) (by omega) (by omega) (by omega) (pw_st m1 54 1 (nI 23))
    rw [mm_l24, if_neg (fun z => z rfl), mm_l0]
    rw [a1]
    dsimp only
    rw [a2 54 (by omega), e1, mm_l1, mm_sub (by omega), ms_eq, mm_l18, mm_l190, mm_l20, mm_mul, mm_add, b1, mm_bv, b2 54 (by omega), ms_eq, mm_add]
    refine ⟨_, rfl, ⟨ms_eq _ _ _ _, fun k hk2 i hi => ?_⟩, fun j h1 h2 => by rw [ms_row _ _ h1, b2 j h2, ms_row _ _ h1, a2 j h2], fun j hj => by rw [ms_nj _ _ hj, b2 54 (by omega), ms_nj _ _ hj, a2 54 (by omega)], fun i hi => by rw [ms_row _ _ (by omega), b3 i (by omega), ms_row _ _ (by omega), a3 i (by omega)]⟩
    rw [ms_row _ _ (by omega)]
    have hk3 : k < 24 := hk2
    unfold hpH
    rw [if_pos rfl]
    by_cases q2 : k = 23
    · subst q2
      rw [if_pos rfl, b4 i hi, ms_row _ _ (by omega), a3 _ (by omega)]
      have := N (18 + i) (by omega)
      rwa [Nat.zero_add] at this
    · rw [if_neg q2, b3 _ (by omega), ms_row _ _ (by omega), show 190 + 20 * k + i = 190 + (20 * k + i) by omega, a5 (20 * k + i) (by omega) (by omega)]
      have := e2 (k + 1) (by omega) i hi
      rwa [show 190 + 20 * (k + 1) + i = 210 + (20 * k + i) by omega] at this
  · obtain ⟨m2, b1, b2, b3, b4⟩ := m_copyOf (a := 18) (b := 190 + 20 * kept) (N := 20) (by omega) (by omega) (by omega) μ
    rw [mm_l24, if_pos (by rw [mm_ne (by omega) (by omega)]; exact q)]
    dsimp only
    rw [e1, mm_l18, mm_l190, mm_l20, mm_mul, mm_add, b1, mm_bv, b2 54 (by omega), e1, mm_l1, mm_add]
    refine ⟨_, rfl, ⟨by rw [ms_eq, hpK, if_neg q], fun k hk2 i hi => ?_⟩, fun j h1 h2 => by rw [ms_row _ _ h1, b2 j h2], fun j hj => by rw [ms_nj _ _ hj, b2 54 (by omega)], fun i hi => by rw [ms_row _ _ (by omega), b3 i (by omega)]⟩
    rw [ms_row _ _ (by omega)]
    rw [hpK, if_neg q] at hk2
    unfold hpH
    rw [if_neg q]
    by_cases q2 : k = kept
    · subst q2
      rw [if_pos rfl, b4 i hi]
      have := N (18 + i) (by omega)
      rwa [Nat.zero_add] at this
    · rw [if_neg q2, b3 _ (by omega)]
      exact e2 k (by omega) i hi
