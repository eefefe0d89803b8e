/-! FITS -/
theorem rk_kind {ρ : Rd} (ok : rk ρ) {p v : Nat} (hp : p < ρ 1) (hv : 1 ≤ v ∧ v ≤ 5) : rk (upR ρ (13 + p) v) := by
  obtain ⟨g0, g1, g2, g3, g4, g5⟩ := ok
  unfold rk
  rw [upR_ne ρ v (show 0 ≠ 13 + p by omega), upR_ne ρ v (show 1 ≠ 13 + p by omega), upR_ne ρ v (show 2 ≠ 13 + p by omega), upR_ne ρ v (show 3 ≠ 13 + p by omega)]
  refine ⟨g0, g1, g2, g3, fun s hs => ⟨?_, ?_⟩, fun q hq => ⟨?_, ?_, ?_⟩⟩
  · rw [upR_ne _ _ (by omega)]; exact (g4 s hs).1
  · rw [upR_ne _ _ (by omega)]; exact (g4 s hs).2
  · by_cases z : q = p
    · subst z; rw [upR_eq]; exact hv
    · rw [upR_ne _ _ (by omega)]; exact (g5 q hq).1
  · rw [upR_ne _ _ (by omega)]; exact (g5 q hq).2.1
  · rw [upR_ne _ _ (by omega)]; exact (g5 q hq).2.2
theorem rk_hard {ρ : Rd} (ok : rk ρ) {v : Nat} (hv : v < ρ 2) : rk (upR ρ 3 v) := by
  obtain ⟨g0, g1, g2, g3, g4, g5⟩ := ok
  unfold rk
  rw [upR_ne ρ v (show 0 ≠ 3 by omega), upR_ne ρ v (show 1 ≠ 3 by omega), upR_ne ρ v (show 2 ≠ 3 by omega), upR_eq]
  refine ⟨g0, g1, g2, hv, fun s hs => ⟨?_, ?_⟩, fun q hq => ⟨?_, ?_, ?_⟩⟩
  · rw [upR_ne _ _ (by omega)]; exact (g4 s hs).1
  · rw [upR_ne _ _ (by omega)]; exact (g4 s hs).2
  · rw [upR_ne _ _ (by omega)]; exact (g5 q hq).1
  · rw [upR_ne _ _ (by omega)]; exact (g5 q hq).2.1
  · rw [upR_ne _ _ (by omega)]; exact (g5 q hq).2.2
theorem x_kindS {μ : pw_Mem} {o : Nat} {ρ : Rd} (h : rd_X μ o ρ) (ok : rk ρ) {s : Nat} (hs : s < ρ 1) (v : Nat) : rd_X (pw_st μ (o + 3) s (nI v)) o (upR ρ (13 + s) v) := by
  obtain ⟨a1, a2, a3, a4, a5, a6, a7⟩ := h
  have h1 := ok.2.1
  have h0 := ok.1
  unfold rd_X
  rw [upR_ne ρ v (show 0 ≠ 13 + s by omega), upR_ne ρ v (show 1 ≠ 13 + s by omega), upR_ne ρ v (show 2 ≠ 13 + s by omega), upR_ne ρ v (show 3 ≠ 13 + s by omega), upR_ne ρ v (show 18 ≠ 13 + s by omega)]
  refine ⟨by rw [ms_ne _ _ (by omega)]; exact a1, by rw [ms_ne _ _ (by omega)]; exact a2, by rw [ms_ne _ _ (by omega)]; exact a3, by rw [ms_ne _ _ (by omega)]; exact a4, by rw [ms_ne _ _ (by omega)]; exact a5, fun t ht => ⟨?_, ?_⟩, fun p hp => ⟨?_, ?_, ?_⟩⟩
  · rw [ms_ne _ _ (by omega), upR_ne _ _ (by omega)]; exact (a6 t ht).1
  · rw [ms_ne _ _ (by omega), upR_ne _ _ (by omega)]; exact (a6 t ht).2
  · by_cases q : p = s
    · subst q; rw [ms_eq, upR_eq]
    · rw [ms_ne _ _ (by omega), upR_ne _ _ (by omega)]; exact (a7 p hp).1
  · rw [ms_ne _ _ (by omega), upR_ne _ _ (by omega)]; exact (a7 p hp).2.1
  · rw [ms_ne _ _ (by omega), upR_ne _ _ (by omega)]; exact (a7 p hp).2.2
theorem x_hardS {μ : pw_Mem} {o : Nat} {ρ : Rd} (h : rd_X μ o ρ) (v : Nat) : rd_X (pw_st μ o 2 (nI v)) o (upR ρ 3 v) := by
  obtain ⟨a1, a2, a3, a4, a5, a6, a7⟩ := h
  unfold rd_X
  rw [upR_ne ρ v (show 0 ≠ 3 by omega), upR_ne ρ v (show 1 ≠ 3 by omega), upR_ne ρ v (show 2 ≠ 3 by omega), upR_ne ρ v (show 18 ≠ 3 by omega), upR_eq]
  refine ⟨by rw [ms_ne _ _ (by omega)]; exact a1, ms_eq _ _ _ _, by rw [ms_ne _ _ (by omega)]; exact a3, by rw [ms_ne _ _ (by omega)]; exact a4, by rw [ms_ne _ _ (by omega)]; exact a5, fun t ht => ⟨?_, ?_⟩, fun p hp => ⟨?_, ?_, ?_⟩⟩
  · rw [ms_ne _ _ (by omega), upR_ne _ _ (by omega)]; exact (a6 t ht).1
  · rw [ms_ne _ _ (by omega), upR_ne _ _ (by omega)]; exact (a6 t ht).2
  · rw [ms_ne _ _ (by omega), upR_ne _ _ (by omega)]; exact (a7 p hp).1
  · rw [ms_ne _ _ (by omega), upR_ne _ _ (by omega)]; exact (a7 p hp).2.1
  · rw [ms_ne _ _ (by omega), upR_ne _ _ (by omega)]; exact (a7 p hp).2.2
/-- the place that is supposed, the first and the end of what is -/
def f_pl (w p : Nat) : Nat := if w = 0 then 13 + p else if w = 1 then 19 + p else if w = 2 then 3 else 24 + p
def f_st (w : Nat) : Nat := if w = 0 then 1 else 0
def f_en (ρ : Rd) (w : Nat) : Nat := if w = 0 then 6 else if w = 1 then ρ 0 else ρ 2
theorem f_pl_lt {w p : Nat} (hp : p < 5) : f_pl w p < 38 := by unfold f_pl; repeat (first | split | omega)
theorem f_en_b {ρ : Rd} (ok : rk ρ) (w : Nat) : f_st w < f_en ρ w ∧ f_en ρ w ≤ 16 := by
  have h0 := ok.1
  have h2 := ok.2.2.1
  unfold f_st f_en
  repeat (first | split | omega)
theorem rk_sup {ρ : Rd} (ok : rk ρ) {w p v : Nat} (hp : p < ρ 1) (h1 : f_st w ≤ v) (h2 : v < f_en ρ w) : rk (upR ρ (f_pl w p) v) := by
  unfold f_st at h1
  unfold f_en at h2
  unfold f_pl
  by_cases q0 : w = 0
  · rw [if_pos q0] at h1 h2 ⊢; exact rk_kind ok hp (by omega)
  · rw [if_neg q0] at h1 h2 ⊢
    by_cases q1 : w = 1
    · rw [if_pos q1] at h2 ⊢; exact rk_at ok hp h2
    · rw [if_neg q1] at h2 ⊢
      by_cases q2 : w = 2
      · rw [if_pos q2]; exact rk_hard ok h2
      · rw [if_neg q2]; exact rk_word ok hp h2
theorem x_suppose {μ : pw_Mem} {ρ : Rd} (h : rd_X μ 11 ρ) (ok : rk ρ) {w p v : Nat} (hp : p < ρ 1) (hw : w ≤ 3) : ∃ μ', fn_X5_suppose (nI p) (nI w) (nI v) μ = some μ' ∧ rd_X μ' 11 (upR ρ (f_pl w p) v) ∧ ∀ k, k < 11 ∨ 17 < k → μ' k = μ k := by
  have g1 := ok.2.1
  have a : w = 0 ∨ w = 1 ∨ w = 2 ∨ w = 3 := by omega
  unfold fn_X5_suppose
  rcases a with rfl | rfl | rfl | rfl
  · rw [if_neg (by decide), mm_ix (by omega) (by omega)]
    exact ⟨_, rfl, x_kindS h ok hp v, fun k hk => ms_row _ _ (by omega)⟩
  · rw [if_pos (by decide), if_neg (by decide), mm_ix (by omega) (by omega)]
    exact ⟨_, rfl, x_at h ok hp v, fun k hk => ms_row _ _ (by omega)⟩
  · rw [if_pos (by decide), if_pos (by decide), if_neg (by decide)]
    exact ⟨_, rfl, x_hardS h v, fun k hk => ms_row _ _ (by omega)⟩
  · rw [if_pos (by decide), if_pos (by decide), if_pos (by decide), mm_ix (by omega) (by omega)]
    exact ⟨_, rfl, x_word h ok hp v, fun k hk => ms_row _ _ (by omega)⟩
/-- does the pulpit go as it is told? -/
def r_so (σ : Rd) (p : Nat) (T : Nat → Int32) : Nat → Nat
  | 0 => 1
  | h + 1 => if r_so σ p T h = 1 ∧ nI (r_hours σ (h + 1) (19 + p)) = T h then 1 else 0
theorem r_so_c (σ : Rd) (p : Nat) (T : Nat → Int32) : ∀ h, r_so σ p T h = 0 ∨ r_so σ p T h = 1
  | 0 => Or.inr rfl
  | h + 1 => by unfold r_so; split <;> omega
theorem r_so_0 {σ : Rd} {p : Nat} {T : Nat → Int32} {h : Nat} (q : r_so σ p T h = 0) : ∀ d, r_so σ p T (h + d) = 0
  | 0 => q
  | d + 1 => by
    have := r_so_0 q d
    rw [← Nat.add_assoc, r_so, if_neg (by rw [this]; omega)]
theorem x_goes_l {σ : Rd} (ok : rk σ) {p i D o2 : Nat} {T : Nat → Int32} (hp : p < σ 1) (ho : 17 < o2) (hi : i + D ≤ 40) : ∀ (d n h : Nat) (m : pw_Mem), rd_X m 11 (r_hours σ h) → (∀ x, x < D → m (o2 + 1) (i + x) = T x) → r_so σ p T h = 1 → h + d = D → d < n → ∃ m', fl_X5_goesAsTold_3 (fun m46 => fn_bz (1 : Int32) (some ((1 : Int32), m46))) (nI p) o2 (nI i) (nI D) n (nI h) m = some (nI (r_so σ p T D), m') ∧ ∀ k, k < 11 ∨ 17 < k → m' k = m k := by
  intro d
  have g1 := ok.2.1
  induction d with
  | zero =>
    intro n h m hx hT q hd hn
    obtain ⟨n, rfl⟩ : ∃ q, n = q + 1 := ⟨n - 1, by omega⟩
    refine ⟨m, ?_, fun _ _ => rfl⟩
    rw [fl_X5_goesAsTold_3, if_pos (nI_le (by omega) (by omega)), ← hd, Nat.add_zero, q]; rfl
  | succ d ih =>
    intro n h m hx hT q hd hn
    obtain ⟨n, rfl⟩ : ∃ q, n = q + 1 := ⟨n - 1, by omega⟩
    obtain ⟨m1, a1, a2, a3, -, -⟩ := x_goHour hx (rk_hours ok h)
    have l1 : r_hour (r_hours σ h) 1 = σ 1 := r_hours_lo σ (by omega) (h + 1)
    have e4 := (a2.2.2.2.2.2.2 p (by rw [l1]; exact hp)).2.1
    have eT : m1 (o2 + 1) (i + h) = T h := by rw [a3 _ (by omega)]; exact hT h (by omega)
    rw [fl_X5_goesAsTold_3, if_neg (nI_ge (by omega) (by omega)), a1, mm_bv, mm_ix (by omega) (by omega), mm_add, mm_ix (by omega) (by omega), e4, eT]
    by_cases z : nI (r_hour (r_hours σ h) (19 + p)) = T h
    · rw [if_pos z]
      obtain ⟨m', b1, b2⟩ := ih n (h + 1) m1 a2 (fun x hx => by rw [a3 _ (by omega)]; exact hT x hx) (by rw [r_so, if_pos ⟨q, z⟩]) (by omega) (by omega)
      exact ⟨m', by rw [show nI h + 1 = nI (h + 1) from mm_add h 1]; exact b1, fun k hk => by rw [b2 k hk, a3 k (by omega)]⟩
    · rw [if_neg z]
      have z0 : r_so σ p T (h + 1) = 0 := by rw [r_so, if_neg (fun y => z y.2)]
      have zD : r_so σ p T D = 0 := by have := r_so_0 z0 d; rwa [show h + 1 + d = D by omega] at this
      exact ⟨m1, by rw [zD]; rfl, fun k hk => a3 k (by omega)⟩
theorem m_isSo_l {σ : Rd} (ok : rk σ) {p c D : Nat} {T : Nat → Int32} (hp : p < σ 1) (hc : c + D ≤ 320) (k : Int32 → pw_Mem → Option (Int32 × pw_Mem)) : ∀ (d n h : Nat) (m : pw_Mem), rd_M m 38 (r_hours σ h) → (∀ x, x < D → m 59 (c + x) = T x) → r_so σ p T h = 1 → h + d = D → d < n → ∃ m', fl_X6_isSo_6 k (nI p) (nI c) (nI D) n (nI 1) (nI h) m = k (nI (r_so σ p T D)) m' ∧ Fr m m' := by
  intro d
  have g1 := ok.2.1
  induction d with
  | zero =>
    intro n h m hx hT q hd hn
    obtain ⟨n, rfl⟩ : ∃ q, n = q + 1 := ⟨n - 1, by omega⟩
    refine ⟨m, ?_, Fr.rfl' m⟩
    rw [fl_X6_isSo_6, if_pos (nI_le (by omega) (by omega)), ← hd, Nat.add_zero, q]
  | succ d ih =>
    intro n h m hx hT q hd hn
    obtain ⟨n, rfl⟩ : ∃ q, n = q + 1 := ⟨n - 1, by omega⟩
    obtain ⟨m1, a1, a2, a3, a4⟩ := m_hour hx (rk_hours ok h) (by omega)
    have e4 : m1 55 (57 + p) = nI (r_hour (r_hours σ h) (19 + p)) := by have := a2 (19 + p) (by omega); rwa [show 38 + (19 + p) = 57 + p by omega] at this
    have eT : m1 59 (c + h) = T h := by rw [a3 _ (by omega)]; exact hT h (by omega)
    have F1 : Fr m m1 := Fr_m a3 (fun j hj => a4 j (by omega))
    rw [fl_X6_isSo_6, if_neg (nI_ge (by omega) (by omega)), if_neg n10, mm_l38, mm_l0, a1, mm_bv, mm_l57, mm_add, mm_add, mm_ix (by omega) (by omega), mm_ix (by omega) (by omega), e4, eT, mm_j1]
    by_cases z : nI (r_hour (r_hours σ h) (19 + p)) = T h
    · rw [if_neg (fun y => y z)]
      obtain ⟨m', b1, b2⟩ := ih n (h + 1) m1 a2 (fun x hx => by rw [a3 _ (by omega)]; exact hT x hx) (by rw [r_so, if_pos ⟨q, z⟩]) (by omega) (by omega)
      exact ⟨m', by rw [show nI h + 1 = nI (h + 1) from mm_add h 1]; exact b1, F1.trans b2⟩
    · rw [if_pos z]
      have z0 : r_so σ p T (h + 1) = 0 := by rw [r_so, if_neg (fun y => z y.2)]
      have zD : r_so σ p T D = 0 := by have := r_so_0 z0 d; rwa [show h + 1 + d = D by omega] at this
      refine ⟨m1, ?_, F1⟩
      obtain ⟨n, rfl⟩ : ∃ q, n = q + 1 := ⟨n - 1, by omega⟩
      dsimp only
      rw [fl_X6_isSo_6, if_pos n00, zD]
      split <;> rfl
/-- the guesses that fit, as bits -/
def r_ft (ρ : Rd) (w p D : Nat) (T : Nat → Int32) : Nat → Nat
  | 0 => 0
  | v + 1 => if f_st w ≤ v ∧ r_so (upR ρ (f_pl w p) v) p T D = 1 then r_ft ρ w p D T v ||| 2 ^ v else r_ft ρ w p D T v
theorem r_ft_lt (ρ : Rd) (w p D : Nat) (T : Nat → Int32) : ∀ i, r_ft ρ w p D T i < 2 ^ i
  | 0 => by show 0 < 2 ^ 0; decide
  | i + 1 => by
    have := r_ft_lt ρ w p D T i
    have h2 : 2 ^ i < 2 ^ (i + 1) := Nat.pow_lt_pow_right (by omega) (by omega)
    unfold r_ft
    split
    · exact Nat.or_lt_two_pow (by omega) h2
    · omega
theorem r_ft_st (ρ : Rd) (w p D : Nat) (T : Nat → Int32) : r_ft ρ w p D T (f_st w) = 0 := by
  unfold f_st
  by_cases q : w = 0
  · rw [if_pos q, r_ft, if_neg (by unfold f_st; rw [if_pos q]; omega)]; rfl
  · rw [if_neg q]; rfl
theorem x_fits_l {ρ : Rd} (ok : rk ρ) {p i D o2 w : Nat} {T : Nat → Int32} (hp : p < ρ 1) (ho : 17 < o2) (hi : i + D ≤ 40) (hw : w ≤ 3) (k : Int32 → pw_Mem → Option (Int32 × pw_Mem)) : ∀ (d n v : Nat) (m : pw_Mem), rd_X m 4 ρ → m 4 0 = nI 1 → (∀ x, x < D → m (o2 + 1) (i + x) = T x) → f_st w ≤ v → v + d = f_en ρ w → d < n → ∃ m', fl_X5_fits_101 k (nI p) (nI i) (nI D) (nI w) o2 (nI (f_en ρ w)) n (nI (r_ft ρ w p D T v)) (nI v) m = k (nI (r_ft ρ w p D T (f_en ρ w))) m' ∧ ∀ k, k < 11 ∨ 17 < k → m' k = m k := by
  intro d
  have g0 := ok.1
  have g1 := ok.2.1
  have fe := f_en_b ok w
  induction d with
  | zero =>
    intro n v m h hs hT hv hd hn
    obtain ⟨n, rfl⟩ : ∃ q, n = q + 1 := ⟨n - 1, by omega⟩
    refine ⟨m, ?_, fun _ _ => rfl⟩
    rw [fl_X5_fits_101, if_pos (nI_le (by omega) (by omega)), ← hd, Nat.add_zero]
  | succ d ih =>
    intro n v m h hs hT hv hd hn
    obtain ⟨n, rfl⟩ : ∃ q, n = q + 1 := ⟨n - 1, by omega⟩
    obtain ⟨m1, a1, a2, a3, a4⟩ := x_take (o := 11) h (by omega) g1 (by omega) (Or.inr hs)
    obtain ⟨m2, b1, b2, b3⟩ := x_suppose (w := w) (p := p) (v := v) a2 ok hp hw
    have oks := rk_sup (w := w) (p := p) (v := v) ok hp hv (by omega)
    have hp2 : p < (upR ρ (f_pl w p) v) 1 := by
      rw [upR_ne _ _]
      · exact hp
      · unfold f_pl; repeat (first | split | omega)
    have F2 : ∀ k, k < 11 ∨ 17 < k → m2 k = m k := fun k hk => by rw [b3 k hk, a4 k (by omega)]
    obtain ⟨m3, c1, c2⟩ := x_goes_l (T := T) oks hp2 ho hi D 1000 0 m2 b2 (fun x hx => by rw [F2 _ (by omega)]; exact hT x hx) rfl (by omega) (by omega)
    have F3 : ∀ k, k < 11 ∨ 17 < k → m3 k = m k := fun k hk => by rw [c2 k hk, F2 k hk]
    obtain ⟨m', e1, e2⟩ := ih n (v + 1) m3 (x_other h (fun j hj => F3 _ (by omega))) (by rw [F3 4 (by omega)]; exact hs) (fun x hx => by rw [F3 _ (by omega)]; exact hT x hx) (by omega) (by omega) (by omega)
    refine ⟨m', ?_, fun k hk => by rw [e2 k hk, F3 k hk]⟩
    rw [r_ft] at e1
    have c1' : fn_X5_goesAsTold (nI p) o2 (nI i) (nI D) m2 = some (nI (r_so (upR ρ (f_pl w p) v) p T D), m3) := c1
    rw [fl_X5_fits_101, if_neg (nI_ge (by omega) (by omega)), a1, mm_bv, b1, mm_bv, c1', mm_bi, mm_j1, show nI v + 1 = nI (v + 1) from mm_add v 1]
    rcases r_so_c (upR ρ (f_pl w p) v) p T D with z | z
    · rw [z, if_pos n00]
      rw [if_neg (by rw [z]; omega)] at e1
      exact e1
    · rw [z, if_neg n10, mm_l1, mm_l31, mm_one (by omega), mm_or]
      rw [if_pos ⟨hv, z⟩] at e1
      exact e1
theorem m_fits_l {ρ : Rd} (ok : rk ρ) {p r i D w : Nat} {T : Nat → Int32} (hp : p < ρ 1) (hr : r < 8) (hi : i + D ≤ 40) (k : Int32 → pw_Mem → Option (Int32 × pw_Mem)) : ∀ (d n v : Nat) (m : pw_Mem), rd_M m 0 ρ → (∀ x, x < D → m 59 (40 * r + i + x) = T x) → f_st w ≤ v → v + d = f_en ρ w → d < n → ∃ m', fl_X6_fits_163 k (nI p) (nI r) (nI i) (nI D) (nI (f_pl w p)) (nI (f_en ρ w - 1)) n (nI (r_ft ρ w p D T v)) (nI v) m = k (nI (r_ft ρ w p D T (f_en ρ w))) m' ∧ Fr m m' := by
  intro d
  have g0 := ok.1
  have g1 := ok.2.1
  have fe := f_en_b ok w
  have fp : f_pl w p < 38 := f_pl_lt (by omega)
  induction d with
  | zero =>
    intro n v m h hT hv hd hn
    obtain ⟨n, rfl⟩ : ∃ q, n = q + 1 := ⟨n - 1, by omega⟩
    refine ⟨m, ?_, Fr.rfl' m⟩
    rw [fl_X6_fits_163, if_pos (nI_lt (by omega) (by omega)), ← hd, Nat.add_zero]
  | succ d ih =>
    intro n v m h hT hv hd hn
    obtain ⟨n, rfl⟩ : ∃ q, n = q + 1 := ⟨n - 1, by omega⟩
    obtain ⟨m1, a1, a2, a3, a4⟩ := m_tries h
    have a5 := m_up a2 (f_pl w p) v
    have oks := rk_sup (w := w) (p := p) (v := v) ok hp hv (by omega)
    have hp2 : p < (upR ρ (f_pl w p) v) 1 := by
      rw [upR_ne _ _]
      · exact hp
      · unfold f_pl; repeat (first | split | omega)
    obtain ⟨m3, c1, c2⟩ := m_isSo_l (T := T) (D := D) (c := 40 * r + i) oks hp2 (by omega) (fun y6_4 m58 => fn_bz y6_4 (some (y6_4, m58))) D 1000 0 _ a5 (fun x hx => by rw [ms_row _ _ (by omega), a3 _ (by omega)]; exact hT x hx) rfl (by omega) (by omega)
    have F3 : Fr m m3 := (Fr_m a3 a4).trans ((Fr_m (fun j hj => ms_row _ _ hj) (fun j hj => ms_nj _ _ (by omega))).trans c2)
    obtain ⟨m', e1, e2⟩ := ih n (v + 1) m3 (fun j hj => by rw [F3.2.2.2 _ (by omega)]; exact h j hj) (fun x hx => by rw [F3.1 59 (by omega)]; exact hT x hx) (by omega) (by omega) (by omega)
    refine ⟨m', ?_, F3.trans e2⟩
    rw [r_ft] at e1
    have c1' : fn_X6_isSo (nI p) (nI (40 * r + i)) (nI D) (pw_st m1 55 (38 + f_pl w p) (nI v)) = some (nI (r_so (upR ρ (f_pl w p) v) p T D), m3) := by
      refine c1.trans ?_
      rcases r_so_c (upR ρ (f_pl w p) v) p T D with z | z <;> rw [z] <;> rfl
    rw [fl_X6_fits_163, if_neg (nI_nlt (by omega) (by omega)), a1, mm_bv, mm_l38, mm_add, mm_ix (by omega) (by omega), mm_l40, mm_mul, mm_add, c1', mm_bi, mm_j1, show nI v + 1 = nI (v + 1) from mm_add v 1]
    rcases r_so_c (upR ρ (f_pl w p) v) p T D with z | z
    · rw [z, if_pos n00]; dsimp only; rw [mm_l0, mm_or, Nat.or_zero]
      rw [if_neg (by rw [z]; omega)] at e1
      exact e1
    · rw [z, if_neg n10, mm_l1, mm_l31, mm_one (by omega)]; dsimp only; rw [mm_or]
      rw [if_pos ⟨hv, z⟩] at e1
      exact e1
theorem q_fits {μ : pw_Mem} (I : Iv μ) (a1 a2 a3 a4 a5 : Int32) : Ok2 (fn_X5_fits a1 a2 a3 a4 a5) (fn_X6_fits a1 a2 a3 a4 a5) μ := by
  have I' := I
  obtain ⟨ρ, N, A, G, W, T, U, V⟩ := I
  obtain ⟨B0, B1, B2⟩ := N.b0
  unfold Ok2
  have Y1 := x_isPulpit N.1 B1 a1
  have Z1 := m_isPulpit N.2.1 B1 a1
  rcases bw_c a1 0 ((ρ 1 : Int) - 1) with b1 | ⟨b1, c1, e1⟩
  · exact ⟨(-1000001 : Int32), μ, μ, by simp only [fn_X5_fits, Y1, b1, mm_bi, mm_n00, mm_n10, if_true, if_false, ne_eq, not_true_eq_false, not_false_eq_true], by simp only [fn_X6_fits, Z1, b1, mm_bi, mm_n00, mm_n10, if_true, if_false, ne_eq, not_true_eq_false, not_false_eq_true], I'⟩
  clear Y1 Z1
  obtain ⟨j1, rfl, l1, u1, t1⟩ := bw_n c1 e1 (by omega)
  clear c1 e1
  have X1 : fn_X5_isPulpit (nI j1) μ = some (nI 1, μ) := by rw [x_isPulpit N.1 B1, b1]
  have M1 : ∀ m, rd_M m 0 ρ → fn_X6_isPulpit (nI j1) m = some (nI 1, m) := fun m h => by rw [m_isPulpit h B1, b1]
  clear b1
  have Y2 := x_isRow a2 μ
  have Z2 := m_isRow a2 μ
  rcases bw_c a2 0 7 with b2 | ⟨b2, c2, e2⟩
  · exact ⟨(-1000001 : Int32), μ, μ, by simp only [fn_X5_fits, X1, Y2, b2, mm_bi, mm_n00, mm_n10, if_true, if_false, ne_eq, not_true_eq_false, not_false_eq_true], by simp only [fn_X6_fits, M1 μ N.2.1, Z2, b2, mm_bi, mm_n00, mm_n10, if_true, if_false, ne_eq, not_true_eq_false, not_false_eq_true], I'⟩
  clear Y2 Z2
  obtain ⟨j2, rfl, l2, u2, t2⟩ := bw_n c2 e2 (by omega)
  clear c2 e2
  have X2 : ∀ m, fn_X5_isRow (nI j2) m = some (nI 1, m) := fun m => by rw [x_isRow, b2]
  have M2 : ∀ m, fn_X6_isRow (nI j2) m = some (nI 1, m) := fun m => by rw [m_isRow, b2]
  clear b2
  have Y4 := (show fn_X5_isWithin a4 (1 : Int32) (12 : Int32) μ = some (nI (bw a4 1 12), μ) from x_isWithin a4 _ _ μ)
  have Z4 := (show fn_X6_in a4.toInt64 (1 : Int64) (12 : Int64) μ = some (nI (bw a4 1 12), μ) from m_in_nat a4 (lo := 1) (hi := 12) (by omega) (by omega) μ)
  rcases bw_c a4 1 12 with b4 | ⟨b4, c4, e4⟩
  · exact ⟨(-1000001 : Int32), μ, μ, by simp only [fn_X5_fits, X1, X2, Y4, b4, mm_bi, mm_n00, mm_n10, if_true, if_false, ne_eq, not_true_eq_false, not_false_eq_true], by simp only [fn_X6_fits, M1 μ N.2.1, M2, Z4, b4, mm_bi, mm_n00, mm_n10, if_true, if_false, ne_eq, not_true_eq_false, not_false_eq_true], I'⟩
  clear Y4 Z4
  obtain ⟨j4, rfl, l4, u4, t4⟩ := bw_n c4 e4 (by omega)
  clear c4 e4
  have X4 : ∀ m, fn_X5_isWithin (nI j4) (1 : Int32) (12 : Int32) m = some (nI 1, m) := fun m => by rw [(show fn_X5_isWithin _ (1 : Int32) (12 : Int32) m = some (nI (bw _ 1 12), m) from x_isWithin _ _ _ m), b4]
  have M4 : ∀ m, fn_X6_in ((nI j4)).toInt64 (1 : Int64) (12 : Int64) m = some (nI 1, m) := fun m => by rw [(show fn_X6_in _ (1 : Int64) (12 : Int64) m = some (nI (bw _ 1 12), m) from m_in_nat _ (lo := 1) (hi := 12) (by omega) (by omega) m), b4]
  clear b4
  have Y5 := (show fn_X5_isWithin a5 (0 : Int32) (3 : Int32) μ = some (nI (bw a5 0 3), μ) from x_isWithin a5 _ _ μ)
  have Z5 := (show fn_X6_in a5.toInt64 (0 : Int64) (3 : Int64) μ = some (nI (bw a5 0 3), μ) from m_in_nat a5 (lo := 0) (hi := 3) (by omega) (by omega) μ)
  rcases bw_c a5 0 3 with b5 | ⟨b5, c5, e5⟩
  · exact ⟨(-1000001 : Int32), μ, μ, by simp only [fn_X5_fits, X1, X2, X4, Y5, b5, mm_bi, mm_n00, mm_n10, if_true, if_false, ne_eq, not_true_eq_false, not_false_eq_true], by simp only [fn_X6_fits, M1 μ N.2.1, M2, M4, Z5, b5, mm_bi, mm_n00, mm_n10, if_true, if_false, ne_eq, not_true_eq_false, not_false_eq_true], I'⟩
  clear Y5 Z5
  obtain ⟨j5, rfl, l5, u5, t5⟩ := bw_n c5 e5 (by omega)
  clear c5 e5
  have X5 : ∀ m, fn_X5_isWithin (nI j5) (0 : Int32) (3 : Int32) m = some (nI 1, m) := fun m => by rw [(show fn_X5_isWithin _ (0 : Int32) (3 : Int32) m = some (nI (bw _ 0 3), m) from x_isWithin _ _ _ m), b5]
  have M5 : ∀ m, fn_X6_in ((nI j5)).toInt64 (0 : Int64) (3 : Int64) m = some (nI 1, m) := fun m => by rw [(show fn_X6_in _ (0 : Int64) (3 : Int64) m = some (nI (bw _ 0 3), m) from m_in_nat _ (lo := 0) (hi := 3) (by omega) (by omega) m), b5]
  clear b5
  obtain ⟨hs, ok⟩ := N.rk_of (by omega)
  have hlt : j2 < 8 := by omega
  have h0 := ok.1
  have h2 := ok.2.2.1
  rcases W j2 hlt with ⟨w1, w2⟩ | ⟨n, L, w1, w2, w3, w4, w5, w6, w7, w8⟩
  · refine ⟨(-1000010 : Int32) - (1 : Int32), pw_st μ 0 9 1, pw_st (pw_st μ 0 9 1) 54 5 1, ?_, ?_, I'.find 1⟩
    · simp only [fn_X5_fits, X1, X2, X4, X5, mm_bi, mm_n00, mm_n10, if_true, if_false, ne_eq, not_true_eq_false, not_false_eq_true]
      rw [mm_ix (by omega) (by omega), w1, if_neg n10, x_found, mm_bi]
    · have R : rd_M (pw_st μ 0 9 1) 0 ρ := rd_M_same N.2.1 (fun i _ => by rw [ms_row _ _ (by omega)])
      simp only [fn_X6_fits, M1 _ R, M2, M4, M5, mm_bi, mm_n00, mm_n10, if_true, if_false, ne_eq, not_true_eq_false, not_false_eq_true]
      rw [m_against0 hlt (by rw [ms_row _ _ (by omega)]; exact w2), mm_bi, if_neg (by decide), show nI 1 = (1 : Int32) from rfl, m_finds, mm_bi]
  by_cases q : hp n a3 (nI j4)
  rotate_left
  · refine ⟨(-1000010 : Int32) - (2 : Int32), pw_st μ 0 9 2, pw_st (pw_st μ 0 9 2) 54 5 2, ?_, ?_, I'.find 2⟩
    · simp only [fn_X5_fits, X1, X2, X4, X5, mm_bi, mm_n00, mm_n10, if_true, if_false, ne_eq, not_true_eq_false, not_false_eq_true]
      rw [mm_ix (by omega) (by omega), w3, if_pos n00, (x_hasPlaces w6 w1 _ _).2 q, mm_bi, if_neg (fun z => z n00), x_found, mm_bi]
    · have R : rd_M (pw_st μ 0 9 2) 0 ρ := rd_M_same N.2.1 (fun i _ => by rw [ms_row _ _ (by omega)])
      simp only [fn_X6_fits, M1 _ R, M2, M4, M5, mm_bi, mm_n00, mm_n10, if_true, if_false, ne_eq, not_true_eq_false, not_false_eq_true]
      rw [(m_against hlt (by rw [ms_row _ _ (by omega)]; exact w7) w1 _ _).2 q, mm_bi, if_neg (by decide), show nI 2 = (2 : Int32) from rfl, m_finds, mm_bi]
  obtain ⟨i, l, rfl, el, hi⟩ := hp_n q
  have hl : l = j4 := by
    have z : nI j4 = nI l := el
    rw [mm_eq (by omega) (by omega)] at z; omega
  subst hl
  have fe := f_en_b ok j5
  have T0 : ∀ x, x < l → μ (24 + 2 * j2 + 1) (i + x) = μ 59 (40 * j2 + i + x) := fun x hx => by
    have := w8 (i + x) (by omega)
    rw [show 24 + 2 * j2 + 1 = 25 + 2 * j2 by omega, Nat.add_assoc]; exact this
  obtain ⟨μ1, c1, c2⟩ := x_fits_l ok (p := j1) (i := i) (D := l) (o2 := 24 + 2 * j2) (w := j5) (T := fun x => μ 59 (40 * j2 + i + x)) (by omega) (by omega) (by omega) (by omega) (fun y101_7 m156 => fn_bi (fn_X5_foundNothing y101_7 m156) (fun r159 m159 => some (r159, m159))) (f_en ρ j5 - f_st j5) 1000 (f_st j5) μ N.1 hs T0 (by omega) (by omega) (by omega)
  have hM : rd_M (pw_st μ1 0 9 0) 0 ρ := fun i hi => by rw [ms_row _ _ (by omega), c2 55 (by omega)]; exact N.2.1 i hi
  have hM2 : rd_M (pw_st (pw_st μ1 0 9 0) 54 5 0) 0 ρ := fun i hi => by rw [ms_row _ _ (by omega)]; exact hM i hi
  obtain ⟨m3, d1, d2⟩ := m_fits_l ok (p := j1) (r := j2) (i := i) (D := l) (w := j5) (T := fun x => μ 59 (40 * j2 + i + x)) (by omega) hlt (by omega) (fun y163_7 m221 => some (y163_7, m221)) (f_en ρ j5 - f_st j5) 1000 (f_st j5) _ hM2 (fun x hx => by rw [ms_row _ _ (by omega), ms_row _ _ (by omega), c2 59 (by omega)]) (by omega) (by omega) (by omega)
  rw [r_ft_st] at c1 d1
  have ag := (m_against (μ := pw_st μ1 0 9 0) hlt (by rw [ms_row _ _ (by omega), c2 57 (by omega)]; exact w7) w1 (nI i) (nI l)).1 q
  refine ⟨nI (r_ft ρ j5 j1 l (fun x => μ 59 (40 * j2 + i + x)) (f_en ρ j5)), pw_st μ1 0 9 0, m3, ?_, ?_, ((I'.fr (Fr_x c2)).find 0).fr d2⟩
  · simp only [fn_X5_fits, X1, X2, X4, X5, mm_bi, mm_n00, mm_n10, if_true, if_false, ne_eq, not_true_eq_false, not_false_eq_true]
    rw [mm_ix (by omega) (by omega), w3, if_pos n00, (x_hasPlaces w6 w1 _ _).1 q, mm_bi, if_pos n10]
    have ge : fn_X5_guessEnd (nI j5) μ = some (nI (f_en ρ j5), μ) := by
      unfold fn_X5_guessEnd
      have a : j5 = 0 ∨ j5 = 1 ∨ j5 = 2 ∨ j5 = 3 := by omega
      rcases a with rfl | rfl | rfl | rfl
      · rw [if_neg (by decide)]; rfl
      · rw [if_pos (by decide), if_neg (by decide), N.1.2.2.2.1]; rfl
      · rw [if_pos (by decide), if_pos (by decide), N.1.1]; rfl
      · rw [if_pos (by decide), if_pos (by decide), N.1.1]; rfl
    rw [ge, mm_bi, mm_j1]
    have c1' : fl_X5_fits_101 (fun y101_7 m156 => fn_bi (fn_X5_foundNothing y101_7 m156) (fun r159 m159 => some (r159, m159))) (nI j1) (nI i) (nI l) (nI j5) (24 + 2 * j2) (nI (f_en ρ j5)) 1000 (0 : Int32) (nI (f_st j5)) μ = some (nI (r_ft ρ j5 j1 l (fun x => μ 59 (40 * j2 + i + x)) (f_en ρ j5)), pw_st μ1 0 9 0) := c1
    by_cases z : j5 = 0
    · subst z; rw [if_neg (by decide)]; exact c1'
    · rw [if_pos (nI_ne0 (by omega) (by omega))]
      rw [show f_st j5 = 0 from if_neg z] at c1'
      exact c1'
  · simp only [fn_X6_fits, M1 _ hM, M2, M4, M5, mm_bi, mm_n00, mm_n10, if_true, if_false, ne_eq, not_true_eq_false, not_false_eq_true]
    rw [ag, mm_bi, if_pos (by decide), mm_j1]
    have e0 : (pw_st (pw_st μ1 0 9 0) 54 5 0) 55 0 = nI (ρ 0) := hM2 0 (by omega)
    have i0 : ∀ k : Nat → Option (Int32 × pw_Mem), fn_ix (0 : Int32) 670 k = k 0 := fun k => by rw [mm_l0, mm_ix (by omega) (by omega)]
    have e2 : (pw_st (pw_st μ1 0 9 0) 54 5 0) 55 2 = nI (ρ 2) := hM2 2 (by omega)
    have a : j5 = 0 ∨ j5 = 1 ∨ j5 = 2 ∨ j5 = 3 := by omega
    rcases a with rfl | rfl | rfl | rfl
    · rw [if_neg (by decide)]; dsimp only; rw [mm_j1, if_neg (by decide)]; dsimp only; rw [mm_j1, if_neg (by decide), mm_l13, mm_add]
      exact d1
    · rw [if_pos (by decide), if_neg (by decide)]; dsimp only; rw [mm_j1, if_pos (by decide), if_neg (by decide), i0, e0]; dsimp only; rw [mm_j1, if_pos (by decide), mm_l19, mm_add, mm_l1, mm_sub (by omega)]
      exact d1
    · rw [if_pos (by decide), if_pos (by decide), if_neg (by decide)]; dsimp only; rw [mm_j1, if_pos (by decide), if_pos (by decide), mm_l2, mm_ix (by omega) (by omega), e2]; dsimp only; rw [mm_j1, if_pos (by decide), mm_l1, mm_sub (by omega)]
      exact d1
    · rw [if_pos (by decide), if_pos (by decide), if_pos (by decide)]; dsimp only; rw [mm_j1, if_pos (by decide), if_pos (by decide), mm_l2, mm_ix (by omega) (by omega), e2]; dsimp only; rw [mm_j1, if_pos (by decide), mm_l24, mm_add, mm_l1, mm_sub (by omega)]
      exact d1
