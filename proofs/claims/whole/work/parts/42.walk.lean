/-! WALK -/
def r_sa (ρ : Rd) (h s : Nat) : Nat := r_sn (r_hours ρ h) (r_cm (r_hours ρ h) (r_hours ρ h 1)) (r_hours ρ h 1) s
theorem r_sn_lt {ρ : Rd} (ok : rk ρ) (st s : Nat) : ∀ p, r_sn ρ st p s < 2 ^ ρ 2
  | 0 => Nat.two_pow_pos _
  | p + 1 => by
    have := r_sn_lt ok st s p
    rw [r_sn]
    split
    · exact this
    · split
      · exact Nat.or_lt_two_pow this (r_said_lt ok p)
      · exact this
theorem r_sa_lt {ρ : Rd} (ok : rk ρ) (h s : Nat) : r_sa ρ h s < 2 ^ ρ 2 := by
  have := r_sn_lt (rk_hours ok h) (r_cm (r_hours ρ h) (r_hours ρ h 1)) s (r_hours ρ h 1)
  rw [show r_hours ρ h 2 = ρ 2 from r_hours_lo ρ (by omega) h] at this
  exact this
def r_wp (S r w : Nat) : Nat → Nat
  | 0 => r
  | h + 1 => if w / 2 ^ h % 2 = 1 then (r_wp S r w h + 1) % S else r_wp S r w h
def r_ww (ρ : Rd) (r w : Nat) : Nat → Nat
  | 0 => 0
  | h + 1 => r_ww ρ r w h ||| r_sa ρ h (r_wp (ρ 0) r w (h + 1))
theorem r_wp_lt {S r : Nat} (w : Nat) (h : r < S) : ∀ i, r_wp S r w i < S
  | 0 => h
  | i + 1 => by
    rw [r_wp]
    split
    · exact Nat.mod_lt _ (by omega)
    · exact r_wp_lt w h i
theorem r_ww_lt {ρ : Rd} (ok : rk ρ) (r w : Nat) : ∀ i, r_ww ρ r w i < 2 ^ ρ 2
  | 0 => Nat.two_pow_pos _
  | i + 1 => Nat.or_lt_two_pow (r_ww_lt ok r w i) (r_sa_lt ok _ _)
theorem Fr_x18 {μ μ' : pw_Mem} (h : ∀ k, k < 11 ∨ 18 < k → μ' k = μ k) : Fr μ μ' := ⟨fun k hk => h k (by omega), by rw [h 2 (by omega)], fun j _ => by rw [h 54 (by omega)], fun i _ => by rw [h 55 (by omega)]⟩
theorem Fr_61 {μ μ' : pw_Mem} (h : ∀ k, k ≠ 61 → μ' k = μ k) : Fr μ μ' := ⟨fun k hk => h k (by omega), by rw [h 2 (by omega)], fun j _ => by rw [h 54 (by omega)], fun i _ => by rw [h 55 (by omega)]⟩
theorem x_fs_in {S h : Nat} (hS : S ≤ 9) (hh : h < 8) (w1 : Int32) (k : pw_Mem → Option pw_Mem) : ∀ (d n i : Nat) (m : pw_Mem), m 11 4 = nI S → i + d = S → d < n → ∃ m', fl_X5_foretellSayings_21 k w1 (nI h) n (nI i) m = k m' ∧ (∀ j, j ≠ 18 → m' j = m j) ∧ (∀ x, x < 9 * h + i → m' 18 x = m 18 x) ∧ ∀ s, i ≤ s → s < S → m' 18 (9 * h + s) = m 17 s := by
  intro d
  induction d with
  | zero =>
    intro n i m e hi hn
    obtain ⟨n, rfl⟩ : ∃ q, n = q + 1 := ⟨n - 1, by omega⟩
    refine ⟨m, ?_, fun _ _ => rfl, fun _ _ => rfl, fun s h1 h2 => by omega⟩
    rw [fl_X5_foretellSayings_21, e, if_pos (nI_le (by omega) (by omega))]
  | succ d ih =>
    intro n i m e hi hn
    obtain ⟨n, rfl⟩ : ∃ q, n = q + 1 := ⟨n - 1, by omega⟩
    obtain ⟨m', a, b, c, f⟩ := ih n (i + 1) (pw_st m 18 (9 * h + i) (m 17 i)) (by rw [ms_row _ _ (by omega)]; exact e) (by omega) (by omega)
    refine ⟨m', ?_, fun j h1 => by rw [b j h1, ms_row _ _ h1], fun x hx => by rw [c x (by omega), ms_nj _ _ (by omega)], fun s h1 h2 => ?_⟩
    · rw [fl_X5_foretellSayings_21, e, if_neg (nI_ge (by omega) (by omega)), mm_ix (by omega) (by omega), mm_l9, mm_mul, mm_add, mm_ix (by omega) (by omega), show nI i + 1 = nI (i + 1) from mm_add i 1, Nat.mul_comm h 9]
      exact a
    · by_cases q : s = i
      · subst q; rw [c _ (by omega), ms_eq]
      · rw [f s (by omega) h2, ms_row _ _ (by omega)]
theorem x_fs_l {ρ : Rd} (ok : rk ρ) {D : Nat} (hD : D ≤ 8) (k : pw_Mem → Option pw_Mem) : ∀ (d n i : Nat) (m : pw_Mem), rd_X m 11 (r_hours ρ i) → (∀ h s, h < i → s < ρ 0 → m 18 (9 * h + s) = nI (r_sa ρ h s)) → i + d = D → d < n → ∃ m', fl_X5_foretellSayings_7 k (nI D) n (nI i) m = k m' ∧ rd_X m' 11 (r_hours ρ D) ∧ (∀ h s, h < D → s < ρ 0 → m' 18 (9 * h + s) = nI (r_sa ρ h s)) ∧ ∀ k, k < 11 ∨ 18 < k → m' k = m k := by
  intro d
  have h0 := ok.1
  induction d with
  | zero =>
    intro n i m hX hS hi hn
    obtain ⟨n, rfl⟩ : ∃ q, n = q + 1 := ⟨n - 1, by omega⟩
    have hi' : i = D := by omega
    subst hi'
    refine ⟨m, ?_, hX, hS, fun _ _ => rfl⟩
    rw [fl_X5_foretellSayings_7, if_pos (nI_le (by omega) (by omega))]
  | succ d ih =>
    intro n i m hX hS hi hn
    obtain ⟨n, rfl⟩ : ∃ q, n = q + 1 := ⟨n - 1, by omega⟩
    have okh := rk_hours ok i
    have l0 : r_hours ρ i 0 = ρ 0 := r_hours_lo ρ (by omega) i
    obtain ⟨m1, a1, a2, a3, a4, a5⟩ := x_goHour hX okh
    have e4 : m1 11 4 = nI (ρ 0) := by have := a2.2.2.2.1; rwa [show r_hour (r_hours ρ i) 0 = ρ 0 from r_hours_lo ρ (by omega) (i + 1)] at this
    obtain ⟨m2, b1, b2, b3, b4⟩ := x_fs_in (S := ρ 0) (h := i) h0.2 (by omega) (nI D) (fun m58 => fl_X5_foretellSayings_7 k (nI D) n (nI i + 1) m58) (ρ 0) 1000 0 m1 e4 (by omega) (by omega)
    obtain ⟨m', c1, c2, c3, c4⟩ := ih n (i + 1) m2 (x_other a2 (fun j hj => b2 _ (by omega))) (fun h s h1 h2 => by
      by_cases q : h = i
      · subst q
        rw [b4 s (by omega) h2]
        exact a4 s (by omega)
      · rw [b3 _ (by omega), a3 18 (by omega)]
        exact hS h s (by omega) h2) (by omega) (by omega)
    refine ⟨m', ?_, c2, c3, fun k hk => by rw [c4 k hk, b2 k (by omega), a3 k (by omega)]⟩
    rw [fl_X5_foretellSayings_7, if_neg (nI_ge (by omega) (by omega)), a1, mm_bv]
    refine b1.trans ?_
    rw [show nI i + 1 = nI (i + 1) from mm_add i 1]
    exact c1
theorem x_hw_l {ρ σ : Rd} (ok : rk ρ) (okσ : rk σ) (e0 : σ 0 = ρ 0) {m : pw_Mem} (h : rd_X m 11 σ) {D r w : Nat} (hD : D ≤ 8) (hr : r < ρ 0) (hw : w < 65536) (hS : ∀ h s, h < D → s < ρ 0 → m 18 (9 * h + s) = nI (r_sa ρ h s)) (k : Int32 → pw_Mem → Option (Int32 × pw_Mem)) : ∀ (d n i : Nat), i + d = D → d < n → fl_X5_heardOnWay_9 k (nI D) (nI w) n (nI (r_wp (ρ 0) r w i)) (nI (r_ww ρ r w i)) (nI i) m = k (nI (r_ww ρ r w D)) m := by
  intro d
  have h0 := ok.1
  induction d with
  | zero =>
    intro n i hi hn
    obtain ⟨n, rfl⟩ : ∃ q, n = q + 1 := ⟨n - 1, by omega⟩
    rw [fl_X5_heardOnWay_9, if_pos (nI_le (by omega) (by omega)), ← hi, Nat.add_zero]
  | succ d ih =>
    intro n i hi hn
    obtain ⟨n, rfl⟩ : ∃ q, n = q + 1 := ⟨n - 1, by omega⟩
    have c := ih n (i + 1) (by omega) (by omega)
    have lw := r_wp_lt w hr i
    have lw1 := r_wp_lt w hr (i + 1)
    have e1 : nI i + 1 = nI (i + 1) := mm_add i 1
    have eb : (nI w >>> (nI i &&& 31)) &&& (1 : Int32) = nI (w / 2 ^ i % 2) := mm_bit (by omega) (by omega)
    have xn := x_nextOf h okσ (a := r_wp (ρ 0) r w i) (by omega)
    rw [e0] at xn
    rw [r_ww] at c
    have hs := hS i (r_wp (ρ 0) r w (i + 1)) (by omega) lw1
    have kk : ∀ x, x = r_wp (ρ 0) r w (i + 1) → fn_ix ((nI i * (9 : Int32)) + nI x) 72 (fun j49 => fl_X5_heardOnWay_9 k (nI D) (nI w) n (nI x) (nI (r_ww ρ r w i) ||| (m 18 j49)) (nI i + 1) m) = k (nI (r_ww ρ r w D)) m := by
      intro x hx
      subst hx
      rw [mm_l9, mm_mul, mm_add, mm_ix (by omega) (by omega), Nat.mul_comm i 9, hs, mm_or, e1]
      exact c
    rw [fl_X5_heardOnWay_9, if_neg (nI_ge (by omega) (by omega)), mm_j1, eb]
    by_cases q : w / 2 ^ i % 2 = 1
    · rw [q, if_neg n10, xn, mm_bi]
      exact kk _ (by rw [r_wp, if_pos q])
    · rw [show w / 2 ^ i % 2 = 0 by omega, if_pos n00]
      exact kk _ (by rw [r_wp, if_neg q])
def r_wf (ρ : Rd) (r D w : Nat) : Nat := r_pc (r_ww ρ r w D) 16
theorem pow8 {n : Nat} (h : n ≤ 8) : 2 ^ n ≤ 256 := Nat.le_trans (Nat.pow_le_pow_right (by omega) h) (by decide)
theorem x_walk_l {ρ σ : Rd} (ok : rk ρ) (okσ : rk σ) (e0 : σ 0 = ρ 0) {m : pw_Mem} (h : rd_X m 11 σ) {D r : Nat} (hD : D ≤ 8) (hr : r < ρ 0) (hS : ∀ h s, h < D → s < ρ 0 → m 18 (9 * h + s) = nI (r_sa ρ h s)) (w3 : Int32) (k : Int32 → Int32 → pw_Mem → Option (Int32 × pw_Mem)) : ∀ (d n i : Nat), i + d = 2 ^ D → d < n → fl_X5_walk_44 k (nI r) (nI D) w3 n (mI (r_bst (r_wf ρ r D) i).1) (nI (r_bst (r_wf ρ r D) i).2) (nI i) m = k (mI (r_bst (r_wf ρ r D) (2 ^ D)).1) (nI (r_bst (r_wf ρ r D) (2 ^ D)).2) m := by
  intro d
  have h0 := ok.1
  have hp := pow8 hD
  have hpw := r_pow16 ok
  have hf : ∀ i, r_wf ρ r D i ≤ 16 := fun i => r_pc_le _ _
  have e1 : (1 : Int32) <<< (nI D &&& 31) = nI (2 ^ D) := mm_one (by omega)
  induction d with
  | zero =>
    intro n i hi hn
    obtain ⟨n, rfl⟩ : ∃ q, n = q + 1 := ⟨n - 1, by omega⟩
    rw [fl_X5_walk_44, e1, if_pos (nI_le (by omega) (by omega)), ← hi, Nat.add_zero]
  | succ d ih =>
    intro n i hi hn
    obtain ⟨n, rfl⟩ : ∃ q, n = q + 1 := ⟨n - 1, by omega⟩
    have c1 := ih n (i + 1) (by omega) (by omega)
    have bl := r_bst_le hf i
    have fi := hf i
    have lt := r_ww_lt ok r i D
    have xh : fn_X5_heardOnWay (nI r) (nI D) (nI i) m = some (nI (r_ww ρ r i D), m) := x_hw_l ok okσ e0 h hD hr (w := i) (by omega) hS (fun y9_5 m59 => some (y9_5, m59)) D 1000 0 (by omega) (by omega)
    rw [r_bst] at c1
    rw [fl_X5_walk_44, e1, if_neg (nI_ge (by omega) (by omega)), xh, mm_bi, j_bitCount (by omega), mm_bi, mm_j2, show r_pc (r_ww ρ r i D) 16 = r_wf ρ r D i from rfl, show nI i + 1 = nI (i + 1) from mm_add i 1]
    by_cases q : r_wf ρ r D i < (r_bst (r_wf ρ r D) i).1
    · rw [if_pos ((mI_le (by omega) (by omega)).mpr q)]
      rw [if_pos q] at c1
      exact c1
    · rw [if_neg (fun z => q ((mI_le (by omega) (by omega)).mp z))]
      rw [if_neg q, mI_s] at c1
      exact c1
/-! the reference's walk -/
theorem m_ls_z {h : Nat} (hh : h < 8) (w1 w3 : Int32) (k : pw_Mem → Option pw_Mem) : ∀ (d n i : Nat) (m : pw_Mem), i + d = 9 → d < n → ∃ m', fl_X6_laysSaid_21 k w1 (nI h) w3 n (nI i) m = k m' ∧ (∀ j, j ≠ 61 → m' j = m j) ∧ (∀ x, x < 9 * h + i → m' 61 x = m 61 x) ∧ ∀ s, i ≤ s → s < 9 → m' 61 (9 * h + s) = nI 0 := by
  intro d
  induction d with
  | zero =>
    intro n i m hi hn
    obtain ⟨n, rfl⟩ : ∃ q, n = q + 1 := ⟨n - 1, by omega⟩
    refine ⟨m, ?_, fun _ _ => rfl, fun _ _ => rfl, fun s h1 h2 => by omega⟩
    rw [fl_X6_laysSaid_21, mm_l9, if_pos (nI_le (by omega) (by omega))]
  | succ d ih =>
    intro n i m hi hn
    obtain ⟨n, rfl⟩ : ∃ q, n = q + 1 := ⟨n - 1, by omega⟩
    obtain ⟨m', a, b, c, f⟩ := ih n (i + 1) (pw_st m 61 (9 * h + i) 0) (by omega) (by omega)
    refine ⟨m', ?_, fun j h1 => by rw [b j h1, ms_row _ _ h1], fun x hx => by rw [c x (by omega), ms_nj _ _ (by omega)], fun s h1 h2 => ?_⟩
    · rw [fl_X6_laysSaid_21, mm_l9, if_neg (nI_ge (by omega) (by omega)), mm_mul, mm_add, mm_ix (by omega) (by omega), show nI i + 1 = nI (i + 1) from mm_add i 1]
      exact a
    · by_cases q : s = i
      · subst q; rw [c _ (by omega), ms_eq]; rfl
      · exact f s (by omega) h2
theorem m_ls_p {ρ σ : Rd} (okσ : rk σ) (e1 : σ 1 = ρ 1) {h st : Nat} (hh : h < 8) (hst : st < 65536) (w1 : Int32) (k : pw_Mem → Option pw_Mem) : ∀ (d n i : Nat) (m : pw_Mem), rd_M m 0 ρ → rd_M m 38 σ → (∀ s, s < 9 → m 61 (9 * h + s) = nI (r_sn σ st i s)) → i + d = ρ 1 → d < n → ∃ m', fl_X6_laysSaid_50 k w1 (nI h) (nI st) n (nI i) m = k m' ∧ (∀ j, j ≠ 61 → m' j = m j) ∧ (∀ x, x < 9 * h → m' 61 x = m 61 x) ∧ ∀ s, s < 9 → m' 61 (9 * h + s) = nI (r_sn σ st (ρ 1) s) := by
  intro d
  have h1 := okσ.2.1
  have h0 := okσ.1
  have ix1 : ∀ K : Nat → Option pw_Mem, fn_ix (1 : Int32) 670 K = K 1 := fun K => mm_ix (j := 1) (by omega) (by omega)
  induction d with
  | zero =>
    intro n i m hM hσ hs hi hn
    obtain ⟨n, rfl⟩ : ∃ q, n = q + 1 := ⟨n - 1, by omega⟩
    have hi' : i = ρ 1 := by omega
    subst hi'
    have p1 : m 55 1 = nI (ρ 1) := hM 1 (by omega)
    refine ⟨m, ?_, fun _ _ => rfl, fun _ _ => rfl, hs⟩
    rw [fl_X6_laysSaid_50, ix1, p1, if_pos (nI_le (by omega) (by omega))]
  | succ d ih =>
    intro n i m hM hσ hs hi hn
    obtain ⟨n, rfl⟩ : ∃ q, n = q + 1 := ⟨n - 1, by omega⟩
    have hi' : i < σ 1 := by omega
    have p1 : m 55 1 = nI (ρ 1) := hM 1 (by omega)
    have pa : m 55 (57 + i) = nI (σ (19 + i)) := by have := hσ (19 + i) (by omega); rwa [show 38 + (19 + i) = 57 + i by omega] at this
    have la := (okσ.2.2.2.2.2 i hi').2.1
    have mh : fn_X6_has (nI st) (nI i) m = some (nI (st / 2 ^ i % 2), m) := m_has (by omega) (by omega)
    have ms : fn_X6_saysIn (38 : Int32) (nI i) m = some (nI (r_said σ i), m) := m_saysIn hσ okσ (b := 38) (by omega) hi'
    have ex := hs (σ (19 + i)) (by omega)
    obtain ⟨v, hv⟩ : ∃ v, v = r_sn σ st i (σ (19 + i)) ||| (if st / 2 ^ i % 2 = 1 then 0 else r_said σ i) := ⟨_, rfl⟩
    obtain ⟨m', a, b, c, f⟩ := ih n (i + 1) (pw_st m 61 (9 * h + σ (19 + i)) (nI v)) (rd_M_same hM (fun j _ => by rw [ms_row _ _ (by omega)])) (rd_M_same hσ (fun j _ => by rw [ms_row _ _ (by omega)])) (fun s hs9 => by
      rw [r_sn]
      by_cases q : s = σ (19 + i)
      · subst q
        rw [ms_eq, hv]
        by_cases z : st / 2 ^ i % 2 = 1
        · rw [if_pos z, if_pos z, Nat.or_zero]
        · rw [if_neg z, if_neg z, if_pos rfl]
      · rw [ms_nj _ _ (by omega), hs s hs9, if_neg q, ite_self]) (by omega) (by omega)
    refine ⟨m', ?_, fun j hj => by rw [b j hj, ms_row _ _ hj], fun x hx => by rw [c x hx, ms_nj _ _ (by omega)], f⟩
    rw [fl_X6_laysSaid_50, ix1, p1, if_neg (nI_ge (by omega) (by omega)), mm_l57, mm_add, mm_ix (by omega) (by omega), pa, mm_l9, mm_mul, mm_add, mm_ix (by omega) (by omega), mh, mm_bi, mm_j1, show nI i + 1 = nI (i + 1) from mm_add i 1, ex]
    by_cases z : st / 2 ^ i % 2 = 1
    · rw [if_pos z] at hv
      rw [z, if_neg n10]
      dsimp only
      rw [mm_ix (by omega) (by omega), mm_l0, mm_or, ← hv]
      exact a
    · rw [if_neg z] at hv
      rw [show st / 2 ^ i % 2 = 0 by omega, if_pos n00, ms, mm_bi]
      dsimp only
      rw [mm_ix (by omega) (by omega), mm_or, ← hv]
      exact a
theorem m_ls_l {ρ : Rd} (ok : rk ρ) {D : Nat} (hD : D ≤ 8) (k : pw_Mem → Option pw_Mem) : ∀ (d n i : Nat) (m : pw_Mem), rd_M m 0 ρ → rd_M m 38 (r_hours ρ i) → (∀ h s, h < i → s < 9 → m 61 (9 * h + s) = nI (r_sa ρ h s)) → i + d = D → d < n → ∃ m', fl_X6_laysSaid_6 k (nI D) n (nI i) m = k m' ∧ (∀ h s, h < D → s < 9 → m' 61 (9 * h + s) = nI (r_sa ρ h s)) ∧ Fr m m' ∧ rd_M m' 0 ρ := by
  intro d
  have h0 := ok.1
  have h1 := ok.2.1
  induction d with
  | zero =>
    intro n i m hM hσ hS hi hn
    obtain ⟨n, rfl⟩ : ∃ q, n = q + 1 := ⟨n - 1, by omega⟩
    have hi' : i = D := by omega
    subst hi'
    refine ⟨m, ?_, hS, Fr.rfl' m, hM⟩
    rw [fl_X6_laysSaid_6, if_pos (nI_le (by omega) (by omega))]
  | succ d ih =>
    intro n i m hM hσ hS hi hn
    obtain ⟨n, rfl⟩ : ∃ q, n = q + 1 := ⟨n - 1, by omega⟩
    have okh := rk_hours ok i
    have l1 : r_hours ρ i 1 = ρ 1 := r_hours_lo ρ (by omega) i
    have hc : r_cm (r_hours ρ i) (r_hours ρ i 1) < 65536 := Nat.lt_of_lt_of_le (r_cm_lt _ _) (Nat.le_trans (Nat.pow_le_pow_right (by omega) okh.2.1) (by decide))
    have mc : fn_X6_councilsIn (38 : Int32) m = some (nI (r_cm (r_hours ρ i) (r_hours ρ i 1)), m) := m_councils hσ okh (b := 38) (by omega)
    have e1 : nI i + 1 = nI (i + 1) := mm_add i 1
    obtain ⟨z1, a1, a2, a3, a4⟩ := m_ls_z (h := i) (by omega) (nI D) (nI (r_cm (r_hours ρ i) (r_hours ρ i 1))) (fun m47 => fl_X6_laysSaid_50 (fun m111 => fn_bv (fn_X6_hourBy (38 : Int32) (0 : Int32) m111) (fun m115 => fl_X6_laysSaid_6 k (nI D) n (nI i + 1) m115)) (nI D) (nI i) (nI (r_cm (r_hours ρ i) (r_hours ρ i 1))) 1000 (0 : Int32) m47) 9 1000 0 m (by omega) (by omega)
    obtain ⟨z2, b1, b2, b3, b4⟩ := m_ls_p (ρ := ρ) okh l1 (h := i) (st := r_cm (r_hours ρ i) (r_hours ρ i 1)) (by omega) hc (nI D) (fun m111 => fn_bv (fn_X6_hourBy (38 : Int32) (0 : Int32) m111) (fun m115 => fl_X6_laysSaid_6 k (nI D) n (nI i + 1) m115)) (ρ 1) 1000 0 z1 (rd_M_same hM (fun j _ => by rw [a2 55 (by omega)])) (rd_M_same hσ (fun j _ => by rw [a2 55 (by omega)])) (fun s hs => a4 s (by omega) hs) (by omega) (by omega)
    have hσ2 : rd_M z2 38 (r_hours ρ i) := rd_M_same hσ (fun j _ => by rw [b2 55 (by omega), a2 55 (by omega)])
    obtain ⟨z3, c1, c2, c3, c4⟩ := m_hour hσ2 okh (by omega)
    have F1 : Fr m z2 := (Fr_61 a2).trans (Fr_61 b2)
    have F2 : Fr z2 z3 := Fr_m c3 (fun j hj => c4 j (by omega))
    obtain ⟨m', d1, d2, d3, d4⟩ := ih n (i + 1) z3 (rd_M_same hM (fun j hj => (F1.trans F2).2.2.2 _ (by omega))) c2 (fun h s hh hs => by
      rw [c3 61 (by omega)]
      by_cases q : h = i
      · subst q
        rw [b4 s hs, ← l1]
        rfl
      · rw [b3 _ (by omega), a3 _ (by omega)]
        exact hS h s (by omega) hs) (by omega) (by omega)
    refine ⟨m', ?_, d2, (F1.trans F2).trans d3, d4⟩
    rw [fl_X6_laysSaid_6, if_neg (nI_ge (by omega) (by omega)), mc, mm_bi]
    refine a1.trans (b1.trans ?_)
    rw [show fn_X6_hourBy (38 : Int32) (0 : Int32) z2 = some z3 from c1, mm_bv, e1]
    exact d1
theorem m_hw_l {ρ : Rd} (ok : rk ρ) {m : pw_Mem} (h : rd_M m 0 ρ) {D r w : Nat} (hD : D ≤ 8) (hr : r < ρ 0) (hw : w < 65536) (hS : ∀ h s, h < D → s < 9 → m 61 (9 * h + s) = nI (r_sa ρ h s)) (w1 w3 w4 w5 : Int32) (k : Int32 → pw_Mem → Option (Int32 × pw_Mem)) : ∀ (d n i : Nat), i + d = D → d < n → fl_X6_walk_64 k w1 (nI D) w3 w4 w5 (nI w) n (nI (r_wp (ρ 0) r w i)) (nI (r_ww ρ r w i)) (nI i) m = k (nI (r_ww ρ r w D)) m := by
  intro d
  have h0 := ok.1
  have e0 : m 55 0 = nI (ρ 0) := h 0 (by omega)
  have ix0 : ∀ K : Nat → Option (Int32 × pw_Mem), fn_ix (0 : Int32) 670 K = K 0 := fun K => mm_ix (j := 0) (by omega) (by omega)
  induction d with
  | zero =>
    intro n i hi hn
    obtain ⟨n, rfl⟩ : ∃ q, n = q + 1 := ⟨n - 1, by omega⟩
    rw [fl_X6_walk_64, if_pos (nI_le (by omega) (by omega)), ← hi, Nat.add_zero]
  | succ d ih =>
    intro n i hi hn
    obtain ⟨n, rfl⟩ : ∃ q, n = q + 1 := ⟨n - 1, by omega⟩
    have c := ih n (i + 1) (by omega) (by omega)
    have lw := r_wp_lt w hr i
    have lw1 := r_wp_lt w hr (i + 1)
    have e1 : nI i + 1 = nI (i + 1) := mm_add i 1
    have e2 : nI (r_wp (ρ 0) r w i) + (1 : Int32) = nI (r_wp (ρ 0) r w i + 1) := mm_add _ 1
    have mh : fn_X6_has (nI w) (nI i) m = some (nI (w / 2 ^ i % 2), m) := m_has (by omega) (by omega)
    rw [r_ww] at c
    have hs := hS i (r_wp (ρ 0) r w (i + 1)) (by omega) (by omega)
    have kk : ∀ x, x = r_wp (ρ 0) r w (i + 1) → fn_ix (((9 : Int32) * nI i) + nI x) 72 (fun j112 => fl_X6_walk_64 k w1 (nI D) w3 w4 w5 (nI w) n (nI x) (nI (r_ww ρ r w i) ||| (m 61 j112)) (nI i + 1) m) = k (nI (r_ww ρ r w D)) m := by
      intro x hx
      subst hx
      rw [mm_l9, mm_mul, mm_add, mm_ix (by omega) (by omega), hs, mm_or, e1]
      exact c
    rw [fl_X6_walk_64, if_neg (nI_ge (by omega) (by omega)), mh, mm_bi, mm_j1]
    by_cases q : w / 2 ^ i % 2 = 1
    · rw [q, if_neg n10, ix0, e0, mm_nz (by omega) (by omega), e2, mm_rem (by omega) (by omega) (by omega)]
      exact kk _ (by rw [r_wp, if_pos q])
    · rw [show w / 2 ^ i % 2 = 0 by omega, if_pos n00]
      exact kk _ (by rw [r_wp, if_neg q])
theorem m_walk_l {ρ : Rd} (ok : rk ρ) {m : pw_Mem} (h : rd_M m 0 ρ) {D r : Nat} (hD : D ≤ 8) (hr : r < ρ 0) (hS : ∀ h s, h < D → s < 9 → m 61 (9 * h + s) = nI (r_sa ρ h s)) (w3 : Int32) (k : Int32 → Int32 → pw_Mem → Option (Int32 × pw_Mem)) : ∀ (d n i : Nat), i + d = 2 ^ D → d < n → fl_X6_walk_47 k (nI r) (nI D) w3 n (nI (r_bst (r_wf ρ r D) i).2) (mI (r_bst (r_wf ρ r D) i).1) (nI i) m = k (nI (r_bst (r_wf ρ r D) (2 ^ D)).2) (mI (r_bst (r_wf ρ r D) (2 ^ D)).1) m := by
  intro d
  have h0 := ok.1
  have hp := pow8 hD
  have hpw := r_pow16 ok
  have hf : ∀ i, r_wf ρ r D i ≤ 16 := fun i => r_pc_le _ _
  have e1 : (1 : Int32) <<< (nI D &&& 31) = nI (2 ^ D) := mm_one (by omega)
  induction d with
  | zero =>
    intro n i hi hn
    obtain ⟨n, rfl⟩ : ∃ q, n = q + 1 := ⟨n - 1, by omega⟩
    rw [fl_X6_walk_47, e1, if_pos (nI_le (by omega) (by omega)), ← hi, Nat.add_zero]
  | succ d ih =>
    intro n i hi hn
    obtain ⟨n, rfl⟩ : ∃ q, n = q + 1 := ⟨n - 1, by omega⟩
    have c1 := ih n (i + 1) (by omega) (by omega)
    have bl := r_bst_le hf i
    have fi := hf i
    have lt := r_ww_lt ok r i D
    have mo : fn_X6_ones (nI (r_ww ρ r i D)) m = some (nI (r_wf ρ r D i), m) := m_ones (by omega)
    rw [r_bst] at c1
    rw [fl_X6_walk_47, e1, if_neg (nI_ge (by omega) (by omega))]
    refine (m_hw_l ok h hD hr (w := i) (by omega) hS (nI r) w3 _ _ _ D 1000 0 (by omega) (by omega)).trans ?_
    rw [mo, mm_bi, mm_j1, show nI i + 1 = nI (i + 1) from mm_add i 1]
    by_cases q : r_wf ρ r D i < (r_bst (r_wf ρ r D) i).1
    · rw [if_pos ((mI_le (by omega) (by omega)).mpr q)]; dsimp only; rw [mo, mm_bi, mm_j1, if_pos ((mI_le (by omega) (by omega)).mpr q)]
      rw [if_pos q] at c1
      exact c1
    · rw [if_neg (fun z => q ((mI_le (by omega) (by omega)).mp z))]; dsimp only; rw [mo, mm_bi, mm_j1, if_neg (fun z => q ((mI_le (by omega) (by omega)).mp z)), mo, mm_bi]
      rw [if_neg q, mI_s] at c1
      exact c1
theorem q_walk {μ : pw_Mem} (I : Iv μ) (a1 a2 a3 : Int32) : Ok2 (fn_X5_walk a1 a2 a3) (fn_X6_walk a1 a2 a3) μ := by
  have I' := I
  obtain ⟨ρ, N, A, G, W, T, U, V⟩ := I
  obtain ⟨B0, B1, B2⟩ := N.b0
  unfold Ok2
  have Y1 := x_isStretch N.1 B0 a1
  have Z1 := m_isStretch N.2.1 B0 a1
  rcases bw_c a1 0 ((ρ 0 : Int) - 1) with b1 | ⟨b1, c1, e1⟩
  · exact ⟨(-1000001 : Int32), μ, μ, by simp only [fn_X5_walk, Y1, b1, mm_bi, mm_n00, mm_n10, if_true, if_false, ne_eq, not_true_eq_false, not_false_eq_true], by simp only [fn_X6_walk, Z1, b1, mm_bi, mm_n00, mm_n10, if_true, if_false, ne_eq, not_true_eq_false, not_false_eq_true], I'⟩
  clear Y1 Z1
  obtain ⟨j1, rfl, l1, u1, t1⟩ := bw_n c1 e1 (by omega)
  clear c1 e1
  have X1 : fn_X5_isStretch (nI j1) μ = some (nI 1, μ) := by rw [x_isStretch N.1 B0, b1]
  have M1 : ∀ m, rd_M m 0 ρ → fn_X6_isStretch (nI j1) m = some (nI 1, m) := fun m h => by rw [m_isStretch h B0, b1]
  clear b1
  have Y2 := (show fn_X5_isWithin a2 (1 : Int32) (8 : Int32) μ = some (nI (bw a2 1 8), μ) from x_isWithin a2 _ _ μ)
  have Z2 := (show fn_X6_in a2.toInt64 (1 : Int64) (8 : Int64) μ = some (nI (bw a2 1 8), μ) from m_in_nat a2 (lo := 1) (hi := 8) (by omega) (by omega) μ)
  rcases bw_c a2 1 8 with b2 | ⟨b2, c2, e2⟩
  · exact ⟨(-1000001 : Int32), μ, μ, by simp only [fn_X5_walk, X1, Y2, b2, mm_bi, mm_n00, mm_n10, if_true, if_false, ne_eq, not_true_eq_false, not_false_eq_true], by simp only [fn_X6_walk, M1 μ N.2.1, Z2, b2, mm_bi, mm_n00, mm_n10, if_true, if_false, ne_eq, not_true_eq_false, not_false_eq_true], I'⟩
  clear Y2 Z2
  obtain ⟨j2, rfl, l2, u2, t2⟩ := bw_n c2 e2 (by omega)
  clear c2 e2
  have X2 : ∀ m, fn_X5_isWithin (nI j2) (1 : Int32) (8 : Int32) m = some (nI 1, m) := fun m => by rw [(show fn_X5_isWithin _ (1 : Int32) (8 : Int32) m = some (nI (bw _ 1 8), m) from x_isWithin _ _ _ m), b2]
  have M2 : ∀ m, fn_X6_in ((nI j2)).toInt64 (1 : Int64) (8 : Int64) m = some (nI 1, m) := fun m => by rw [(show fn_X6_in _ (1 : Int64) (8 : Int64) m = some (nI (bw _ 1 8), m) from m_in_nat _ (lo := 1) (hi := 8) (by omega) (by omega) m), b2]
  clear b2
  have Y3 := (show fn_X5_isWithin a3 (0 : Int32) (1 : Int32) μ = some (nI (bw a3 0 1), μ) from x_isWithin a3 _ _ μ)
  have Z3 := (show fn_X6_in a3.toInt64 (0 : Int64) (1 : Int64) μ = some (nI (bw a3 0 1), μ) from m_in_nat a3 (lo := 0) (hi := 1) (by omega) (by omega) μ)
  rcases bw_c a3 0 1 with b3 | ⟨b3, c3, e3⟩
  · exact ⟨(-1000001 : Int32), μ, μ, by simp only [fn_X5_walk, X1, X2, Y3, b3, mm_bi, mm_n00, mm_n10, if_true, if_false, ne_eq, not_true_eq_false, not_false_eq_true], by simp only [fn_X6_walk, M1 μ N.2.1, M2, Z3, b3, mm_bi, mm_n00, mm_n10, if_true, if_false, ne_eq, not_true_eq_false, not_false_eq_true], I'⟩
  clear Y3 Z3
  obtain ⟨j3, rfl, l3, u3, t3⟩ := bw_n c3 e3 (by omega)
  clear c3 e3
  have X3 : ∀ m, fn_X5_isWithin (nI j3) (0 : Int32) (1 : Int32) m = some (nI 1, m) := fun m => by rw [(show fn_X5_isWithin _ (0 : Int32) (1 : Int32) m = some (nI (bw _ 0 1), m) from x_isWithin _ _ _ m), b3]
  have M3 : ∀ m, fn_X6_in ((nI j3)).toInt64 (0 : Int64) (1 : Int64) m = some (nI 1, m) := fun m => by rw [(show fn_X6_in _ (0 : Int64) (1 : Int64) m = some (nI (bw _ 0 1), m) from m_in_nat _ (lo := 0) (hi := 1) (by omega) (by omega) m), b3]
  clear b3
  obtain ⟨hs, ok⟩ := N.rk_of (by omega)
  have h0 := ok.1
  have hp := pow8 (n := j2) (by omega)
  obtain ⟨x1, y1, y2, y3⟩ := x_foretell N.1 ok hs (D := 0) (by omega)
  obtain ⟨μ1, y4, y5, y6, y7⟩ := x_fs_l ok (D := j2) (by omega) (fun m64 => some m64) j2 1000 0 x1 y2 (fun h s hh _ => by omega) (by omega) (by omega)
  have FS : fn_X5_foretellSayings (nI j2) μ = some μ1 := by
    unfold fn_X5_foretellSayings
    rw [show fn_X5_foretell (0 : Int32) μ = some x1 from y1, mm_bv]
    exact y4
  have FX : Fr μ μ1 := (Fr_x y3).trans (Fr_x18 y7)
  have hM : rd_M μ1 0 ρ := fun i hi => by rw [y7 55 (by omega), y3 55 (by omega)]; exact N.2.1 i hi
  have c1 := x_walk_l ok (rk_hours ok j2) (r_hours_lo ρ (by omega) j2) y5 (D := j2) (r := j1) (by omega) (by omega) y6 (nI j3) (fun y44_4 y44_5 m86 => (if nI j3 ≠ 0 then some (y44_5, m86) else some (y44_4, m86))) (2 ^ j2) 1000 0 (by omega) (by omega)
  obtain ⟨z1, t1, t2, t3, t4⟩ := m_tries hM
  have hM1 : rd_M z1 0 ρ := fun i hi => by rw [t4 _ (by omega)]; exact hM i hi
  obtain ⟨z2, u1, u2, u3, u4⟩ := m_ls_l ok (D := j2) (by omega) (fun m124 => some m124) j2 1000 0 z1 hM1 t2 (fun h s hh _ => by omega) (by omega) (by omega)
  have LS : fn_X6_laysSaid (nI j2) μ1 = some z2 := by
    unfold fn_X6_laysSaid
    rw [t1, mm_bv]
    exact u1
  have d1 := m_walk_l ok u4 (D := j2) (r := j1) (by omega) (by omega) u2 (nI j3) (fun y47_4 y47_5 m169 => (if nI j3 ≠ 0 then some (y47_4, m169) else some (y47_5, m169))) (2 ^ j2) 1000 0 (by omega) (by omega)
  refine ⟨if nI j3 ≠ 0 then nI (r_bst (r_wf ρ j1 j2) (2 ^ j2)).2 else mI (r_bst (r_wf ρ j1 j2) (2 ^ j2)).1, μ1, z2, ?_, ?_, I'.fr (FX.trans ((Fr_m t3 t4).trans u3))⟩
  · simp only [fn_X5_walk, X1, X2, X3, mm_bi, mm_n00, mm_n10, if_true, if_false, ne_eq, not_true_eq_false, not_false_eq_true]
    rw [FS, mm_bv, mI_0]
    refine c1.trans ?_
    by_cases q : nI j3 = (0 : Int32)
    · rw [if_neg (fun t => t q), if_neg (fun t => t q)]
    · rw [if_pos q, if_pos q]
  · simp only [fn_X6_walk, M1 _ hM, M2, M3, mm_bi, mm_n00, mm_n10, if_true, if_false, ne_eq, not_true_eq_false, not_false_eq_true]
    rw [LS, mm_bv, mI_0]
    refine d1.trans ?_
    by_cases q : nI j3 = (0 : Int32)
    · rw [if_neg (fun t => t q), if_neg (fun t => t q)]
    · rw [if_pos q, if_pos q]
