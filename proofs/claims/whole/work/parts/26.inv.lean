/-! WHAT HOLDS BETWEEN TWO CALLS -/
def Iv_now (μ : pw_Mem) (ρ : Rd) : Prop := rd_X μ 4 ρ ∧ rd_M μ 0 ρ ∧ ((μ 4 0 = nI 1 ∧ rk ρ) ∨ (μ 4 0 = nI 0 ∧ ρ 0 = 0 ∧ ρ 1 = 0 ∧ ρ 2 = 0))
def Iv_img (μ : pw_Mem) (k : Nat) : Prop := ∃ σ : Rd, rd_X μ (40 + 7 * k) σ ∧ rd_M μ (76 + 38 * k) σ ∧ ((μ (40 + 7 * k) 0 = nI 1 ∧ rk σ) ∨ (μ (40 + 7 * k) 0 = nI 0 ∧ σ 0 = 0))
def Iv_row (μ : pw_Mem) (r : Nat) : Prop := (μ (24 + 2 * r) 1 = nI 1 ∧ μ 57 r = (-1 : Int32)) ∨ ∃ n L : Nat, n ≤ 40 ∧ L ≤ 2 ∧ μ (24 + 2 * r) 1 = nI 0 ∧ μ (24 + 2 * r) 2 = nI L ∧ μ 58 r = nI L ∧ μ (24 + 2 * r) 3 = nI n ∧ μ 57 r = nI n ∧ ∀ i, i < n → μ (25 + 2 * r) i = μ 59 (40 * r + i)
def Iv_tape (μ : pw_Mem) : Prop := ∃ n : Nat, n ≤ 90 ∧ μ 2 1 = nI n ∧ μ 54 3 = nI n ∧ ∀ i, i < n → ∃ c, c < 256 ∧ μ 3 i = nI c ∧ μ 56 i = nI c
def Iv_num (μ : pw_Mem) : Prop := μ 0 8 = μ 54 4 ∧ μ 0 9 = μ 54 5
def Iv_tr (μ : pw_Mem) : Prop := ∃ t : Nat, t ≤ 16 ∧ μ 22 1 = nI t ∧ μ 54 15 = nI t ∧ ∀ i, i < t → μ 23 i = μ 62 i
/-- an act: what was ahead of it, in the system's ring at q and in the reference's list at k; it may be taken back -/
def aX (μ : pw_Mem) (S P q : Nat) (τ : Rd) : Prop := μ 21 (20 * q) = nI (τ 18) ∧ (∀ s, s < S → μ 21 (20 * q + 1 + s) = nI (τ (29 + s))) ∧ ∀ p, p < P → μ 21 (20 * q + 10 + 2 * p) = nI (τ (19 + p)) ∧ μ 21 (20 * q + 11 + 2 * p) = nI (τ (24 + p))
def aM (μ : pw_Mem) (k : Nat) (τ : Rd) : Prop := ∀ i, i < 20 → μ 55 (190 + 20 * k + i) = nI (τ (18 + i))
def aV (ρ τ : Rd) : Prop := (∀ s, s < ρ 0 → τ (29 + s) < 2 ^ ρ 2) ∧ ∀ p, p < ρ 1 → τ (19 + p) < ρ 0 ∧ τ (24 + p) < ρ 2
def acX (μ : pw_Mem) (S P kept : Nat) (h : Nat → Rd) : Prop := ∃ e : Nat, e < 24 ∧ μ 20 1 = nI kept ∧ μ 20 2 = nI e ∧ ∀ k, k < kept → aX μ S P ((e + 24 - kept + k) % 24) (h k)
def acM (μ : pw_Mem) (kept : Nat) (h : Nat → Rd) : Prop := μ 54 1 = nI kept ∧ ∀ k, k < kept → aM μ k (h k)
def Iv_acts (μ : pw_Mem) (ρ : Rd) : Prop := ∃ (kept : Nat) (h : Nat → Rd), kept ≤ 24 ∧ (0 < kept → rk ρ) ∧ acX μ (ρ 0) (ρ 1) kept h ∧ acM μ kept h ∧ ∀ k, k < kept → aV ρ (h k)
theorem acX.same {μ μ' : pw_Mem} {S P kept : Nat} {h : Nat → Rd} (a : acX μ S P kept h) (h1 : μ' 20 = μ 20) (h2 : μ' 21 = μ 21) : acX μ' S P kept h := by
  obtain ⟨e, a1, a2, a3, a4⟩ := a
  exact ⟨e, a1, by rw [h1]; exact a2, by rw [h1]; exact a3, fun k hk => by unfold aX; rw [h2]; exact a4 k hk⟩
theorem acM.same {μ μ' : pw_Mem} {kept : Nat} {h : Nat → Rd} (a : acM μ kept h) (h1 : μ' 54 1 = μ 54 1) (h2 : ∀ i, 190 ≤ i → μ' 55 i = μ 55 i) : acM μ' kept h := ⟨by rw [h1]; exact a.1, fun k hk i hi => by rw [h2 _ (by omega)]; exact a.2 k hk i hi⟩
def Iv (μ : pw_Mem) : Prop := ∃ ρ : Rd, Iv_now μ ρ ∧ Iv_acts μ ρ ∧ (∀ k, k < 2 → Iv_img μ k) ∧ (∀ r, r < 8 → Iv_row μ r) ∧ Iv_tape μ ∧ Iv_num μ ∧ Iv_tr μ
/-- nothing is changed but what is made anew whenever it is used -/
def Fr (μ μ' : pw_Mem) : Prop := (∀ k, ¬ (k = 2 ∨ k = 10 ∨ (11 ≤ k ∧ k ≤ 18) ∨ k = 46 ∨ k = 53 ∨ k = 54 ∨ k = 55 ∨ k = 60 ∨ k = 61) → μ' k = μ k) ∧ μ' 2 1 = μ 2 1 ∧ (∀ j, (j = 1 ∨ j = 3 ∨ j = 4 ∨ j = 5 ∨ j = 15) → μ' 54 j = μ 54 j) ∧ ∀ i, (i < 38 ∨ (76 ≤ i ∧ i < 152) ∨ 190 ≤ i) → μ' 55 i = μ 55 i
theorem Fr.rfl' (μ : pw_Mem) : Fr μ μ := ⟨fun _ _ => rfl, rfl, fun _ _ => rfl, fun _ _ => rfl⟩
theorem Fr.trans {a b c : pw_Mem} (h : Fr a b) (g : Fr b c) : Fr a c := ⟨fun k hk => by rw [g.1 k hk, h.1 k hk], by rw [g.2.1, h.2.1], fun j hj => by rw [g.2.2.1 j hj, h.2.2.1 j hj], fun i hi => by rw [g.2.2.2 i hi, h.2.2.2 i hi]⟩
theorem rd_X_same {μ μ' : pw_Mem} {o : Nat} {ρ : Rd} (h : rd_X μ o ρ) (hq : ∀ j, j ≤ 5 → μ' (o + j) = μ (o + j)) : rd_X μ' o ρ := x_other h hq
theorem rd_M_same {μ μ' : pw_Mem} {b : Nat} {ρ : Rd} (h : rd_M μ b ρ) (hq : ∀ i, i < 38 → μ' 55 (b + i) = μ 55 (b + i)) : rd_M μ' b ρ := fun i hi => by rw [hq i hi]; exact h i hi
theorem Iv.fr {μ μ' : pw_Mem} (I : Iv μ) (F : Fr μ μ') : Iv μ' := by
  obtain ⟨ρ, ⟨n1, n2, n3⟩, ⟨kept, h, a1, a2, a3, a4, a5⟩, im, ro, ⟨tn, t1, t2, t3, t4⟩, ⟨u1, u2⟩, ⟨vt, v1, v2, v3, v4⟩⟩ := I
  obtain ⟨f1, f2, f3, f4⟩ := F
  refine ⟨ρ, ⟨x_other n1 (fun j hj => f1 _ (by omega)), rd_M_same n2 (fun i hi => f4 _ (by omega)), by rw [f1 4 (by omega)]; exact n3⟩, ⟨kept, h, a1, a2, a3.same (f1 20 (by omega)) (f1 21 (by omega)), a4.same (f3 1 (by omega)) (fun i hi => f4 i (by omega)), a5⟩, fun k hk => ?_, fun r hr => ?_, ⟨tn, t1, by rw [f2]; exact t2, by rw [f3 3 (by omega)]; exact t3, by rw [f1 3 (by omega), f1 56 (by omega)]; exact t4⟩, ⟨by rw [f1 0 (by omega), f3 4 (by omega)]; exact u1, by rw [f1 0 (by omega), f3 5 (by omega)]; exact u2⟩, ⟨vt, v1, by rw [f1 22 (by omega)]; exact v2, by rw [f3 15 (by omega)]; exact v3, by rw [f1 23 (by omega), f1 62 (by omega)]; exact v4⟩⟩
  · obtain ⟨σ, s1, s2, s3⟩ := im k hk
    have hk2 : k = 0 ∨ k = 1 := by omega
    exact ⟨σ, x_other s1 (fun j hj => f1 _ (by omega)), rd_M_same s2 (fun i hi => f4 _ (by omega)), by rw [f1 _ (by omega)]; exact s3⟩
  · have := ro r hr
    unfold Iv_row at this ⊢
    rw [f1 (24 + 2 * r) (by omega), f1 (25 + 2 * r) (by omega), f1 57 (by omega), f1 58 (by omega), f1 59 (by omega)]
    exact this
/-- what a call of both sides shall come to -/
def Ok2 (fx fm : pw_Mem → Option (Int32 × pw_Mem)) (μ : pw_Mem) : Prop := ∃ (r : Int32) (μ1 μ2 : pw_Mem), fx μ = some (r, μ1) ∧ fm μ1 = some (r, μ2) ∧ Iv μ2
theorem Fr_x {μ μ' : pw_Mem} (h : ∀ k, k < 11 ∨ 17 < k → μ' k = μ k) : Fr μ μ' := ⟨fun k hk => h k (by omega), by rw [h 2 (by omega)], fun j _ => by rw [h 54 (by omega)], fun i _ => by rw [h 55 (by omega)]⟩
theorem Fr_m {μ μ' : pw_Mem} (h : ∀ j, j ≠ 55 → μ' j = μ j) (h2 : ∀ j, j < 38 ∨ 76 ≤ j → μ' 55 j = μ 55 j) : Fr μ μ' := ⟨fun k hk => h k (by omega), by rw [h 2 (by omega)], fun j _ => by rw [h 54 (by omega)], fun i hi => h2 i (by omega)⟩
theorem Iv_now.rk_of {μ : pw_Mem} {ρ : Rd} (h : Iv_now μ ρ) (hp : 0 < ρ 0 ∨ 0 < ρ 1 ∨ 0 < ρ 2) : μ 4 0 = nI 1 ∧ rk ρ := by
  rcases h.2.2 with a | a
  · exact a
  · omega
theorem Iv_now.b0 {μ : pw_Mem} {ρ : Rd} (h : Iv_now μ ρ) : ρ 0 ≤ 9 ∧ ρ 1 ≤ 5 ∧ ρ 2 ≤ 16 := by
  rcases h.2.2 with ⟨-, a⟩ | a
  · have := a.1; have := a.2.1; have := a.2.2.1; omega
  · omega
/-- the foretold road of both sides, D hours on -/
theorem both_ahead {μ : pw_Mem} {ρ : Rd} (N : Iv_now μ ρ) (ok : rk ρ) (hs : μ 4 0 = nI 1) {D : Nat} (hD : D ≤ 900) : ∃ μ1, fn_X5_foretell (nI D) μ = some μ1 ∧ rd_X μ1 11 (r_hours ρ D) ∧ Fr μ μ1 ∧ Iv_now μ1 ρ ∧ (∀ k, k < 11 ∨ 17 < k → μ1 k = μ k) ∧ ∀ m, m 55 = μ 55 → ∃ m2 m3, fn_X6_tries m = some m2 ∧ fn_X6_goesOn (nI D) m2 = some m3 ∧ rd_M m3 38 (r_hours ρ D) ∧ Fr m m3 ∧ rd_M m2 38 ρ ∧ Fr m m2 ∧ rd_M m3 0 ρ ∧ rd_M m2 0 ρ := by
  obtain ⟨μ1, a1, a2, a3⟩ := x_foretell N.1 ok hs hD
  refine ⟨μ1, a1, a2, Fr_x a3, ⟨x_other N.1 (fun j hj => a3 _ (by omega)), rd_M_same N.2.1 (fun i hi => by rw [a3 55 (by omega)]), by rw [a3 4 (by omega)]; exact N.2.2⟩, a3, fun m hm => ?_⟩
  have hM : rd_M m 0 ρ := fun i hi => by rw [hm]; exact N.2.1 i hi
  obtain ⟨m2, b1, b2, b3, b4⟩ := m_tries hM
  obtain ⟨m3, c1, c2, c3, c4⟩ := m_goesOn b2 ok hD
  refine ⟨m2, m3, b1, c1, c2, (Fr_m b3 b4).trans (Fr_m c3 c4), b2, Fr_m b3 b4, fun i hi => ?_, fun i hi => ?_⟩
  · rw [c4 _ (by omega), b4 _ (by omega)]; exact hM i hi
  · rw [b4 _ (by omega)]; exact hM i hi
theorem mm_n00 : (nI 0 = (0 : Int32)) = True := eq_true rfl
theorem mm_n10 : (nI 1 = (0 : Int32)) = False := eq_false (by decide)
