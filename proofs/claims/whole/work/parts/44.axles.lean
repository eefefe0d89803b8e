/-! AXLES -/
theorem tb_or (a b w : Nat) : ((a ||| b) / 2 ^ w % 2 = 1) ↔ (a / 2 ^ w % 2 = 1 ∨ b / 2 ^ w % 2 = 1) := by
  have t : ∀ x : Nat, (x / 2 ^ w % 2 = 1) ↔ x.testBit w = true := fun x => by rw [Nat.testBit_eq_decide_div_mod_eq, decide_eq_true_iff]
  rw [t, t, t, Nat.testBit_or, Bool.or_eq_true]
theorem tb_pow (i p : Nat) : ((2 ^ i) / 2 ^ p % 2 = 1) ↔ i = p := by
  have t : ∀ x : Nat, (x / 2 ^ p % 2 = 1) ↔ x.testBit p = true := fun x => by rw [Nat.testBit_eq_decide_div_mod_eq, decide_eq_true_iff]
  rw [t, Nat.testBit_two_pow, decide_eq_true_iff]
theorem r_cm_bit (ρ : Rd) : ∀ i p, p < i → ((r_cm ρ i / 2 ^ p % 2 = 1) ↔ r_tk ρ p / 2 ^ ρ (19 + p) % 2 = 1)
  | 0, p, h => by omega
  | i + 1, p, h => by
    have lt := r_cm_lt ρ i
    by_cases q : p = i
    · subst q
      have z : r_cm ρ p / 2 ^ p % 2 = 0 := by rw [Nat.div_eq_of_lt lt]
      unfold r_cm
      by_cases c : r_tk ρ p / 2 ^ ρ (19 + p) % 2 = 1
      · rw [if_pos c, tb_or, tb_pow]
        exact ⟨fun _ => c, fun _ => Or.inr rfl⟩
      · rw [if_neg c, z]
        exact ⟨fun x => by omega, fun x => absurd x c⟩
    · have ih := r_cm_bit ρ i p (by omega)
      unfold r_cm
      by_cases c : r_tk ρ i / 2 ^ ρ (19 + i) % 2 = 1
      · rw [if_pos c, tb_or, tb_pow, ih]
        exact ⟨fun x => x.resolve_right (fun y => q y.symm), Or.inl⟩
      · rw [if_neg c, ih]
theorem r_sn_bit (ρ : Rd) (st s w : Nat) : ∀ i, (r_sn ρ st i s / 2 ^ w % 2 = 1) ↔ ∃ p, p < i ∧ ¬ st / 2 ^ p % 2 = 1 ∧ ρ (19 + p) = s ∧ r_said ρ p / 2 ^ w % 2 = 1
  | 0 => by
    constructor
    · intro h; rw [r_sn, Nat.zero_div] at h; omega
    · rintro ⟨p, h, -⟩; omega
  | i + 1 => by
    have ih := r_sn_bit ρ st s w i
    have up : (∃ p, p < i ∧ ¬ st / 2 ^ p % 2 = 1 ∧ ρ (19 + p) = s ∧ r_said ρ p / 2 ^ w % 2 = 1) → ∃ p, p < i + 1 ∧ ¬ st / 2 ^ p % 2 = 1 ∧ ρ (19 + p) = s ∧ r_said ρ p / 2 ^ w % 2 = 1 := fun ⟨p, h1, h2⟩ => ⟨p, by omega, h2⟩
    unfold r_sn
    by_cases q : st / 2 ^ i % 2 = 1
    · rw [if_pos q, ih]
      refine ⟨up, ?_⟩
      rintro ⟨p, h1, h2, h3⟩
      by_cases z : p = i
      · subst z; exact absurd q h2
      · exact ⟨p, by omega, h2, h3⟩
    · rw [if_neg q]
      by_cases q2 : s = ρ (19 + i)
      · rw [if_pos q2, tb_or, ih]
        constructor
        · rintro (h | h)
          · exact up h
          · exact ⟨i, by omega, q, q2.symm, h⟩
        · rintro ⟨p, h1, h2, h3, h4⟩
          by_cases z : p = i
          · subst z; exact Or.inr h4
          · exact Or.inl ⟨p, by omega, h2, h3, h4⟩
      · rw [if_neg q2, ih]
        refine ⟨up, ?_⟩
        rintro ⟨p, h1, h2, h3, h4⟩
        by_cases z : p = i
        · subst z; exact absurd h3.symm q2
        · exact ⟨p, by omega, h2, h3, h4⟩
theorem r_hr_heard {ρ : Rd} (ok : rk ρ) (st s : Nat) : ∀ p, p ≤ ρ 1 → r_hr ρ st p (29 + s) = ρ (29 + s) ||| r_sn ρ st p s
  | 0, _ => by rw [r_sn, Nat.or_zero]; rfl
  | p + 1, h => by
    have ih := r_hr_heard ok st s p (by omega)
    have h1 := ok.2.1
    obtain ⟨b1, b2⟩ := r_said_hr ok st (p := p) (by omega)
    rw [r_hr, r_sn]
    by_cases q : st / 2 ^ p % 2 = 1
    · rw [if_pos q, if_pos q]; exact ih
    · rw [if_neg q, if_neg q, r_pass, upR_ne _ _ (by omega), upR_ne _ _ (by omega), b1, b2]
      by_cases q2 : s = ρ (19 + p)
      · rw [if_pos q2, ← q2, upR_eq, ih, Nat.or_assoc]
      · rw [if_neg q2, upR_ne _ _ (by omega)]; exact ih
theorem r_hourS_heard {ρ : Rd} (ok : rk ρ) (st s : Nat) : r_hourS ρ st (29 + s) = ρ (29 + s) ||| r_sn ρ st (ρ 1) s := by
  unfold r_hourS
  rw [upR_ne _ _ (by omega)]
  exact r_hr_heard ok st s (ρ 1) (Nat.le_refl _)
/-- the pulpit at the gate that is in no council says the word -/
def r_hit (ρ : Rd) (g w p : Nat) : Prop := ρ (19 + p) = g ∧ ¬ r_cm ρ (ρ 1) / 2 ^ p % 2 = 1 ∧ r_said ρ p / 2 ^ w % 2 = 1
theorem r_one {ρ : Rd} {p q : Nat} (hp : p < ρ 1) (hq : q < ρ 1) (e : ρ (19 + p) = ρ (19 + q)) (cp : ¬ r_cm ρ (ρ 1) / 2 ^ p % 2 = 1) (cq : ¬ r_cm ρ (ρ 1) / 2 ^ q % 2 = 1) : p = q := by
  rw [r_cm_bit ρ _ _ hp, r_tk_bit] at cp
  rw [r_cm_bit ρ _ _ hq, r_tk_bit] at cq
  rcases Nat.lt_trichotomy p q with h | h | h
  · exact absurd ⟨p, h, e⟩ cq
  · exact h
  · exact absurd ⟨q, h, e.symm⟩ cp
def r_ex (ρ : Rd) (g w : Nat) (D : ∀ p, Decidable (r_hit ρ g w p)) : Nat → Nat
  | 0 => 0
  | i + 1 => @ite _ (r_hit ρ g w i) (D i) 1 (r_ex ρ g w D i)
def r_hD (ρ : Rd) (g w : Nat) : ∀ p, Decidable (r_hit ρ g w p) := fun p => by unfold r_hit; exact inferInstance
def r_e (ρ : Rd) (g w : Nat) (i : Nat) : Nat := r_ex ρ g w (r_hD ρ g w) i
theorem r_e_iff (ρ : Rd) (g w : Nat) : ∀ i, (r_e ρ g w i = 1 ∧ ∃ p, p < i ∧ r_hit ρ g w p) ∨ (r_e ρ g w i = 0 ∧ ∀ p, p < i → ¬ r_hit ρ g w p)
  | 0 => Or.inr ⟨rfl, fun p h => by omega⟩
  | i + 1 => by
    have ih := r_e_iff ρ g w i
    by_cases q : r_hit ρ g w i
    · left
      exact ⟨by unfold r_e r_ex; exact if_pos q, i, by omega, q⟩
    · have e : r_e ρ g w (i + 1) = r_e ρ g w i := by unfold r_e; rw [r_ex]; exact if_neg q
      rw [e]
      rcases ih with ⟨a, p, b, c⟩ | ⟨a, b⟩
      · exact Or.inl ⟨a, p, by omega, c⟩
      · refine Or.inr ⟨a, fun p hp => ?_⟩
        by_cases z : p = i
        · subst z; exact q
        · exact b p (by omega)
/-- the tenths of hearing -/
def r_th (ρ : Rd) (g w c : Nat) : Nat := if ρ (29 + g) / 2 ^ w % 2 = 1 then 10 else if r_e ρ g w (ρ 1) = 1 then 10 - c else 0
theorem r_th_le (ρ : Rd) (g w c : Nat) : r_th ρ g w c ≤ 10 := by unfold r_th; repeat (first | split | omega)
theorem x_tenths_l {ρ : Rd} {μ : pw_Mem} (h : rd_X μ 4 ρ) (ok : rk ρ) {g w c : Nat} (hg : g < ρ 0) (hw : w < ρ 2) (hc : c ≤ 10) : ∀ (d n i : Nat), i + d = ρ 1 → d < n → (∀ p, p < i → ¬ r_hit ρ g w p) → fl_X5_tenthsOfHearing_31 (fun m106 => some ((0 : Int32), m106)) (nI g) (nI w) (nI c) (nI (r_cm ρ (ρ 1))) n (nI i) μ = some (nI (if r_e ρ g w (ρ 1) = 1 then 10 - c else 0), μ) := by
  intro d
  have h1 := ok.2.1
  have h2 := ok.2.2.1
  have h0 := ok.1
  have hcm : r_cm ρ (ρ 1) < 65536 := Nat.lt_of_lt_of_le (r_cm_lt ρ _) (Nat.le_trans (Nat.pow_le_pow_right (by omega) h1) (by decide))
  induction d with
  | zero =>
    intro n i hi hn hh
    obtain ⟨n, rfl⟩ : ∃ q, n = q + 1 := ⟨n - 1, by omega⟩
    rw [fl_X5_tenthsOfHearing_31, h.2.2.2.2.1, if_pos (nI_le (by omega) (by omega)), if_neg]
    · rfl
    · rcases r_e_iff ρ g w (ρ 1) with ⟨-, p, b, b'⟩ | ⟨a, -⟩
      · exact absurd b' (hh p (by omega))
      · omega
  | succ d ih =>
    intro n i hi hn hh
    obtain ⟨n, rfl⟩ : ∃ q, n = q + 1 := ⟨n - 1, by omega⟩
    have hi' : i < ρ 1 := by omega
    have e4 := (h.2.2.2.2.2.2 i hi').2.1
    have g2 := (ok.2.2.2.2.2 i hi').2.1
    have hb : r_cm ρ (ρ 1) / 2 ^ i % 2 < 2 := Nat.mod_lt _ (by omega)
    have hb2 : r_said ρ i / 2 ^ w % 2 < 2 := Nat.mod_lt _ (by omega)
    have hs16 : r_said ρ i < 65536 := Nat.lt_of_lt_of_le (r_said_lt ok i) (r_pow16 ok)
    have nx : ¬ r_hit ρ g w i → fl_X5_tenthsOfHearing_31 (fun m106 => some ((0 : Int32), m106)) (nI g) (nI w) (nI c) (nI (r_cm ρ (ρ 1))) n (nI i + 1) μ = some (nI (if r_e ρ g w (ρ 1) = 1 then 10 - c else 0), μ) := fun nh => by
      rw [show nI i + 1 = nI (i + 1) from mm_add i 1]
      refine ih n (i + 1) (by omega) (by omega) (fun p hp => ?_)
      by_cases z : p = i
      · subst z; exact nh
      · exact hh p (by omega)
    rw [fl_X5_tenthsOfHearing_31, h.2.2.2.2.1, if_neg (nI_ge (by omega) (by omega)), mm_ix (by omega) (by omega), show μ (4 + 4) i = nI (ρ (19 + i)) from e4, mm_j1, mm_j0]
    by_cases q1 : ρ (19 + i) = g
    · rw [if_neg (fun z => z (by rw [q1])), mm_l1, mm_l31, mm_bit (by omega) (by omega)]
      by_cases q2 : r_cm ρ (ρ 1) / 2 ^ i % 2 = 1
      · rw [q2, if_pos (by decide)]
        exact nx (fun z => z.2.1 q2)
      · rw [show r_cm ρ (ρ 1) / 2 ^ i % 2 = 0 by omega, if_neg (by decide)]
        dsimp only
        rw [mm_j0, if_neg n10, x_sayings h ok hi', mm_bi, mm_bit (by omega) (by omega)]
        by_cases q3 : r_said ρ i / 2 ^ w % 2 = 1
        · rw [q3, if_neg n10, show (10 : Int32) = nI 10 from rfl, mm_sub hc, if_pos]
          rcases r_e_iff ρ g w (ρ 1) with ⟨a, -⟩ | ⟨-, b⟩
          · exact a
          · exact absurd ⟨q1, q2, q3⟩ (b i hi')
        · rw [show r_said ρ i / 2 ^ w % 2 = 0 by omega, if_pos n00]
          exact nx (fun z => q3 z.2.2)
    · rw [if_pos (fun z => q1 (by rw [mm_eq (by omega) (by omega)] at z; exact z))]
      exact nx (fun z => q1 z.1)
theorem x_tenths {ρ : Rd} {μ : pw_Mem} (h : rd_X μ 4 ρ) (ok : rk ρ) {g w c : Nat} (hg : g < ρ 0) (hw : w < ρ 2) (hc : c ≤ 10) : fn_X5_tenthsOfHearing (nI g) (nI w) (nI c) μ = some (nI (r_th ρ g w c), μ) := by
  have h0 := ok.1
  have h1 := ok.2.1
  have h2 := ok.2.2.1
  have e2 := (h.2.2.2.2.2.1 g hg).2
  have g2 := (ok.2.2.2.2.1 g hg).2
  have hpw := r_pow16 ok
  have hb : ρ (29 + g) / 2 ^ w % 2 < 2 := Nat.mod_lt _ (by omega)
  unfold fn_X5_tenthsOfHearing r_th
  rw [mm_ix (by omega) (by omega), show μ (4 + 2) g = nI (ρ (29 + g)) from e2, mm_l1, mm_l31, mm_bit (by omega) (by omega)]
  by_cases q : ρ (29 + g) / 2 ^ w % 2 = 1
  · rw [q, if_neg n10, if_pos rfl]; rfl
  · rw [if_neg q, show ρ (29 + g) / 2 ^ w % 2 = 0 by omega, if_pos n00, x_councils h ok, mm_bi]
    exact x_tenths_l h ok hg hw hc (ρ 1) 1000 0 (by omega) (by omega) (fun p hp => by omega)
theorem x_common {a : Nat} (ha : a ≤ 10) (μ : pw_Mem) : fn_X5_commonDivisor (nI a) (10 : Int32) μ = some (nI (Nat.gcd a 10), μ) := by
  have q : a = 0 ∨ a = 1 ∨ a = 2 ∨ a = 3 ∨ a = 4 ∨ a = 5 ∨ a = 6 ∨ a = 7 ∨ a = 8 ∨ a = 9 ∨ a = 10 := by omega
  rcases q with rfl | rfl | rfl | rfl | rfl | rfl | rfl | rfl | rfl | rfl | rfl <;> rfl
/-- the reference's sum over all that may break -/
def r_ways (c s : Nat) : Nat → Nat
  | 0 => 1
  | k + 1 => r_ways c s k * (if s / 2 ^ k % 2 = 1 then c else 10 - c)
def r_up (f : Nat → Nat) (c P : Nat) : Nat → Nat
  | 0 => 0
  | s + 1 => r_up f c P s + (if f s = 1 then r_ways c s P else 0)
theorem r_up_congr {f g : Nat → Nat} {c P : Nat} : ∀ N, (∀ s, s < N → (f s = 1 ↔ g s = 1)) → r_up f c P N = r_up g c P N
  | 0, _ => rfl
  | N + 1, h => by
    rw [r_up, r_up, r_up_congr N (fun s hs => h s (by omega))]
    have := h N (by omega)
    by_cases q : f N = 1
    · rw [if_pos q, if_pos (this.mp q)]
    · rw [if_neg q, if_neg (fun z => q (this.mpr z))]
theorem r_up_A : ∀ P, P < 6 → ∀ c, c < 11 → 10 * r_up (fun _ => 1) c P (2 ^ P) = 10 * 10 ^ P := by decide +kernel
theorem r_up_B : ∀ P, P < 6 → ∀ c, c < 11 → ∀ q, q < P → 10 * r_up (fun s => 1 - s / 2 ^ q % 2) c P (2 ^ P) = (10 - c) * 10 ^ P := by decide +kernel
theorem r_up_C (c P : Nat) : ∀ N, r_up (fun _ => 0) c P N = 0
  | 0 => rfl
  | N + 1 => by rw [r_up, r_up_C c P N]; rfl
def r_bh (ρ : Rd) (g w s : Nat) : Nat := r_hourS ρ (r_cm ρ (ρ 1) ||| s) (29 + g) / 2 ^ w % 2
theorem r_bh_iff {ρ : Rd} (ok : rk ρ) (g w s : Nat) : r_bh ρ g w s = 1 ↔ (ρ (29 + g) / 2 ^ w % 2 = 1 ∨ ∃ p, p < ρ 1 ∧ r_hit ρ g w p ∧ ¬ s / 2 ^ p % 2 = 1) := by
  unfold r_bh
  rw [r_hourS_heard ok, tb_or, r_sn_bit]
  constructor
  · rintro (h | ⟨p, h1, h2, h3, h4⟩)
    · exact Or.inl h
    · rw [tb_or] at h2
      exact Or.inr ⟨p, h1, ⟨h3, fun z => h2 (Or.inl z), h4⟩, fun z => h2 (Or.inr z)⟩
  · rintro (h | ⟨p, h1, ⟨h3, h5, h4⟩, h2⟩)
    · exact Or.inl h
    · refine Or.inr ⟨p, h1, ?_, h3, h4⟩
      rw [tb_or]
      rintro (z | z)
      · exact h5 z
      · exact h2 z
theorem r_up_th {ρ : Rd} (ok : rk ρ) {g w c : Nat} (hc : c ≤ 10) : 10 * r_up (r_bh ρ g w) c (ρ 1) (2 ^ ρ 1) = r_th ρ g w c * 10 ^ ρ 1 := by
  have h1 := ok.2.1
  unfold r_th
  by_cases q : ρ (29 + g) / 2 ^ w % 2 = 1
  · rw [if_pos q, r_up_congr (g := fun _ => 1) (2 ^ ρ 1) (fun s _ => by rw [r_bh_iff ok]; exact ⟨fun _ => rfl, fun _ => Or.inl q⟩)]
    exact r_up_A (ρ 1) (by omega) c (by omega)
  · rw [if_neg q]
    rcases r_e_iff ρ g w (ρ 1) with ⟨a, p, hp, hh⟩ | ⟨a, b⟩
    · rw [if_pos a, r_up_congr (g := fun s => 1 - s / 2 ^ p % 2) (2 ^ ρ 1) (fun s _ => ?_)]
      · exact r_up_B (ρ 1) (by omega) c (by omega) p hp
      · have hb : s / 2 ^ p % 2 < 2 := Nat.mod_lt _ (by omega)
        rw [r_bh_iff ok]
        constructor
        · rintro (h | ⟨p', h1, h2, h3⟩)
          · exact absurd h q
          · have e := r_one h1 hp (h2.1.trans hh.1.symm) h2.2.1 hh.2.1
            subst e
            show 1 - s / 2 ^ p' % 2 = 1
            omega
        · intro h
          have h' : 1 - s / 2 ^ p % 2 = 1 := h
          exact Or.inr ⟨p, hp, hh, by omega⟩
    · rw [if_neg (by omega), r_up_congr (g := fun _ => 0) (2 ^ ρ 1) (fun s _ => ?_), r_up_C, Nat.mul_zero, Nat.zero_mul]
      rw [r_bh_iff ok]
      constructor
      · rintro (h | ⟨p', h1, h2, h3⟩)
        · exact absurd h q
        · exact absurd h2 (b p' h1)
      · intro h; exact absurd h (by decide)
theorem fr_eq {u d a : Nat} (hd : 0 < d) (h : 10 * u = a * d) : u / Nat.gcd u d = a / Nat.gcd a 10 ∧ d / Nat.gcd u d = 10 / Nat.gcd a 10 := by
  have e : 10 * Nat.gcd u d = d * Nat.gcd a 10 := by
    rw [← Nat.gcd_mul_left, h, Nat.mul_comm a d, Nat.mul_comm 10 d, Nat.gcd_mul_left]
  constructor
  · rw [← Nat.mul_div_mul_left u (Nat.gcd u d) (show 0 < 10 by omega), e, h, Nat.mul_comm a d, Nat.mul_div_mul_left _ _ hd]
  · rw [← Nat.mul_div_mul_left d (Nat.gcd u d) (show 0 < 10 by omega), e, Nat.mul_comm 10 d, Nat.mul_div_mul_left _ _ hd]
theorem r_ways_le {c : Nat} (hc : c ≤ 10) (s : Nat) : ∀ k, r_ways c s k ≤ 10 ^ k
  | 0 => Nat.le_refl _
  | k + 1 => by
    have := r_ways_le hc s k
    rw [r_ways, Nat.pow_succ]
    exact Nat.mul_le_mul this (by split <;> omega)
theorem m_ax_down {ρ : Rd} {μ : pw_Mem} (h : rd_M μ 0 ρ) (h1 : ρ 1 ≤ 5) (w1 w2 w3 w4 w5 : Int32) (k : Int32 → pw_Mem → Option (Int32 × pw_Mem)) : ∀ (d n i : Nat), i + d = ρ 1 → d < n → fl_X6_axles_61 k w1 w2 w3 w4 w5 n (nI (10 ^ i)) (nI i) μ = k (nI (10 ^ ρ 1)) μ := by
  intro d
  have e1 : μ 55 1 = nI (ρ 1) := h 1 (by omega)
  induction d with
  | zero =>
    intro n i hi hn
    obtain ⟨n, rfl⟩ : ∃ q, n = q + 1 := ⟨n - 1, by omega⟩
    rw [fl_X6_axles_61, mm_l1, mm_ix (by omega) (by omega), e1, if_pos (nI_le (by omega) (by omega)), ← hi, Nat.add_zero]
  | succ d ih =>
    intro n i hi hn
    obtain ⟨n, rfl⟩ : ∃ q, n = q + 1 := ⟨n - 1, by omega⟩
    rw [fl_X6_axles_61, mm_l1, mm_ix (by omega) (by omega), e1, if_neg (nI_ge (by omega) (by omega)), mm_l10, mm_mul, mm_add, ← Nat.pow_succ]
    exact ih n (i + 1) (by omega) (by omega)
theorem m_ax_ways {ρ : Rd} {μ : pw_Mem} (h : rd_M μ 0 ρ) (h1 : ρ 1 ≤ 5) {c s : Nat} (hc : c ≤ 10) (hs : s < 2147483648) (w1 w2 w4 w5 w6 : Int32) (k : Int32 → pw_Mem → Option (Int32 × pw_Mem)) : ∀ (d n i : Nat), i + d = ρ 1 → d < n → fl_X6_axles_107 k w1 w2 (nI c) w4 w5 w6 (nI s) n (nI (r_ways c s i)) (nI i) μ = k (nI (r_ways c s (ρ 1))) μ := by
  intro d
  have e1 : μ 55 1 = nI (ρ 1) := h 1 (by omega)
  induction d with
  | zero =>
    intro n i hi hn
    obtain ⟨n, rfl⟩ : ∃ q, n = q + 1 := ⟨n - 1, by omega⟩
    rw [fl_X6_axles_107, mm_l1, mm_ix (by omega) (by omega), e1, if_pos (nI_le (by omega) (by omega)), ← hi, Nat.add_zero]
  | succ d ih =>
    intro n i hi hn
    obtain ⟨n, rfl⟩ : ∃ q, n = q + 1 := ⟨n - 1, by omega⟩
    have hb : s / 2 ^ i % 2 < 2 := Nat.mod_lt _ (by omega)
    have := ih n (i + 1) (by omega) (by omega)
    rw [r_ways] at this
    rw [fl_X6_axles_107, mm_l1, mm_ix (by omega) (by omega), e1, if_neg (nI_ge (by omega) (by omega)), m_has hs (by omega), mm_bi, mm_j1, mm_add, mm_l10, mm_sub hc]
    by_cases q : s / 2 ^ i % 2 = 1
    · rw [if_pos q] at this
      rw [q, if_neg n10]; dsimp only; rw [mm_mul]
      exact this
    · rw [if_neg q] at this
      rw [show s / 2 ^ i % 2 = 0 by omega, if_pos n00]; dsimp only; rw [mm_mul]
      exact this
theorem m_ax_sum {ρ : Rd} (ok : rk ρ) {g w c : Nat} (hg : g < ρ 0) (hw : w < ρ 2) (hc : c ≤ 10) (w4 w6 : Int32) (k : Int32 → pw_Mem → Option (Int32 × pw_Mem)) : ∀ (d n s : Nat) (m : pw_Mem), rd_M m 0 ρ → s + d = 2 ^ ρ 1 → d < n → ∃ m', fl_X6_axles_88 k (nI g) (nI w) (nI c) w4 w6 n (nI (r_up (r_bh ρ g w) c (ρ 1) s)) (nI s) m = k (nI (r_up (r_bh ρ g w) c (ρ 1) (2 ^ ρ 1))) m' ∧ Fr m m' := by
  intro d
  have h0 := ok.1
  have h1 := ok.2.1
  have h2 := ok.2.2.1
  have hP : 2 ^ ρ 1 ≤ 32 := Nat.le_trans (Nat.pow_le_pow_right (by omega) h1) (by decide)
  induction d with
  | zero =>
    intro n s m h hd hn
    obtain ⟨n, rfl⟩ : ∃ q, n = q + 1 := ⟨n - 1, by omega⟩
    have e1 : m 55 1 = nI (ρ 1) := h 1 (by omega)
    refine ⟨m, ?_, Fr.rfl' m⟩
    rw [fl_X6_axles_88, mm_l1, mm_ix (by omega) (by omega), e1, mm_l31, mm_one (by omega), if_pos (nI_le (by omega) (by omega)), ← hd, Nat.add_zero]
  | succ d ih =>
    intro n s m h hd hn
    obtain ⟨n, rfl⟩ : ∃ q, n = q + 1 := ⟨n - 1, by omega⟩
    have e1 : m 55 1 = nI (ρ 1) := h 1 (by omega)
    obtain ⟨m1, a1, a2, a3, a4⟩ := m_tries h
    obtain ⟨m2, b1, b2, b3, b4⟩ := m_hourBy a2 ok (by omega) (br := s) (by omega)
    have okh := rk_hourS ok (r_cm ρ (ρ 1) ||| s)
    have eh : m2 55 (67 + g) = nI (r_hourS ρ (r_cm ρ (ρ 1) ||| s) (29 + g)) := by have := b2 (29 + g) (by omega); rwa [show 38 + (29 + g) = 67 + g by omega] at this
    have gh := (okh.2.2.2.2.1 g (by rw [r_hourS_lo _ _ (by omega)]; exact hg)).2
    have hpw := r_pow16 okh
    have F : Fr m m2 := (Fr_m a3 a4).trans (Fr_m b3 (fun j hj => b4 j (by omega)))
    obtain ⟨m', c1, c2⟩ := ih n (s + 1) m2 (fun j hj => by rw [F.2.2.2 _ (by omega)]; exact h j hj) (by omega) (by omega)
    refine ⟨m', ?_, F.trans c2⟩
    rw [r_up] at c1
    have hb : r_bh ρ g w s < 2 := Nat.mod_lt _ (by omega)
    have way := fun k => m_ax_ways h h1 (c := c) (s := s) hc (by omega) (nI g) (nI w) w4 (nI (r_up (r_bh ρ g w) c (ρ 1) s)) w6 k (ρ 1) 1000 0 (by omega) (by omega)
    rw [fl_X6_axles_88, mm_l1, mm_ix (by omega) (by omega), e1, mm_l31, mm_one (by omega), if_neg (nI_ge (by omega) (by omega)), mm_l0]
    refine (way _).trans ?_
    rw [a1, mm_bv, mm_l38, b1, mm_bv, mm_l67, mm_add, mm_ix (by omega) (by omega), eh, m_has (by omega) (by omega), mm_bi, mm_j1, show r_hourS ρ (r_cm ρ (ρ 1) ||| s) (29 + g) / 2 ^ w % 2 = r_bh ρ g w s from rfl, mm_add s 1]
    by_cases q : r_bh ρ g w s = 1
    · rw [if_pos q] at c1
      rw [q, if_neg (by decide)]; dsimp only; rw [mm_add]
      exact c1
    · rw [if_neg q] at c1
      rw [show r_bh ρ g w s = 0 by omega, if_pos rfl]; dsimp only; rw [mm_add]
      exact c1
theorem m_gcd_l (w4 w5 w6 : Int32) (k : Int32 → pw_Mem → Option (Int32 × pw_Mem)) (m : pw_Mem) : ∀ (j n a b : Nat), b < 2 ^ j → 2 * j < n → a < 2147483648 → b < 2147483648 → fl_X6_axles_200 k w4 w5 w6 n (nI a) (nI b) m = k (nI (Nat.gcd a b)) m := by
  intro j
  induction j with
  | zero =>
    intro n a b hb hn ha hb2
    obtain ⟨n, rfl⟩ : ∃ q, n = q + 1 := ⟨n - 1, by omega⟩
    have : b = 0 := by have e : 2 ^ 0 = 1 := rfl; omega
    subst this
    rw [fl_X6_axles_200, if_pos n00, Nat.gcd_zero_right]
  | succ j ih =>
    intro n a b hb hn ha hb2
    obtain ⟨n, rfl⟩ : ∃ q, n = q + 2 := ⟨n - 2, by omega⟩
    rw [Nat.pow_succ] at hb
    by_cases q : b = 0
    · subst q
      rw [fl_X6_axles_200, if_pos n00, Nat.gcd_zero_right]
    · have hr : a % b < b := Nat.mod_lt _ (by omega)
      have g1 : Nat.gcd a b = Nat.gcd b (a % b) := by rw [Nat.gcd_comm a b, Nat.gcd_rec b a, Nat.gcd_comm]
      rw [fl_X6_axles_200, if_neg (nI_ne0 (by omega) (by omega)), mm_nz (by omega) (by omega), mm_rem (by omega) (by omega) (by omega), g1]
      generalize a % b = r at *
      by_cases q2 : r = 0
      · subst q2
        rw [fl_X6_axles_200, if_pos n00, Nat.gcd_zero_right]
      · have hr2 : b % r < r := Nat.mod_lt _ (by omega)
        have hd : r * (b / r) + b % r = b := Nat.div_add_mod b r
        have hq : 0 < b / r := Nat.div_pos (by omega) (by omega)
        have hm : r * 1 ≤ r * (b / r) := Nat.mul_le_mul_left r hq
        have g2 : Nat.gcd b r = Nat.gcd r (b % r) := by rw [Nat.gcd_comm b r, Nat.gcd_rec r b, Nat.gcd_comm]
        rw [fl_X6_axles_200, if_neg (nI_ne0 (by omega) (by omega)), mm_nz (by omega) (by omega), mm_rem (by omega) (by omega) (by omega), g2]
        exact ih n r (b % r) (by omega) (by omega) (by omega) (by omega)
theorem q_axles {μ : pw_Mem} (I : Iv μ) (a1 a2 a3 a4 : Int32) : Ok2 (fn_X5_axles a1 a2 a3 a4) (fn_X6_axles a1 a2 a3 a4) μ := by
  have I' := I
  obtain ⟨ρ, N, A, G, W, T, U, V⟩ := I
  obtain ⟨B0, B1, B2⟩ := N.b0
  unfold Ok2
  have hw2 : μ 55 2 = nI (ρ 2) := N.2.1 2 (by omega)
  have mm_w2 : ∀ k : Nat → Option (Int32 × pw_Mem), fn_ix (2 : Int32) 670 k = k 2 := fun k => by rw [mm_l2, mm_ix (by omega) (by omega)]
  have Y1 := x_isStretch N.1 B0 a1
  have Z1 := m_isStretch N.2.1 B0 a1
  rcases bw_c a1 0 ((ρ 0 : Int) - 1) with b1 | ⟨b1, c1, e1⟩
  · exact ⟨(-1000001 : Int32), μ, μ, by simp only [fn_X5_axles, Y1, b1, mm_bi, mm_n00, mm_n10, if_true, if_false, ne_eq, not_true_eq_false, not_false_eq_true], by simp only [hw2, mm_w2, fn_X6_axles, Z1, b1, mm_bi, mm_n00, mm_n10, if_true, if_false, ne_eq, not_true_eq_false, not_false_eq_true], I'⟩
  clear Y1 Z1
  obtain ⟨j1, rfl, l1, u1, t1⟩ := bw_n c1 e1 (by omega)
  clear c1 e1
  have X1 : fn_X5_isStretch (nI j1) μ = some (nI 1, μ) := by rw [x_isStretch N.1 B0, b1]
  have M1 : ∀ m, rd_M m 0 ρ → fn_X6_isStretch (nI j1) m = some (nI 1, m) := fun m h => by rw [m_isStretch h B0, b1]
  clear b1
  have Y2 := x_isWord N.1 B2 a2
  have Z2 := m_isX a2 (n := ρ 2) (by omega) μ
  rcases bw_c a2 0 ((ρ 2 : Int) - 1) with b2 | ⟨b2, c2, e2⟩
  · exact ⟨(-1000001 : Int32), μ, μ, by simp only [fn_X5_axles, X1, Y2, b2, mm_bi, mm_n00, mm_n10, if_true, if_false, ne_eq, not_true_eq_false, not_false_eq_true], by simp only [hw2, mm_w2, fn_X6_axles, M1 μ N.2.1, Z2, b2, mm_bi, mm_n00, mm_n10, if_true, if_false, ne_eq, not_true_eq_false, not_false_eq_true], I'⟩
  clear Y2 Z2
  obtain ⟨j2, rfl, l2, u2, t2⟩ := bw_n c2 e2 (by omega)
  clear c2 e2
  have X2 : fn_X5_isWord (nI j2) μ = some (nI 1, μ) := by rw [x_isWord N.1 B2, b2]
  have M2 : ∀ m, fn_X6_in ((nI j2)).toInt64 (0 : Int64) (nI (ρ 2) - (1 : Int32)).toInt64 m = some (nI 1, m) := fun m => by rw [m_isX _ (by omega), b2]
  clear b2
  have Y3 := (show fn_X5_isWithin a3 (0 : Int32) (10 : Int32) μ = some (nI (bw a3 0 10), μ) from x_isWithin a3 _ _ μ)
  have Z3 := (show fn_X6_in a3.toInt64 (0 : Int64) (10 : Int64) μ = some (nI (bw a3 0 10), μ) from m_in_nat a3 (lo := 0) (hi := 10) (by omega) (by omega) μ)
  rcases bw_c a3 0 10 with b3 | ⟨b3, c3, e3⟩
  · exact ⟨(-1000001 : Int32), μ, μ, by simp only [fn_X5_axles, X1, X2, Y3, b3, mm_bi, mm_n00, mm_n10, if_true, if_false, ne_eq, not_true_eq_false, not_false_eq_true], by simp only [hw2, mm_w2, fn_X6_axles, M1 μ N.2.1, M2, Z3, b3, mm_bi, mm_n00, mm_n10, if_true, if_false, ne_eq, not_true_eq_false, not_false_eq_true], I'⟩
  clear Y3 Z3
  obtain ⟨j3, rfl, l3, u3, t3⟩ := bw_n c3 e3 (by omega)
  clear c3 e3
  have X3 : ∀ m, fn_X5_isWithin (nI j3) (0 : Int32) (10 : Int32) m = some (nI 1, m) := fun m => by rw [(show fn_X5_isWithin _ (0 : Int32) (10 : Int32) m = some (nI (bw _ 0 10), m) from x_isWithin _ _ _ m), b3]
  have M3 : ∀ m, fn_X6_in ((nI j3)).toInt64 (0 : Int64) (10 : Int64) m = some (nI 1, m) := fun m => by rw [(show fn_X6_in _ (0 : Int64) (10 : Int64) m = some (nI (bw _ 0 10), m) from m_in_nat _ (lo := 0) (hi := 10) (by omega) (by omega) m), b3]
  clear b3
  have Y4 := (show fn_X5_isWithin a4 (0 : Int32) (1 : Int32) μ = some (nI (bw a4 0 1), μ) from x_isWithin a4 _ _ μ)
  have Z4 := (show fn_X6_in a4.toInt64 (0 : Int64) (1 : Int64) μ = some (nI (bw a4 0 1), μ) from m_in_nat a4 (lo := 0) (hi := 1) (by omega) (by omega) μ)
  rcases bw_c a4 0 1 with b4 | ⟨b4, c4, e4⟩
  · exact ⟨(-1000001 : Int32), μ, μ, by simp only [fn_X5_axles, X1, X2, X3, Y4, b4, mm_bi, mm_n00, mm_n10, if_true, if_false, ne_eq, not_true_eq_false, not_false_eq_true], by simp only [hw2, mm_w2, fn_X6_axles, M1 μ N.2.1, M2, M3, Z4, b4, mm_bi, mm_n00, mm_n10, if_true, if_false, ne_eq, not_true_eq_false, not_false_eq_true], I'⟩
  clear Y4 Z4
  obtain ⟨j4, rfl, l4, u4, t4⟩ := bw_n c4 e4 (by omega)
  clear c4 e4
  have X4 : ∀ m, fn_X5_isWithin (nI j4) (0 : Int32) (1 : Int32) m = some (nI 1, m) := fun m => by rw [(show fn_X5_isWithin _ (0 : Int32) (1 : Int32) m = some (nI (bw _ 0 1), m) from x_isWithin _ _ _ m), b4]
  have M4 : ∀ m, fn_X6_in ((nI j4)).toInt64 (0 : Int64) (1 : Int64) m = some (nI 1, m) := fun m => by rw [(show fn_X6_in _ (0 : Int64) (1 : Int64) m = some (nI (bw _ 0 1), m) from m_in_nat _ (lo := 0) (hi := 1) (by omega) (by omega) m), b4]
  clear b4
  obtain ⟨hs, ok⟩ := N.rk_of (by omega)
  have h0 := ok.1
  have h1 := ok.2.1
  have h2 := ok.2.2.1
  have e2 : μ 55 2 = nI (ρ 2) := N.2.1 2 (by omega)
  have hth := r_th_le ρ j1 j2 j3
  have hP : 10 ^ ρ 1 ≤ 100000 := Nat.le_trans (Nat.pow_le_pow_right (by omega) h1) (by decide)
  have hP0 : 0 < 10 ^ ρ 1 := Nat.pow_pos (by omega)
  have hP2 : 2 ^ ρ 1 ≤ 32 := Nat.le_trans (Nat.pow_le_pow_right (by omega) h1) (by decide)
  have key := r_up_th ok (g := j1) (w := j2) (c := j3) (by omega)
  have hub : r_up (r_bh ρ j1 j2) j3 (ρ 1) (2 ^ ρ 1) ≤ 100000 := by
    have : r_th ρ j1 j2 j3 * 10 ^ ρ 1 ≤ 10 * 100000 := Nat.mul_le_mul hth hP
    omega
  have fe := fr_eq hP0 key
  have g10 : 0 < Nat.gcd (r_th ρ j1 j2 j3) 10 := Nat.gcd_pos_of_pos_right _ (by omega)
  have g10' : Nat.gcd (r_th ρ j1 j2 j3) 10 ≤ 10 := Nat.le_of_dvd (by omega) (Nat.gcd_dvd_right _ _)
  have gud : 0 < Nat.gcd (r_up (r_bh ρ j1 j2) j3 (ρ 1) (2 ^ ρ 1)) (10 ^ ρ 1) := Nat.gcd_pos_of_pos_right _ hP0
  have gud' : Nat.gcd (r_up (r_bh ρ j1 j2) j3 (ρ 1) (2 ^ ρ 1)) (10 ^ ρ 1) ≤ 10 ^ ρ 1 := Nat.le_of_dvd hP0 (Nat.gcd_dvd_right _ _)
  obtain ⟨m3, d1, d2⟩ := m_ax_sum ok (g := j1) (w := j2) (c := j3) (by omega) (by omega) (by omega) (nI j4) (nI (10 ^ ρ 1)) (fun y88_5 m192 => fl_X6_axles_200 (fun y200_7 m223 => (if nI j4 ≠ 0 then fn_nz y200_7 (some ((nI (10 ^ ρ 1) / y200_7), m223)) else fn_nz y200_7 (some ((y88_5 / y200_7), m223)))) (nI j4) y88_5 (nI (10 ^ ρ 1)) 1000 y88_5 (nI (10 ^ ρ 1)) m192) (2 ^ ρ 1) 1000 0 μ N.2.1 (by omega) (by omega)
  refine ⟨nI (if j4 = 0 then r_th ρ j1 j2 j3 / Nat.gcd (r_th ρ j1 j2 j3) 10 else 10 / Nat.gcd (r_th ρ j1 j2 j3) 10), μ, m3, ?_, ?_, I'.fr d2⟩
  · simp only [fn_X5_axles, X1, X2, X3, X4, mm_bi, mm_n00, mm_n10, if_true, if_false, ne_eq, not_true_eq_false, not_false_eq_true]
    rw [x_tenths N.1 ok (by omega) (by omega) (by omega), mm_bi, x_common hth, mm_bi]
    by_cases z : j4 = 0
    · subst z
      rw [if_neg (fun y => y rfl), mm_nz g10 (by omega), mm_div (by omega) g10 (by omega), if_pos rfl]
    · rw [if_pos (nI_ne0 (by omega) (by omega)), mm_nz g10 (by omega), mm_l10, mm_div (by omega) g10 (by omega), if_neg z]
  · simp only [fn_X6_axles, M1 _ N.2.1, mm_w2, hw2, M2, M3, M4, mm_bi, mm_n00, mm_n10, if_true, if_false, ne_eq, not_true_eq_false, not_false_eq_true]
    refine (m_ax_down N.2.1 h1 (nI j1) (nI j2) (nI j3) (nI j4) 0 _ (ρ 1) 1000 0 (by omega) (by omega)).trans ?_
    refine d1.trans ?_
    refine (m_gcd_l (nI j4) _ _ _ m3 17 1000 _ _ ?_ (by omega) (by omega) (by omega)).trans ?_
    · have e : 2 ^ 17 = 131072 := rfl
      omega
    · by_cases z : j4 = 0
      · subst z
        rw [if_neg (fun y => y rfl), mm_nz gud (by omega), mm_div (by omega) gud (by omega), fe.1, if_pos rfl]
      · rw [if_pos (nI_ne0 (by omega) (by omega)), mm_nz gud (by omega), mm_div (by omega) gud (by omega), fe.2, if_neg z]
