/-! A ROAD as whole numbers, in the reference's layout: 0 stretches, 1 pulpits, 2 words, 3 hard, 4.. grades, 13.. kinds, 18 hour, 19.. stretches of pulpits, 24.. their words, 29.. heard -/
abbrev Rd : Type := Nat → Nat
def rk (ρ : Rd) : Prop := (3 ≤ ρ 0 ∧ ρ 0 ≤ 9) ∧ ρ 1 ≤ 5 ∧ (4 ≤ ρ 2 ∧ ρ 2 ≤ 16) ∧ ρ 3 < ρ 2 ∧ (∀ s, s < ρ 0 → ρ (4 + s) ≤ 2 ∧ ρ (29 + s) < 2 ^ (ρ 2)) ∧ ∀ p, p < ρ 1 → (1 ≤ ρ (13 + p) ∧ ρ (13 + p) ≤ 5) ∧ ρ (19 + p) < ρ 0 ∧ ρ (24 + p) < ρ 2
def rd_X (μ : pw_Mem) (o : Nat) (ρ : Rd) : Prop := μ o 1 = nI (ρ 2) ∧ μ o 2 = nI (ρ 3) ∧ μ o 3 = nI (ρ 18) ∧ μ o 4 = nI (ρ 0) ∧ μ o 5 = nI (ρ 1) ∧ (∀ s, s < ρ 0 → μ (o + 1) s = nI (ρ (4 + s)) ∧ μ (o + 2) s = nI (ρ (29 + s))) ∧ ∀ p, p < ρ 1 → μ (o + 3) p = nI (ρ (13 + p)) ∧ μ (o + 4) p = nI (ρ (19 + p)) ∧ μ (o + 5) p = nI (ρ (24 + p))
def r_lets (g : Nat) : Nat := if g = 0 then 3 else if g = 1 then 1 else 4
def r_many (ρ : Rd) (p : Nat) : Nat := if ρ (13 + p) = 4 then 0 else r_lets (ρ (4 + ρ (19 + p)))
def r_way (ρ : Rd) (p : Nat) : Nat := if ρ (13 + p) = 5 then ρ 2 - 1 else 1
def r_wd (ρ : Rd) (p i : Nat) : Nat := (ρ (24 + p) + r_way ρ p * i) % ρ 2
def r_says (ρ : Rd) (p : Nat) : Nat → Nat
  | 0 => 0
  | i + 1 => r_says ρ p i ||| 2 ^ r_wd ρ p i
def r_said (ρ : Rd) (p : Nat) : Nat := r_says ρ p (r_many ρ p)
def upR (ρ : Rd) (i v : Nat) : Rd := fun j => if j = i then v else ρ j
theorem upR_eq (ρ : Rd) (i v : Nat) : upR ρ i v i = v := if_pos rfl
theorem upR_ne (ρ : Rd) {i j : Nat} (v : Nat) (h : j ≠ i) : upR ρ i v j = ρ j := if_neg h
def r_nextS (ρ : Rd) (p sd : Nat) : Nat := if ρ (13 + p) = 2 then (ρ (19 + p) + (ρ 0 - 1)) % ρ 0 else if ρ (13 + p) = 3 ∧ sd / 2 ^ ρ 3 % 2 = 1 then ρ (19 + p) else (ρ (19 + p) + 1) % ρ 0
def r_next (ρ : Rd) (p : Nat) : Nat := r_nextS ρ p (r_said ρ p)
def r_pass (ρ : Rd) (p : Nat) : Rd := upR (upR (upR ρ (29 + ρ (19 + p)) (ρ (29 + ρ (19 + p)) ||| r_said ρ p)) (24 + p) (r_wd ρ p (r_many ρ p))) (19 + p) (r_next ρ p)
theorem r_lets_le (g : Nat) : r_lets g ≤ 4 := by unfold r_lets; split <;> (try split) <;> omega
theorem r_many_le (ρ : Rd) (p : Nat) : r_many ρ p ≤ 4 := by unfold r_many; split; omega; exact r_lets_le _
theorem r_tv {g : Nat} (h : g ≤ 2) : pw_tv 0 g = nI (r_lets g) := by
  have : g = 0 ∨ g = 1 ∨ g = 2 := by omega
  rcases this with rfl | rfl | rfl <;> rfl
theorem r_wd_lt {ρ : Rd} (ok : rk ρ) (p i : Nat) : r_wd ρ p i < ρ 2 := Nat.mod_lt _ (by have := ok.2.2.1; omega)
theorem r_wd_0 {ρ : Rd} {p : Nat} (h : ρ (24 + p) < ρ 2) : r_wd ρ p 0 = ρ (24 + p) := by unfold r_wd; rw [Nat.mul_zero, Nat.add_zero]; exact Nat.mod_eq_of_lt h
theorem r_wd_s (ρ : Rd) (p i : Nat) : r_wd ρ p (i + 1) = (r_wd ρ p i + r_way ρ p) % ρ 2 := by
  unfold r_wd; rw [Nat.mul_succ, ← Nat.add_assoc, Nat.mod_add_mod]
theorem r_says_lt {ρ : Rd} (ok : rk ρ) (p : Nat) : ∀ i, r_says ρ p i < 2 ^ ρ 2
  | 0 => Nat.two_pow_pos _
  | i + 1 => Nat.or_lt_two_pow (r_says_lt ok p i) (Nat.pow_lt_pow_right (by omega) (r_wd_lt ok p i))
theorem r_pow16 {ρ : Rd} (ok : rk ρ) : 2 ^ ρ 2 ≤ 65536 := by
  have := ok.2.2.1
  exact Nat.le_trans (Nat.pow_le_pow_right (by omega) this.2) (by decide)
theorem rk_up {ρ : Rd} (ok : rk ρ) {i v : Nat} (hi : 18 < i ∨ i = 18) (h1 : ∀ p, p < ρ 1 → i = 19 + p → v < ρ 0) (h2 : ∀ p, p < ρ 1 → i = 24 + p → v < ρ 2) (h3 : ∀ s, s < ρ 0 → i = 29 + s → v < 2 ^ ρ 2) : rk (upR ρ i v) := by
  obtain ⟨g0, g1, g2, g3, g4, g5⟩ := ok
  have e : ∀ j, j < 18 → upR ρ i v j = ρ j := fun j hj => upR_ne ρ v (by omega)
  unfold rk
  rw [e 0 (by omega), e 1 (by omega), e 2 (by omega), e 3 (by omega)]
  refine ⟨g0, g1, g2, g3, fun s hs => ⟨?_, ?_⟩, fun p hp => ⟨?_, ?_, ?_⟩⟩
  · rw [e (4 + s) (by omega)]; exact (g4 s hs).1
  · by_cases q : 29 + s = i
    · rw [← q, upR_eq]; exact h3 s hs q.symm
    · rw [upR_ne ρ v q]; exact (g4 s hs).2
  · rw [e (13 + p) (by omega)]; exact (g5 p hp).1
  · by_cases q : 19 + p = i
    · rw [← q, upR_eq]; exact h1 p hp q.symm
    · rw [upR_ne ρ v q]; exact (g5 p hp).2.1
  · by_cases q : 24 + p = i
    · rw [← q, upR_eq]; exact h2 p hp q.symm
    · rw [upR_ne ρ v q]; exact (g5 p hp).2.2
theorem r_said_lt {ρ : Rd} (ok : rk ρ) (p : Nat) : r_said ρ p < 2 ^ ρ 2 := r_says_lt ok p _
theorem r_nextS_lt {ρ : Rd} (ok : rk ρ) {p : Nat} (hp : p < ρ 1) (sd : Nat) : r_nextS ρ p sd < ρ 0 := by
  obtain ⟨h0, h1, h2, h3, h4, h5⟩ := ok
  have := (h5 p hp).2.1
  unfold r_nextS
  split
  · exact Nat.mod_lt _ (by omega)
  · split
    · exact this
    · exact Nat.mod_lt _ (by omega)
theorem rk_heard {ρ : Rd} (ok : rk ρ) {s v : Nat} (hs : s < ρ 0) (hv : v < 2 ^ ρ 2) : rk (upR ρ (29 + s) v) := rk_up ok (by omega) (fun p _ _ => by have := ok.2.1; omega) (fun p _ _ => by have := ok.2.1; omega) (fun _ _ _ => hv)
theorem rk_word {ρ : Rd} (ok : rk ρ) {p v : Nat} (hp : p < ρ 1) (hv : v < ρ 2) : rk (upR ρ (24 + p) v) := rk_up ok (by omega) (fun q _ _ => by have := ok.2.1; omega) (fun _ _ _ => hv) (fun _ _ _ => by have := ok.2.1; omega)
theorem rk_at {ρ : Rd} (ok : rk ρ) {p v : Nat} (hp : p < ρ 1) (hv : v < ρ 0) : rk (upR ρ (19 + p) v) := rk_up ok (by omega) (fun _ _ _ => hv) (fun q _ _ => by have := ok.2.1; omega) (fun _ _ _ => by have := ok.2.1; omega)
theorem rk_hour {ρ : Rd} (ok : rk ρ) (v : Nat) : rk (upR ρ 18 v) := rk_up ok (by omega) (fun q _ _ => by omega) (fun q _ _ => by omega) (fun _ _ _ => by omega)
theorem r_pass_lo (ρ : Rd) (p : Nat) {j : Nat} (h : j < 19) : r_pass ρ p j = ρ j := by
  unfold r_pass; rw [upR_ne _ _ (by omega), upR_ne _ _ (by omega), upR_ne _ _ (by omega)]
theorem rk_pass {ρ : Rd} (ok : rk ρ) {p : Nat} (hp : p < ρ 1) : rk (r_pass ρ p) := by
  have h1 := ok.2.1
  have g := ok.2.2.2.2.2 p hp
  have a1 := rk_heard ok g.2.1 (Nat.or_lt_two_pow (ok.2.2.2.2.1 _ g.2.1).2 (r_said_lt ok p))
  have e1 : ∀ j, j < 29 → upR ρ (29 + ρ (19 + p)) (ρ (29 + ρ (19 + p)) ||| r_said ρ p) j = ρ j := fun j hj => upR_ne _ _ (by omega)
  have a2 := rk_word (p := p) (v := r_wd ρ p (r_many ρ p)) a1 (by rw [e1 _ (by omega)]; exact hp) (by rw [e1 _ (by omega)]; exact r_wd_lt ok p _)
  refine rk_at (p := p) a2 ?_ ?_
  · rw [upR_ne _ _ (by omega), e1 _ (by omega)]; exact hp
  · rw [upR_ne _ _ (by omega), e1 _ (by omega)]; exact r_nextS_lt ok hp _
/-- what a pulpit says, and its word behind it, stand on few places -/
theorem r_loc {ρ τ : Rd} {p : Nat} (h2 : τ 2 = ρ 2) (hk : τ (13 + p) = ρ (13 + p)) (hw : τ (24 + p) = ρ (24 + p)) (ha : τ (19 + p) = ρ (19 + p)) (hg : τ (4 + ρ (19 + p)) = ρ (4 + ρ (19 + p))) : r_many τ p = r_many ρ p ∧ (∀ i, r_wd τ p i = r_wd ρ p i) ∧ (∀ i, r_says τ p i = r_says ρ p i) ∧ r_said τ p = r_said ρ p := by
  have a : r_many τ p = r_many ρ p := by unfold r_many; rw [hk, ha, hg]
  have b : ∀ i, r_wd τ p i = r_wd ρ p i := fun i => by unfold r_wd r_way; rw [hk, h2, hw]
  have c : ∀ i, r_says τ p i = r_says ρ p i := by
    intro i
    induction i with
    | zero => rfl
    | succ i ih => rw [r_says, r_says, ih, b]
  exact ⟨a, b, c, by unfold r_said; rw [a, c]⟩
/-- councils -/
def r_tk (ρ : Rd) : Nat → Nat
  | 0 => 0
  | i + 1 => r_tk ρ i ||| 2 ^ ρ (19 + i)
def r_cm (ρ : Rd) : Nat → Nat
  | 0 => 0
  | i + 1 => if r_tk ρ i / 2 ^ ρ (19 + i) % 2 = 1 then r_cm ρ i ||| 2 ^ i else r_cm ρ i
theorem r_tk_lt {ρ : Rd} (ok : rk ρ) : ∀ i, i ≤ ρ 1 → r_tk ρ i < 2 ^ 9
  | 0, _ => by show 0 < 2 ^ 9; decide
  | i + 1, h => Nat.or_lt_two_pow (r_tk_lt ok i (by omega)) (Nat.pow_lt_pow_right (by omega) (by have := (ok.2.2.2.2.2 i (by omega)).2.1; have := ok.1; omega))
theorem r_cm_lt (ρ : Rd) : ∀ i, r_cm ρ i < 2 ^ i
  | 0 => by show 0 < 2 ^ 0; decide
  | i + 1 => by
    have := r_cm_lt ρ i
    have h2 : 2 ^ i < 2 ^ (i + 1) := Nat.pow_lt_pow_right (by omega) (by omega)
    unfold r_cm
    split
    · exact Nat.or_lt_two_pow (by omega) h2
    · omega
/-- an hour: those whose bit stands in st stay -/
def r_hr (ρ : Rd) (st : Nat) : Nat → Rd
  | 0 => ρ
  | p + 1 => if st / 2 ^ p % 2 = 1 then r_hr ρ st p else r_pass (r_hr ρ st p) p
def r_hourS (ρ : Rd) (st : Nat) : Rd := upR (r_hr ρ st (ρ 1)) 18 (ρ 18 + 1)
def r_hour (ρ : Rd) : Rd := r_hourS ρ (r_cm ρ (ρ 1))
theorem r_hr_lo (ρ : Rd) (st : Nat) {j : Nat} (h : j < 19) : ∀ p, r_hr ρ st p j = ρ j
  | 0 => rfl
  | p + 1 => by
    unfold r_hr
    split
    · exact r_hr_lo ρ st h p
    · rw [r_pass_lo _ _ h]; exact r_hr_lo ρ st h p
theorem rk_hr {ρ : Rd} (ok : rk ρ) (st : Nat) : ∀ p, p ≤ ρ 1 → rk (r_hr ρ st p)
  | 0, _ => ok
  | p + 1, h => by
    unfold r_hr
    split
    · exact rk_hr ok st p (by omega)
    · exact rk_pass (rk_hr ok st p (by omega)) (by rw [r_hr_lo ρ st (by omega)]; omega)
theorem rk_hourS {ρ : Rd} (ok : rk ρ) (st : Nat) : rk (r_hourS ρ st) := rk_hour (rk_hr ok st _ (Nat.le_refl _)) _
theorem r_hourS_lo (ρ : Rd) (st : Nat) {j : Nat} (h : j < 18) : r_hourS ρ st j = ρ j := by unfold r_hourS; rw [upR_ne _ _ (by omega), r_hr_lo _ _ (by omega)]
/-- a pulpit that has not passed yet stands as at first -/
theorem r_hr_own (ρ : Rd) (ok : rk ρ) (st : Nat) {q : Nat} (hq : q < ρ 1) : ∀ p, p ≤ q → r_hr ρ st p (19 + q) = ρ (19 + q) ∧ r_hr ρ st p (24 + q) = ρ (24 + q)
  | 0, _ => ⟨rfl, rfl⟩
  | p + 1, h => by
    have ih := r_hr_own ρ ok st hq p (by omega)
    have okp := rk_hr ok st p (by omega)
    have e1 : r_hr ρ st p 1 = ρ 1 := r_hr_lo ρ st (by omega) p
    have h1 := ok.2.1
    have hl := (okp.2.2.2.2.2 p (by omega)).2.1
    unfold r_hr
    split
    · exact ih
    · unfold r_pass
      rw [upR_ne _ _ (by omega), upR_ne _ _ (by omega), upR_ne _ _ (by omega), upR_ne _ _ (by omega), upR_ne _ _ (by omega), upR_ne _ _ (by omega)]
      exact ih
/-- what is said on a stretch in an hour -/
def r_sn (ρ : Rd) (st : Nat) : Nat → Nat → Nat
  | 0, _ => 0
  | p + 1, s => if st / 2 ^ p % 2 = 1 then r_sn ρ st p s else if s = ρ (19 + p) then r_sn ρ st p s ||| r_said ρ p else r_sn ρ st p s
theorem r_said_hr {ρ : Rd} (ok : rk ρ) (st : Nat) {p : Nat} (hp : p < ρ 1) : r_hr ρ st p (19 + p) = ρ (19 + p) ∧ r_said (r_hr ρ st p) p = r_said ρ p := by
  have a := r_hr_own ρ ok st hp p (Nat.le_refl _)
  have h1 := ok.2.1
  have h0 := ok.1
  have := (ok.2.2.2.2.2 p hp).2.1
  exact ⟨a.1, (r_loc (r_hr_lo ρ st (by omega) p) (r_hr_lo ρ st (by omega) p) a.2 a.1 (r_hr_lo ρ st (by omega) p)).2.2.2⟩
/-! THE SYSTEM's road -/
section RX
variable {μ : pw_Mem} {o : Nat} {ρ : Rd}
theorem x_nextOf (h : rd_X μ o ρ) (ok : rk ρ) {a : Nat} (ha : a < ρ 0) : fn_X2_nextOf o (nI a) μ = some (nI ((a + 1) % ρ 0), μ) := by
  obtain ⟨⟨h0, h0'⟩, -⟩ := ok
  unfold fn_X2_nextOf
  simp (disch := omega) only [mm_l0, mm_l1, mm_l2, mm_l3, mm_l4, mm_l5, mm_l6, mm_l7, mm_l8, mm_l9, mm_l10, mm_l11, mm_l12, mm_l13, mm_l14, mm_l15, mm_l16, mm_l17, mm_l18, mm_l19, mm_l20, mm_l21, mm_l22, mm_l23, mm_l24, mm_l25, mm_l26, mm_l27, mm_l28, mm_l29, mm_l30, mm_l31, mm_l32, mm_l33, mm_l34, mm_l35, mm_l36, mm_l37, mm_l38, mm_l39, mm_l40, mm_l41, mm_l42, mm_l43, mm_l44, mm_l45, mm_l46, mm_l47, mm_l48, mm_l49, mm_l50, mm_l51, mm_l52, mm_l53, mm_l54, mm_l55, mm_l56, mm_l57, mm_l58, mm_l59, mm_l60, mm_l61, mm_l62, mm_l63, mm_l64, mm_l65, mm_l66, mm_l67, mm_l68, mm_l69, mm_l76, mm_l90, mm_l97, mm_l98, mm_l100, mm_l101, mm_l107, mm_l112, mm_l114, mm_l121, mm_l152, mm_l153, mm_l154, mm_l155, mm_l156, mm_l165, mm_l171, mm_l176, mm_l190, mm_l200, mm_l210, mm_l255, mm_l460, mm_l1000, mm_l9999, mm_l999999, h.2.2.2.1, mm_add, mm_le]
  split
  · rw [show a + 1 = ρ 0 by omega, Nat.mod_self]
  · rw [Nat.mod_eq_of_lt (by omega)]
theorem x_beforeOf (h : rd_X μ o ρ) (ok : rk ρ) {a : Nat} (ha : a < ρ 0) : fn_X2_beforeOf o (nI a) μ = some (nI ((a + (ρ 0 - 1)) % ρ 0), μ) := by
  obtain ⟨⟨h0, h0'⟩, -⟩ := ok
  unfold fn_X2_beforeOf
  simp (disch := omega) only [mm_l0, mm_l1, mm_l2, mm_l3, mm_l4, mm_l5, mm_l6, mm_l7, mm_l8, mm_l9, mm_l10, mm_l11, mm_l12, mm_l13, mm_l14, mm_l15, mm_l16, mm_l17, mm_l18, mm_l19, mm_l20, mm_l21, mm_l22, mm_l23, mm_l24, mm_l25, mm_l26, mm_l27, mm_l28, mm_l29, mm_l30, mm_l31, mm_l32, mm_l33, mm_l34, mm_l35, mm_l36, mm_l37, mm_l38, mm_l39, mm_l40, mm_l41, mm_l42, mm_l43, mm_l44, mm_l45, mm_l46, mm_l47, mm_l48, mm_l49, mm_l50, mm_l51, mm_l52, mm_l53, mm_l54, mm_l55, mm_l56, mm_l57, mm_l58, mm_l59, mm_l60, mm_l61, mm_l62, mm_l63, mm_l64, mm_l65, mm_l66, mm_l67, mm_l68, mm_l69, mm_l76, mm_l90, mm_l97, mm_l98, mm_l100, mm_l101, mm_l107, mm_l112, mm_l114, mm_l121, mm_l152, mm_l153, mm_l154, mm_l155, mm_l156, mm_l165, mm_l171, mm_l176, mm_l190, mm_l200, mm_l210, mm_l255, mm_l460, mm_l1000, mm_l9999, mm_l999999, h.2.2.2.1, mm_le]
  split
  · rw [mm_sub (by omega), show a = 0 by omega, Nat.zero_add, Nat.mod_eq_of_lt (by omega)]
  · rw [mm_sub (by omega), show a + (ρ 0 - 1) = (a - 1) + ρ 0 by omega, Nat.add_mod_right, Nat.mod_eq_of_lt (by omega)]
theorem x_allWords (h : rd_X μ o ρ) (ok : rk ρ) : fn_X2_allWords o μ = some (nI (2 ^ ρ 2 - 1), μ) := by
  have h2 := ok.2.2.1
  have := Nat.two_pow_pos (ρ 2)
  unfold fn_X2_allWords
  rw [mm_l1, mm_l31, h.1, mm_one (by omega), mm_sub (by omega)]
theorem x_wordAfter (h : rd_X μ o ρ) (ok : rk ρ) {p a : Nat} (hp : p < ρ 1) (ha : a < ρ 2) : fn_X2_wordAfter o (nI p) (nI a) μ = some (nI ((a + r_way ρ p) % ρ 2), μ) := by
  obtain ⟨h0, h1, h2, h3, h4, h5⟩ := ok
  obtain ⟨g1, -⟩ := h5 p hp
  have e3 := (h.2.2.2.2.2.2 p hp).1
  unfold fn_X2_wordAfter r_way
  simp (disch := omega) only [mm_l0, mm_l1, mm_l2, mm_l3, mm_l4, mm_l5, mm_l6, mm_l7, mm_l8, mm_l9, mm_l10, mm_l11, mm_l12, mm_l13, mm_l14, mm_l15, mm_l16, mm_l17, mm_l18, mm_l19, mm_l20, mm_l21, mm_l22, mm_l23, mm_l24, mm_l25, mm_l26, mm_l27, mm_l28, mm_l29, mm_l30, mm_l31, mm_l32, mm_l33, mm_l34, mm_l35, mm_l36, mm_l37, mm_l38, mm_l39, mm_l40, mm_l41, mm_l42, mm_l43, mm_l44, mm_l45, mm_l46, mm_l47, mm_l48, mm_l49, mm_l50, mm_l51, mm_l52, mm_l53, mm_l54, mm_l55, mm_l56, mm_l57, mm_l58, mm_l59, mm_l60, mm_l61, mm_l62, mm_l63, mm_l64, mm_l65, mm_l66, mm_l67, mm_l68, mm_l69, mm_l76, mm_l90, mm_l97, mm_l98, mm_l100, mm_l101, mm_l107, mm_l112, mm_l114, mm_l121, mm_l152, mm_l153, mm_l154, mm_l155, mm_l156, mm_l165, mm_l171, mm_l176, mm_l190, mm_l200, mm_l210, mm_l255, mm_l460, mm_l1000, mm_l9999, mm_l999999, mm_ix, e3, h.1, mm_add, mm_le, mm_ne]
  by_cases q : ρ (13 + p) = 5
  · rw [if_neg (by omega), if_pos q]
    split
    · rw [mm_sub (by omega), show a = 0 by omega, Nat.zero_add, Nat.mod_eq_of_lt (by omega)]
    · rw [mm_sub (by omega), show a + (ρ 2 - 1) = (a - 1) + ρ 2 by omega, Nat.add_mod_right, Nat.mod_eq_of_lt (by omega)]
  · rw [if_pos q, if_neg q]
    split
    · rw [show a + 1 = ρ 2 by omega, Nat.mod_self]
    · rw [Nat.mod_eq_of_lt (by omega)]
theorem x_sayings_l (h : rd_X μ o ρ) (ok : rk ρ) {p : Nat} (hp : p < ρ 1) (k : Int32 → pw_Mem → Option (Int32 × pw_Mem)) : ∀ (d n i : Nat), i + d = r_lets (ρ (4 + ρ (19 + p))) → d < n → fl_X2_sayings_24 k o (nI p) n (nI (r_says ρ p i)) (nI (r_wd ρ p i)) (nI i) μ = k (nI (r_says ρ p (r_lets (ρ (4 + ρ (19 + p)))))) μ := by
  intro d
  have ok' := ok
  obtain ⟨h0, h1, h2, h3, h4, h5⟩ := ok
  obtain ⟨g1, g2, g3⟩ := h5 p hp
  have g4 := (h4 _ g2).1
  have e4 := (h.2.2.2.2.2.2 p hp).2.1
  have e1 := (h.2.2.2.2.2.1 _ g2).1
  have hl := r_lets_le (ρ (4 + ρ (19 + p)))
  induction d with
  | zero =>
    intro n i hi hn
    obtain ⟨n, rfl⟩ : ∃ q, n = q + 1 := ⟨n - 1, by omega⟩
    rw [fl_X2_sayings_24]
    simp (disch := omega) only [mm_l0, mm_l1, mm_l2, mm_l3, mm_l4, mm_l5, mm_l6, mm_l7, mm_l8, mm_l9, mm_l10, mm_l11, mm_l12, mm_l13, mm_l14, mm_l15, mm_l16, mm_l17, mm_l18, mm_l19, mm_l20, mm_l21, mm_l22, mm_l23, mm_l24, mm_l25, mm_l26, mm_l27, mm_l28, mm_l29, mm_l30, mm_l31, mm_l32, mm_l33, mm_l34, mm_l35, mm_l36, mm_l37, mm_l38, mm_l39, mm_l40, mm_l41, mm_l42, mm_l43, mm_l44, mm_l45, mm_l46, mm_l47, mm_l48, mm_l49, mm_l50, mm_l51, mm_l52, mm_l53, mm_l54, mm_l55, mm_l56, mm_l57, mm_l58, mm_l59, mm_l60, mm_l61, mm_l62, mm_l63, mm_l64, mm_l65, mm_l66, mm_l67, mm_l68, mm_l69, mm_l76, mm_l90, mm_l97, mm_l98, mm_l100, mm_l101, mm_l107, mm_l112, mm_l114, mm_l121, mm_l152, mm_l153, mm_l154, mm_l155, mm_l156, mm_l165, mm_l171, mm_l176, mm_l190, mm_l200, mm_l210, mm_l255, mm_l460, mm_l1000, mm_l9999, mm_l999999, mm_ix, e4, e1, r_tv g4, mm_le]
    rw [if_pos (by omega), ← hi, Nat.add_zero]
  | succ d ih =>
    intro n i hi hn
    obtain ⟨n, rfl⟩ : ∃ q, n = q + 1 := ⟨n - 1, by omega⟩
    have := r_wd_lt ok' p i
    rw [fl_X2_sayings_24]
    simp (disch := omega) only [mm_l0, mm_l1, mm_l2, mm_l3, mm_l4, mm_l5, mm_l6, mm_l7, mm_l8, mm_l9, mm_l10, mm_l11, mm_l12, mm_l13, mm_l14, mm_l15, mm_l16, mm_l17, mm_l18, mm_l19, mm_l20, mm_l21, mm_l22, mm_l23, mm_l24, mm_l25, mm_l26, mm_l27, mm_l28, mm_l29, mm_l30, mm_l31, mm_l32, mm_l33, mm_l34, mm_l35, mm_l36, mm_l37, mm_l38, mm_l39, mm_l40, mm_l41, mm_l42, mm_l43, mm_l44, mm_l45, mm_l46, mm_l47, mm_l48, mm_l49, mm_l50, mm_l51, mm_l52, mm_l53, mm_l54, mm_l55, mm_l56, mm_l57, mm_l58, mm_l59, mm_l60, mm_l61, mm_l62, mm_l63, mm_l64, mm_l65, mm_l66, mm_l67, mm_l68, mm_l69, mm_l76, mm_l90, mm_l97, mm_l98, mm_l100, mm_l101, mm_l107, mm_l112, mm_l114, mm_l121, mm_l152, mm_l153, mm_l154, mm_l155, mm_l156, mm_l165, mm_l171, mm_l176, mm_l190, mm_l200, mm_l210, mm_l255, mm_l460, mm_l1000, mm_l9999, mm_l999999, mm_ix, e4, e1, r_tv g4, mm_le, x_wordAfter h ok' hp, mm_bi, ← r_wd_s, mm_one, mm_or, mm_add]
    rw [if_neg (by omega)]
    exact ih n (i + 1) (by omega) (by omega)
theorem x_sayings (h : rd_X μ o ρ) (ok : rk ρ) {p : Nat} (hp : p < ρ 1) : fn_X2_sayings o (nI p) μ = some (nI (r_said ρ p), μ) := by
  have ok' := ok
  obtain ⟨h0, h1, h2, h3, h4, h5⟩ := ok
  obtain ⟨g1, g2, g3⟩ := h5 p hp
  have e3 := (h.2.2.2.2.2.2 p hp).1
  have e5 := (h.2.2.2.2.2.2 p hp).2.2
  have hl := r_lets_le (ρ (4 + ρ (19 + p)))
  unfold fn_X2_sayings r_said r_many
  simp (disch := omega) only [mm_l0, mm_l1, mm_l2, mm_l3, mm_l4, mm_l5, mm_l6, mm_l7, mm_l8, mm_l9, mm_l10, mm_l11, mm_l12, mm_l13, mm_l14, mm_l15, mm_l16, mm_l17, mm_l18, mm_l19, mm_l20, mm_l21, mm_l22, mm_l23, mm_l24, mm_l25, mm_l26, mm_l27, mm_l28, mm_l29, mm_l30, mm_l31, mm_l32, mm_l33, mm_l34, mm_l35, mm_l36, mm_l37, mm_l38, mm_l39, mm_l40, mm_l41, mm_l42, mm_l43, mm_l44, mm_l45, mm_l46, mm_l47, mm_l48, mm_l49, mm_l50, mm_l51, mm_l52, mm_l53, mm_l54, mm_l55, mm_l56, mm_l57, mm_l58, mm_l59, mm_l60, mm_l61, mm_l62, mm_l63, mm_l64, mm_l65, mm_l66, mm_l67, mm_l68, mm_l69, mm_l76, mm_l90, mm_l97, mm_l98, mm_l100, mm_l101, mm_l107, mm_l112, mm_l114, mm_l121, mm_l152, mm_l153, mm_l154, mm_l155, mm_l156, mm_l165, mm_l171, mm_l176, mm_l190, mm_l200, mm_l210, mm_l255, mm_l460, mm_l1000, mm_l9999, mm_l999999, mm_ix, e3, e5, mm_ne]
  by_cases q : ρ (13 + p) = 4
  · rw [if_neg (by omega), if_pos q]; rfl
  · rw [if_pos q, if_neg q]
    have := x_sayings_l h ok' hp (fun y m => some (y, m)) (r_lets (ρ (4 + ρ (19 + p)))) 1000 0 (by omega) (by omega)
    rw [r_wd_0 g3] at this
    exact this
theorem x_wordBehind_l (h : rd_X μ o ρ) (ok : rk ρ) {p : Nat} (hp : p < ρ 1) (k : Int32 → pw_Mem → Option (Int32 × pw_Mem)) : ∀ (d n i : Nat), i + d = r_lets (ρ (4 + ρ (19 + p))) → d < n → fl_X2_wordBehind_19 k o (nI p) n (nI (r_wd ρ p i)) (nI i) μ = k (nI (r_wd ρ p (r_lets (ρ (4 + ρ (19 + p)))))) μ := by
  intro d
  have ok' := ok
  obtain ⟨h0, h1, h2, h3, h4, h5⟩ := ok
  obtain ⟨g1, g2, g3⟩ := h5 p hp
  have g4 := (h4 _ g2).1
  have e4 := (h.2.2.2.2.2.2 p hp).2.1
  have e1 := (h.2.2.2.2.2.1 _ g2).1
  have hl := r_lets_le (ρ (4 + ρ (19 + p)))
  induction d with
  | zero =>
    intro n i hi hn
    obtain ⟨n, rfl⟩ : ∃ q, n = q + 1 := ⟨n - 1, by omega⟩
    rw [fl_X2_wordBehind_19]
    simp (disch := omega) only [mm_l0, mm_l1, mm_l2, mm_l3, mm_l4, mm_l5, mm_l6, mm_l7, mm_l8, mm_l9, mm_l10, mm_l11, mm_l12, mm_l13, mm_l14, mm_l15, mm_l16, mm_l17, mm_l18, mm_l19, mm_l20, mm_l21, mm_l22, mm_l23, mm_l24, mm_l25, mm_l26, mm_l27, mm_l28, mm_l29, mm_l30, mm_l31, mm_l32, mm_l33, mm_l34, mm_l35, mm_l36, mm_l37, mm_l38, mm_l39, mm_l40, mm_l41, mm_l42, mm_l43, mm_l44, mm_l45, mm_l46, mm_l47, mm_l48, mm_l49, mm_l50, mm_l51, mm_l52, mm_l53, mm_l54, mm_l55, mm_l56, mm_l57, mm_l58, mm_l59, mm_l60, mm_l61, mm_l62, mm_l63, mm_l64, mm_l65, mm_l66, mm_l67, mm_l68, mm_l69, mm_l76, mm_l90, mm_l97, mm_l98, mm_l100, mm_l101, mm_l107, mm_l112, mm_l114, mm_l121, mm_l152, mm_l153, mm_l154, mm_l155, mm_l156, mm_l165, mm_l171, mm_l176, mm_l190, mm_l200, mm_l210, mm_l255, mm_l460, mm_l1000, mm_l9999, mm_l999999, mm_ix, e4, e1, r_tv g4, mm_le]
    rw [if_pos (by omega), ← hi, Nat.add_zero]
  | succ d ih =>
    intro n i hi hn
    obtain ⟨n, rfl⟩ : ∃ q, n = q + 1 := ⟨n - 1, by omega⟩
    have := r_wd_lt ok' p i
    rw [fl_X2_wordBehind_19]
    simp (disch := omega) only [mm_l0, mm_l1, mm_l2, mm_l3, mm_l4, mm_l5, mm_l6, mm_l7, mm_l8, mm_l9, mm_l10, mm_l11, mm_l12, mm_l13, mm_l14, mm_l15, mm_l16, mm_l17, mm_l18, mm_l19, mm_l20, mm_l21, mm_l22, mm_l23, mm_l24, mm_l25, mm_l26, mm_l27, mm_l28, mm_l29, mm_l30, mm_l31, mm_l32, mm_l33, mm_l34, mm_l35, mm_l36, mm_l37, mm_l38, mm_l39, mm_l40, mm_l41, mm_l42, mm_l43, mm_l44, mm_l45, mm_l46, mm_l47, mm_l48, mm_l49, mm_l50, mm_l51, mm_l52, mm_l53, mm_l54, mm_l55, mm_l56, mm_l57, mm_l58, mm_l59, mm_l60, mm_l61, mm_l62, mm_l63, mm_l64, mm_l65, mm_l66, mm_l67, mm_l68, mm_l69, mm_l76, mm_l90, mm_l97, mm_l98, mm_l100, mm_l101, mm_l107, mm_l112, mm_l114, mm_l121, mm_l152, mm_l153, mm_l154, mm_l155, mm_l156, mm_l165, mm_l171, mm_l176, mm_l190, mm_l200, mm_l210, mm_l255, mm_l460, mm_l1000, mm_l9999, mm_l999999, mm_ix, e4, e1, r_tv g4, mm_le, x_wordAfter h ok' hp, mm_bi, ← r_wd_s, mm_add]
    rw [if_neg (by omega)]
    exact ih n (i + 1) (by omega) (by omega)
theorem x_wordBehind (h : rd_X μ o ρ) (ok : rk ρ) {p : Nat} (hp : p < ρ 1) : fn_X2_wordBehind o (nI p) μ = some (nI (r_wd ρ p (r_many ρ p)), μ) := by
  have ok' := ok
  obtain ⟨h0, h1, h2, h3, h4, h5⟩ := ok
  obtain ⟨g1, g2, g3⟩ := h5 p hp
  have e3 := (h.2.2.2.2.2.2 p hp).1
  have e5 := (h.2.2.2.2.2.2 p hp).2.2
  have hl := r_lets_le (ρ (4 + ρ (19 + p)))
  unfold fn_X2_wordBehind r_many
  simp (disch := omega) only [mm_l0, mm_l1, mm_l2, mm_l3, mm_l4, mm_l5, mm_l6, mm_l7, mm_l8, mm_l9, mm_l10, mm_l11, mm_l12, mm_l13, mm_l14, mm_l15, mm_l16, mm_l17, mm_l18, mm_l19, mm_l20, mm_l21, mm_l22, mm_l23, mm_l24, mm_l25, mm_l26, mm_l27, mm_l28, mm_l29, mm_l30, mm_l31, mm_l32, mm_l33, mm_l34, mm_l35, mm_l36, mm_l37, mm_l38, mm_l39, mm_l40, mm_l41, mm_l42, mm_l43, mm_l44, mm_l45, mm_l46, mm_l47, mm_l48, mm_l49, mm_l50, mm_l51, mm_l52, mm_l53, mm_l54, mm_l55, mm_l56, mm_l57, mm_l58, mm_l59, mm_l60, mm_l61, mm_l62, mm_l63, mm_l64, mm_l65, mm_l66, mm_l67, mm_l68, mm_l69, mm_l76, mm_l90, mm_l97, mm_l98, mm_l100, mm_l101, mm_l107, mm_l112, mm_l114, mm_l121, mm_l152, mm_l153, mm_l154, mm_l155, mm_l156, mm_l165, mm_l171, mm_l176, mm_l190, mm_l200, mm_l210, mm_l255, mm_l460, mm_l1000, mm_l9999, mm_l999999, mm_ix, e3, e5, mm_eq]
  by_cases q : ρ (13 + p) = 4
  · rw [if_pos q, if_pos q, r_wd_0 g3]
  · rw [if_neg q, if_neg q]
    have := x_wordBehind_l h ok' hp (fun y m => some (y, m)) (r_lets (ρ (4 + ρ (19 + p)))) 1000 0 (by omega) (by omega)
    rw [r_wd_0 g3] at this
    exact this
theorem x_stretchBehind (h : rd_X μ o ρ) (ok : rk ρ) {p sd : Nat} (hp : p < ρ 1) (hs : sd < 65536) : fn_X2_stretchBehind o (nI p) (nI sd) μ = some (nI (r_nextS ρ p sd), μ) := by
  have ok' := ok
  obtain ⟨h0, h1, h2, h3, h4, h5⟩ := ok
  obtain ⟨g1, g2, g3⟩ := h5 p hp
  have e3 := (h.2.2.2.2.2.2 p hp).1
  have e4 := (h.2.2.2.2.2.2 p hp).2.1
  have hb : sd / 2 ^ ρ 3 % 2 < 2 := Nat.mod_lt _ (by omega)
  unfold fn_X2_stretchBehind r_nextS
  simp (disch := omega) only [mm_l0, mm_l1, mm_l2, mm_l3, mm_l4, mm_l5, mm_l6, mm_l7, mm_l8, mm_l9, mm_l10, mm_l11, mm_l12, mm_l13, mm_l14, mm_l15, mm_l16, mm_l17, mm_l18, mm_l19, mm_l20, mm_l21, mm_l22, mm_l23, mm_l24, mm_l25, mm_l26, mm_l27, mm_l28, mm_l29, mm_l30, mm_l31, mm_l32, mm_l33, mm_l34, mm_l35, mm_l36, mm_l37, mm_l38, mm_l39, mm_l40, mm_l41, mm_l42, mm_l43, mm_l44, mm_l45, mm_l46, mm_l47, mm_l48, mm_l49, mm_l50, mm_l51, mm_l52, mm_l53, mm_l54, mm_l55, mm_l56, mm_l57, mm_l58, mm_l59, mm_l60, mm_l61, mm_l62, mm_l63, mm_l64, mm_l65, mm_l66, mm_l67, mm_l68, mm_l69, mm_l76, mm_l90, mm_l97, mm_l98, mm_l100, mm_l101, mm_l107, mm_l112, mm_l114, mm_l121, mm_l152, mm_l153, mm_l154, mm_l155, mm_l156, mm_l165, mm_l171, mm_l176, mm_l190, mm_l200, mm_l210, mm_l255, mm_l460, mm_l1000, mm_l9999, mm_l999999, mm_j0, mm_j1, mm_ix, e3, e4, h.2.1, mm_ne, mm_bit, mm_eq, x_beforeOf h ok' g2, x_nextOf h ok' g2, mm_bi]
  by_cases q2 : ρ (13 + p) = 2
  · simp [q2]
  · by_cases q3 : ρ (13 + p) = 3
    · by_cases q4 : sd / 2 ^ ρ 3 % 2 = 0
      · simp [q3, q4]
      · have q5 : sd / 2 ^ ρ 3 % 2 = 1 := by omega
        simp [q3, q5]
    · simp [q2, q3]
theorem x_other {μ' : pw_Mem} (h : rd_X μ o ρ) (hq : ∀ j, j ≤ 5 → μ' (o + j) = μ (o + j)) : rd_X μ' o ρ := by
  have e0 := hq 0 (by omega)
  rw [Nat.add_zero] at e0
  unfold rd_X
  rw [e0, hq 1 (by omega), hq 2 (by omega), hq 3 (by omega), hq 4 (by omega), hq 5 (by omega)]
  exact h
theorem x_heard (h : rd_X μ o ρ) (ok : rk ρ) {s : Nat} (hs : s < ρ 0) (v : Nat) : rd_X (pw_st μ (o + 2) s (nI v)) o (upR ρ (29 + s) v) := by
  obtain ⟨a1, a2, a3, a4, a5, a6, a7⟩ := h
  have h1 := ok.2.1
  have h0 := ok.1
  have e : ∀ j, j < 29 → upR ρ (29 + s) v j = ρ j := fun j hj => upR_ne _ _ (by omega)
  unfold rd_X
  rw [e 0 (by omega), e 1 (by omega), e 2 (by omega), e 3 (by omega), e 18 (by omega)]
  refine ⟨by rw [ms_ne _ _ (by omega)]; exact a1, by rw [ms_ne _ _ (by omega)]; exact a2, by rw [ms_ne _ _ (by omega)]; exact a3, by rw [ms_ne _ _ (by omega)]; exact a4, by rw [ms_ne _ _ (by omega)]; exact a5, fun t ht => ⟨?_, ?_⟩, fun p hp => ⟨?_, ?_, ?_⟩⟩
  · rw [ms_ne _ _ (by omega), e (4 + t) (by omega)]; exact (a6 t ht).1
  · by_cases q : t = s
    · subst q; rw [ms_eq, upR_eq]
    · rw [ms_ne _ _ (by omega), upR_ne _ _ (by omega)]; exact (a6 t ht).2
  · rw [ms_ne _ _ (by omega), e (13 + p) (by omega)]; exact (a7 p hp).1
  · rw [ms_ne _ _ (by omega), e (19 + p) (by omega)]; exact (a7 p hp).2.1
  · rw [ms_ne _ _ (by omega), e (24 + p) (by omega)]; exact (a7 p hp).2.2
theorem x_word (h : rd_X μ o ρ) (ok : rk ρ) {s : Nat} (hs : s < ρ 1) (v : Nat) : rd_X (pw_st μ (o + 5) s (nI v)) o (upR ρ (24 + s) v) := by
  obtain ⟨a1, a2, a3, a4, a5, a6, a7⟩ := h
  have h1 := ok.2.1
  have h0 := ok.1
  have e : ∀ j, j < 24 → upR ρ (24 + s) v j = ρ j := fun j hj => upR_ne _ _ (by omega)
  unfold rd_X
  rw [e 0 (by omega), e 1 (by omega), e 2 (by omega), e 3 (by omega), e 18 (by omega)]
  refine ⟨by rw [ms_ne _ _ (by omega)]; exact a1, by rw [ms_ne _ _ (by omega)]; exact a2, by rw [ms_ne _ _ (by omega)]; exact a3, by rw [ms_ne _ _ (by omega)]; exact a4, by rw [ms_ne _ _ (by omega)]; exact a5, fun t ht => ⟨?_, ?_⟩, fun p hp => ⟨?_, ?_, ?_⟩⟩
  · rw [ms_ne _ _ (by omega), e (4 + t) (by omega)]; exact (a6 t ht).1
  · rw [ms_ne _ _ (by omega), upR_ne _ _ (by omega)]; exact (a6 t ht).2
  · rw [ms_ne _ _ (by omega), e (13 + p) (by omega)]; exact (a7 p hp).1
  · rw [ms_ne _ _ (by omega), e (19 + p) (by omega)]; exact (a7 p hp).2.1
  · by_cases q : p = s
    · subst q; rw [ms_eq, upR_eq]
    · rw [ms_ne _ _ (by omega), upR_ne _ _ (by omega)]; exact (a7 p hp).2.2
theorem x_at (h : rd_X μ o ρ) (ok : rk ρ) {s : Nat} (hs : s < ρ 1) (v : Nat) : rd_X (pw_st μ (o + 4) s (nI v)) o (upR ρ (19 + s) v) := by
  obtain ⟨a1, a2, a3, a4, a5, a6, a7⟩ := h
  have h1 := ok.2.1
  have h0 := ok.1
  have e : ∀ j, j < 19 → upR ρ (19 + s) v j = ρ j := fun j hj => upR_ne _ _ (by omega)
  unfold rd_X
  rw [e 0 (by omega), e 1 (by omega), e 2 (by omega), e 3 (by omega), e 18 (by omega)]
  refine ⟨by rw [ms_ne _ _ (by omega)]; exact a1, by rw [ms_ne _ _ (by omega)]; exact a2, by rw [ms_ne _ _ (by omega)]; exact a3, by rw [ms_ne _ _ (by omega)]; exact a4, by rw [ms_ne _ _ (by omega)]; exact a5, fun t ht => ⟨?_, ?_⟩, fun p hp => ⟨?_, ?_, ?_⟩⟩
  · rw [ms_ne _ _ (by omega), e (4 + t) (by omega)]; exact (a6 t ht).1
  · rw [ms_ne _ _ (by omega), upR_ne _ _ (by omega)]; exact (a6 t ht).2
  · rw [ms_ne _ _ (by omega), e (13 + p) (by omega)]; exact (a7 p hp).1
  · by_cases q : p = s
    · subst q; rw [ms_eq, upR_eq]
    · rw [ms_ne _ _ (by omega), upR_ne _ _ (by omega)]; exact (a7 p hp).2.1
  · rw [ms_ne _ _ (by omega), upR_ne _ _ (by omega)]; exact (a7 p hp).2.2
theorem x_hour (h : rd_X μ o ρ) (ok : rk ρ) (v : Nat) : rd_X (pw_st μ o 3 (nI v)) o (upR ρ 18 v) := by
  obtain ⟨a1, a2, a3, a4, a5, a6, a7⟩ := h
  have h1 := ok.2.1
  have h0 := ok.1
  unfold rd_X
  rw [upR_ne _ _ (show 0 ≠ 18 by omega), upR_ne _ _ (show 1 ≠ 18 by omega), upR_ne _ _ (show 2 ≠ 18 by omega), upR_ne _ _ (show 3 ≠ 18 by omega), upR_eq]
  refine ⟨by rw [ms_ne _ _ (by omega)]; exact a1, by rw [ms_ne _ _ (by omega)]; exact a2, ms_eq _ _ _ _, by rw [ms_ne _ _ (by omega)]; exact a4, by rw [ms_ne _ _ (by omega)]; exact a5, fun t ht => ⟨?_, ?_⟩, fun p hp => ⟨?_, ?_, ?_⟩⟩
  · rw [ms_ne _ _ (by omega), upR_ne _ _ (by omega)]; exact (a6 t ht).1
  · rw [ms_ne _ _ (by omega), upR_ne _ _ (by omega)]; exact (a6 t ht).2
  · rw [ms_ne _ _ (by omega), upR_ne _ _ (by omega)]; exact (a7 p hp).1
  · rw [ms_ne _ _ (by omega), upR_ne _ _ (by omega)]; exact (a7 p hp).2.1
  · rw [ms_ne _ _ (by omega), upR_ne _ _ (by omega)]; exact (a7 p hp).2.2
theorem x_pass (h : rd_X μ o ρ) (ok : rk ρ) {p : Nat} (hp : p < ρ 1) : ∃ μ', fn_X2_pass o (nI p) μ = some μ' ∧ rd_X μ' o (r_pass ρ p) ∧ (∀ k, k < o ∨ o + 6 < k → μ' k = μ k) ∧ (∀ s, μ' (o + 6) s = if s = ρ (19 + p) then μ (o + 6) s ||| nI (r_said ρ p) else μ (o + 6) s) ∧ μ' o 0 = μ o 0 := by
  have ok' := ok
  obtain ⟨h0, h1, h2, h3, h4, h5⟩ := ok
  obtain ⟨g1, g2, g3⟩ := h5 p hp
  have e4 := (h.2.2.2.2.2.2 p hp).2.1
  have e2 := (h.2.2.2.2.2.1 _ g2).2
  have hs16 : r_said ρ p < 65536 := Nat.lt_of_lt_of_le (r_said_lt ok' p) (r_pow16 ok')
  -- the memories on the way
  let H := ρ (19 + p)
  let ρ1 := upR ρ (29 + ρ (19 + p)) (ρ (29 + ρ (19 + p)) ||| r_said ρ p)
  have l1 : ∀ j, j < 29 → ρ1 j = ρ j := fun j hj => upR_ne _ _ (by omega)
  have k1 : rk ρ1 := rk_heard ok' g2 (Nat.or_lt_two_pow (h4 _ g2).2 (r_said_lt ok' p))
  have hA := x_other (μ' := pw_st μ (o + 6) (ρ (19 + p)) (μ (o + 6) (ρ (19 + p)) ||| nI (r_said ρ p))) h (fun j hj => ms_row _ _ (by omega))
  have hB := x_heard hA ok' g2 (ρ (29 + ρ (19 + p)) ||| r_said ρ p)
  have hp1 : p < ρ1 1 := by rw [l1 _ (by omega)]; exact hp
  have loc := r_loc (ρ := ρ) (τ := ρ1) (p := p) (l1 _ (by omega)) (l1 _ (by omega)) (l1 _ (by omega)) (l1 _ (by omega)) (l1 _ (by omega))
  have hC := x_wordBehind hB k1 hp1
  rw [loc.1, loc.2.1] at hC
  have hD := x_word hB k1 hp1 (r_wd ρ p (r_many ρ p))
  have k2 : rk (upR ρ1 (24 + p) (r_wd ρ p (r_many ρ p))) := rk_word k1 hp1 (by rw [l1 _ (by omega)]; exact r_wd_lt ok' p _)
  have hp2 : p < upR ρ1 (24 + p) (r_wd ρ p (r_many ρ p)) 1 := by rw [upR_ne _ _ (by omega)]; exact hp1
  have hE := x_stretchBehind hD k2 hp2 hs16
  have en : r_nextS (upR ρ1 (24 + p) (r_wd ρ p (r_many ρ p))) p (r_said ρ p) = r_next ρ p := by
    unfold r_next r_nextS
    rw [upR_ne _ _ (by omega), upR_ne _ _ (by omega), upR_ne _ _ (by omega), upR_ne _ _ (by omega), l1 _ (by omega), l1 _ (by omega), l1 _ (by omega), l1 _ (by omega)]
  rw [en] at hE
  have hF := x_at hD k2 hp2 (r_next ρ p)
  refine ⟨_, ?_, hF, ?_, ?_, ?_⟩
  · unfold fn_X2_pass
    simp (disch := omega) only [mm_ix, e4, x_sayings h ok' hp, mm_bi]
    rw [show (pw_st μ (o + 6) (ρ (19 + p)) (μ (o + 6) (ρ (19 + p)) ||| nI (r_said ρ p))) (o + 2) (ρ (19 + p)) = nI (ρ (29 + ρ (19 + p))) by rw [ms_ne _ _ (by omega)]; exact e2, mm_or, hC, mm_bi, hE, mm_bi]
  · intro k hk
    rw [ms_row _ _ (by omega), ms_row _ _ (by omega), ms_row _ _ (by omega), ms_row _ _ (by omega)]
  · intro s
    rw [ms_ne _ _ (by omega), ms_ne _ _ (by omega), ms_ne _ _ (by omega), ms_at]
    by_cases q : s = ρ (19 + p)
    · rw [if_pos ⟨rfl, q⟩, if_pos q, q]
    · rw [if_neg (by omega), if_neg q]
  · rw [ms_ne _ _ (by omega), ms_ne _ _ (by omega), ms_ne _ _ (by omega), ms_ne _ _ (by omega)]
theorem x_councils_l (h : rd_X μ o ρ) (ok : rk ρ) (k : Int32 → pw_Mem → Option (Int32 × pw_Mem)) : ∀ (d n i : Nat), i + d = ρ 1 → d < n → fl_X2_councils_6 k o n (nI (r_tk ρ i)) (nI (r_cm ρ i)) (nI i) μ = k (nI (r_cm ρ (ρ 1))) μ := by
  intro d
  have ok' := ok
  obtain ⟨h0, h1, h2, h3, h4, h5⟩ := ok
  induction d with
  | zero =>
    intro n i hi hn
    obtain ⟨n, rfl⟩ : ∃ q, n = q + 1 := ⟨n - 1, by omega⟩
    rw [fl_X2_councils_6, h.2.2.2.2.1, if_pos (nI_le (by omega) (by omega)), ← hi, Nat.add_zero]
  | succ d ih =>
    intro n i hi hn
    obtain ⟨n, rfl⟩ : ∃ q, n = q + 1 := ⟨n - 1, by omega⟩
    have hi' : i < ρ 1 := by omega
    have e4 := (h.2.2.2.2.2.2 i hi').2.1
    have g2 := (h5 i hi').2.1
    have t1 := r_tk_lt ok' i (by omega)
    have hb : r_tk ρ i / 2 ^ ρ (19 + i) % 2 < 2 := Nat.mod_lt _ (by omega)
    rw [fl_X2_councils_6, h.2.2.2.2.1, if_neg (nI_ge (by omega) (by omega))]
    simp (disch := omega) only [mm_l0, mm_l1, mm_l2, mm_l3, mm_l4, mm_l5, mm_l6, mm_l7, mm_l8, mm_l9, mm_l10, mm_l11, mm_l12, mm_l13, mm_l14, mm_l15, mm_l16, mm_l17, mm_l18, mm_l19, mm_l20, mm_l21, mm_l22, mm_l23, mm_l24, mm_l25, mm_l26, mm_l27, mm_l28, mm_l29, mm_l30, mm_l31, mm_l32, mm_l33, mm_l34, mm_l35, mm_l36, mm_l37, mm_l38, mm_l39, mm_l40, mm_l41, mm_l42, mm_l43, mm_l44, mm_l45, mm_l46, mm_l47, mm_l48, mm_l49, mm_l50, mm_l51, mm_l52, mm_l53, mm_l54, mm_l55, mm_l56, mm_l57, mm_l58, mm_l59, mm_l60, mm_l61, mm_l62, mm_l63, mm_l64, mm_l65, mm_l66, mm_l67, mm_l68, mm_l69, mm_l76, mm_l90, mm_l97, mm_l98, mm_l100, mm_l101, mm_l107, mm_l112, mm_l114, mm_l121, mm_l152, mm_l153, mm_l154, mm_l155, mm_l156, mm_l165, mm_l171, mm_l176, mm_l190, mm_l200, mm_l210, mm_l255, mm_l460, mm_l1000, mm_l9999, mm_l999999, mm_ix, mm_j1, e4, mm_bit, mm_eq, mm_one, mm_or, mm_add]
    have := ih n (i + 1) (by omega) (by omega)
    rw [r_tk, r_cm] at this
    by_cases q : r_tk ρ i / 2 ^ ρ (19 + i) % 2 = 1
    · rw [if_neg (by omega)]; rw [if_pos q] at this; exact this
    · rw [if_pos (by omega)]; rw [if_neg q] at this; exact this
theorem x_councils (h : rd_X μ o ρ) (ok : rk ρ) : fn_X2_councils o μ = some (nI (r_cm ρ (ρ 1)), μ) := by
  have h1 := ok.2.1
  exact x_councils_l h ok (fun y m => some (y, m)) (ρ 1) 1000 0 (by omega) (by omega)
theorem x_goHour_l1 (ok : rk ρ) (c : Int32) (k : pw_Mem → Option pw_Mem) : ∀ (d n i : Nat) (m : pw_Mem), rd_X m o ρ → i + d = ρ 0 → d < n → (∀ s, s < i → m (o + 6) s = nI 0) → ∃ m', fl_X2_goHour_7 k o c n (nI i) m = k m' ∧ (∀ j, j ≠ o + 6 → m' j = m j) ∧ ∀ s, s < ρ 0 → m' (o + 6) s = nI 0 := by
  intro d
  have h0 := ok.1
  induction d with
  | zero =>
    intro n i m h hi hn hz
    obtain ⟨n, rfl⟩ : ∃ q, n = q + 1 := ⟨n - 1, by omega⟩
    refine ⟨m, ?_, fun _ _ => rfl, fun s hs => hz s (by omega)⟩
    rw [fl_X2_goHour_7, h.2.2.2.1, if_pos (nI_le (by omega) (by omega))]
  | succ d ih =>
    intro n i m h hi hn hz
    obtain ⟨n, rfl⟩ : ∃ q, n = q + 1 := ⟨n - 1, by omega⟩
    obtain ⟨m', a, b, c⟩ := ih n (i + 1) (pw_st m (o + 6) i (nI 0)) (x_other h (fun j hj => ms_row _ _ (by omega))) (by omega) (by omega) (fun s hs => by
      by_cases q : s = i
      · rw [q, ms_eq]
      · rw [ms_ne _ _ (by omega)]; exact hz s (by omega))
    refine ⟨m', ?_, fun j hj => by rw [b j hj, ms_row _ _ hj], c⟩
    rw [fl_X2_goHour_7, h.2.2.2.1, if_neg (nI_ge (by omega) (by omega)), mm_ix (by omega) (by omega), mm_l0, mm_l1, mm_add]
    exact a
theorem x_goHour_l2 (ok : rk ρ) (st : Nat) (hst : st < 65536) (k : pw_Mem → Option pw_Mem) : ∀ (d n i : Nat) (m : pw_Mem), rd_X m o (r_hr ρ st i) → i + d = ρ 1 → d < n → (∀ s, s < ρ 0 → m (o + 6) s = nI (r_sn ρ st i s)) → ∃ m', fl_X2_goHour_30 k o (nI st) n (nI i) m = k m' ∧ rd_X m' o (r_hr ρ st (ρ 1)) ∧ (∀ j, j < o ∨ o + 6 < j → m' j = m j) ∧ (∀ s, s < ρ 0 → m' (o + 6) s = nI (r_sn ρ st (ρ 1) s)) ∧ m' o 0 = m o 0 := by
  intro d
  have h1 := ok.2.1
  induction d with
  | zero =>
    intro n i m h hi hn hz
    obtain ⟨n, rfl⟩ : ∃ q, n = q + 1 := ⟨n - 1, by omega⟩
    have hi' : i = ρ 1 := by omega
    subst hi'
    refine ⟨m, ?_, h, fun _ _ => rfl, hz, rfl⟩
    rw [fl_X2_goHour_30, h.2.2.2.2.1, r_hr_lo ρ st (by omega), if_pos (nI_le (by omega) (by omega))]
  | succ d ih =>
    intro n i m h hi hn hz
    obtain ⟨n, rfl⟩ : ∃ q, n = q + 1 := ⟨n - 1, by omega⟩
    have hi' : i < ρ 1 := by omega
    have okp := rk_hr ok st i (by omega)
    have e1 : r_hr ρ st i 1 = ρ 1 := r_hr_lo ρ st (by omega) i
    have hb : st / 2 ^ i % 2 < 2 := Nat.mod_lt _ (by omega)
    have unf : fl_X2_goHour_30 k o (nI st) (n + 1) (nI i) m = if st / 2 ^ i % 2 = 1 then fl_X2_goHour_30 k o (nI st) n (nI (i + 1)) m else fn_bv (fn_X2_pass o (nI i) m) (fun m48 => fl_X2_goHour_30 k o (nI st) n (nI (i + 1)) m48) := by
      rw [fl_X2_goHour_30, h.2.2.2.2.1, e1, if_neg (nI_ge (by omega) (by omega))]
      simp (disch := omega) only [mm_l0, mm_l1, mm_l2, mm_l3, mm_l4, mm_l5, mm_l6, mm_l7, mm_l8, mm_l9, mm_l10, mm_l11, mm_l12, mm_l13, mm_l14, mm_l15, mm_l16, mm_l17, mm_l18, mm_l19, mm_l20, mm_l21, mm_l22, mm_l23, mm_l24, mm_l25, mm_l26, mm_l27, mm_l28, mm_l29, mm_l30, mm_l31, mm_l32, mm_l33, mm_l34, mm_l35, mm_l36, mm_l37, mm_l38, mm_l39, mm_l40, mm_l41, mm_l42, mm_l43, mm_l44, mm_l45, mm_l46, mm_l47, mm_l48, mm_l49, mm_l50, mm_l51, mm_l52, mm_l53, mm_l54, mm_l55, mm_l56, mm_l57, mm_l58, mm_l59, mm_l60, mm_l61, mm_l62, mm_l63, mm_l64, mm_l65, mm_l66, mm_l67, mm_l68, mm_l69, mm_l76, mm_l90, mm_l97, mm_l98, mm_l100, mm_l101, mm_l107, mm_l112, mm_l114, mm_l121, mm_l152, mm_l153, mm_l154, mm_l155, mm_l156, mm_l165, mm_l171, mm_l176, mm_l190, mm_l200, mm_l210, mm_l255, mm_l460, mm_l1000, mm_l9999, mm_l999999, mm_j0, mm_bit, mm_ne, mm_add]
      by_cases q : st / 2 ^ i % 2 = 1
      · rw [if_pos (by omega), if_pos q]
      · rw [if_neg (by omega), if_neg q]
    by_cases q : st / 2 ^ i % 2 = 1
    · rw [unf, if_pos q]
      refine ih n (i + 1) m ?_ (by omega) (by omega) ?_
      · rw [r_hr, if_pos q]; exact h
      · intro s hs; rw [r_sn, if_pos q]; exact hz s hs
    · obtain ⟨m1, a1, a2, a3, a4, a5⟩ := x_pass h okp (p := i) (by omega)
      obtain ⟨b1, b2⟩ := r_said_hr ok st hi'
      rw [unf, if_neg q, a1, mm_bv]
      obtain ⟨m', c1, c2, c3, c4, c5⟩ := ih n (i + 1) m1 (by rw [r_hr, if_neg q]; exact a2) (by omega) (by omega) (fun s hs => by
        rw [a4 s, b1, b2, r_sn, if_neg q, hz s hs, mm_or]
        split <;> rfl)
      exact ⟨m', c1, c2, fun j hj => by rw [c3 j hj, a3 j hj], c4, by rw [c5, a5]⟩
/-- AN HOUR of the system's road -/
theorem x_goHour (h : rd_X μ o ρ) (ok : rk ρ) : ∃ μ', fn_X2_goHour o μ = some μ' ∧ rd_X μ' o (r_hour ρ) ∧ (∀ k, k < o ∨ o + 6 < k → μ' k = μ k) ∧ (∀ s, s < ρ 0 → μ' (o + 6) s = nI (r_sn ρ (r_cm ρ (ρ 1)) (ρ 1) s)) ∧ μ' o 0 = μ o 0 := by
  have h1 := ok.2.1
  have h0 := ok.1
  have hc : r_cm ρ (ρ 1) < 65536 := Nat.lt_of_lt_of_le (r_cm_lt ρ _) (Nat.le_trans (Nat.pow_le_pow_right (by omega) h1) (by decide))
  obtain ⟨m1, a1, a2, a3⟩ := x_goHour_l1 (o := o) ok (nI (r_cm ρ (ρ 1))) (fun m28 => fl_X2_goHour_30 (fun m57 => some (pw_st m57 o 3 ((m57 o 3) + (1 : Int32)))) o (nI (r_cm ρ (ρ 1))) 1000 (nI 0) m28) (ρ 0) 1000 0 μ h (by omega) (by omega) (fun s hs => by omega)
  obtain ⟨m2, b1, b2, b3, b4, b5⟩ := x_goHour_l2 (o := o) ok (r_cm ρ (ρ 1)) hc (fun m57 => some (pw_st m57 o 3 ((m57 o 3) + (1 : Int32)))) (ρ 1) 1000 0 m1 (x_other h (fun j hj => a2 _ (by omega))) (by omega) (by omega) (fun s hs => a3 s hs)
  have e3 := b2.2.2.1
  rw [r_hr_lo ρ _ (by omega)] at e3
  have okh := rk_hr ok (r_cm ρ (ρ 1)) (ρ 1) (Nat.le_refl _)
  refine ⟨_, ?_, x_hour b2 okh (ρ 18 + 1), ?_, ?_, ?_⟩
  · unfold fn_X2_goHour
    rw [x_councils h ok, mm_bi]
    refine a1.trans ?_
    show fl_X2_goHour_30 _ _ _ _ _ _ = _
    rw [b1, e3, mm_l1, mm_add]
  · intro j hj
    rw [ms_row _ _ (by omega), b3 j hj, a2 j (by omega)]
  · intro s hs
    rw [ms_ne _ _ (by omega)]; exact b4 s hs
  · rw [ms_ne _ _ (by omega), b5, a2 o (by omega)]
end RX
