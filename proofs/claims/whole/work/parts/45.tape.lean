/-! THE TAPE: letters, signs, numbers -/
def fg (t : Nat → Nat) (L i : Nat) : Prop := i < L ∧ 48 ≤ t i ∧ t i ≤ 57
def fgn (t : Nat → Nat) (L i : Nat) : Nat := if i < L ∧ 48 ≤ t i ∧ t i ≤ 57 then 1 else 0
theorem fgn_c (t : Nat → Nat) (L i : Nat) : (fgn t L i = 1 ∧ fg t L i) ∨ (fgn t L i = 0 ∧ ¬ fg t L i) := by
  unfold fgn fg
  by_cases h : i < L ∧ 48 ≤ t i ∧ t i ≤ 57
  · rw [if_pos h]; exact Or.inl ⟨rfl, h⟩
  · rw [if_neg h]; exact Or.inr ⟨rfl, h⟩
def lI (t : Nat → Nat) (L i : Nat) : Int32 := if i < L then nI (t i) else (-1 : Int32)
theorem nI_ne_m1 {a : Nat} (h : a < 2147483648) : ¬ ((-1 : Int32) = nI a) := by
  intro z
  have := congrArg Int32.toInt z
  rw [nI_toInt (by omega), show (-1 : Int32).toInt = -1 by decide] at this
  omega
theorem lI_eq {t : Nat → Nat} {L i c : Nat} (ht : ∀ i, i < L → t i < 256) (hc : c < 256) : (lI t L i = nI c) ↔ (i < L ∧ t i = c) := by
  unfold lI
  by_cases h : i < L
  · have := ht i h
    rw [if_pos h, mm_eq (by omega) (by omega)]
    exact ⟨fun z => ⟨h, z⟩, fun z => z.2⟩
  · rw [if_neg h]
    exact ⟨fun z => absurd z (nI_ne_m1 (by omega)), fun z => absurd z.1 h⟩
def TX (t : Nat → Nat) (L : Nat) (m : pw_Mem) (x : Nat) : Prop := m 2 1 = nI L ∧ (∀ i, i < L → m 3 i = nI (t i)) ∧ m 2 2 = nI x ∧ m 2 3 = nI 0
def TM (t : Nat → Nat) (L : Nat) (m : pw_Mem) (x : Nat) : Prop := m 54 3 = nI L ∧ (∀ i, i < L → m 56 i = nI (t i)) ∧ m 54 10 = nI x
def HM (m m' : pw_Mem) : Prop := (∀ k, k ≠ 54 → m' k = m k) ∧ ∀ j, j ≠ 4 → j ≠ 10 → j ≠ 11 → j ≠ 12 → m' 54 j = m 54 j
theorem HM.rfl' (m : pw_Mem) : HM m m := ⟨fun _ _ => rfl, fun _ _ _ _ _ => rfl⟩
theorem HM.trans {a b c : pw_Mem} (h : HM a b) (g : HM b c) : HM a c := ⟨fun k hk => by rw [g.1 k hk, h.1 k hk], fun j h1 h2 h3 h4 => by rw [g.2 j h1 h2 h3 h4, h.2 j h1 h2 h3 h4]⟩
theorem HM_st (m : pw_Mem) {j : Nat} (x : Int32) (h : j = 4 ∨ j = 10 ∨ j = 11 ∨ j = 12) : HM m (pw_st m 54 j x) := ⟨fun k hk => ms_row _ _ hk, fun i h1 h2 h3 h4 => ms_nj _ _ (by omega)⟩
theorem HM.tm {t : Nat → Nat} {L x x' : Nat} {m m' : pw_Mem} (h : HM m m') (T : TM t L m x) (e : m' 54 10 = nI x') : TM t L m' x' := ⟨by rw [h.2 3 (by omega) (by omega) (by omega) (by omega)]; exact T.1, fun i hi => by rw [h.1 56 (by omega)]; exact T.2.1 i hi, e⟩
def tn_v (t : Nat → Nat) (L x : Nat) : Nat := if fgn t L (x + 1) = 1 then (t x - 48) * 10 + (t (x + 1) - 48) else t x - 48
def tn_e (t : Nat → Nat) (L x : Nat) : Nat := if fgn t L (x + 1) = 1 then x + 2 else x + 1
def tn_f (t : Nat → Nat) (L x lo hi : Nat) : Nat := if fgn t L x = 0 ∨ (fgn t L (x + 1) = 1 ∧ fgn t L (x + 2) = 1) then 1 else if tn_v t L x < lo ∨ hi < tn_v t L x then 2 else 0
section TP
variable {t : Nat → Nat} {L : Nat}
theorem tn_ok {x lo hi : Nat} (h : tn_f t L x lo hi = 0) : tn_e t L x ≤ L ∧ x < tn_e t L x ∧ lo ≤ tn_v t L x ∧ tn_v t L x ≤ hi := by
  unfold tn_f at h
  by_cases q : fgn t L x = 0 ∨ (fgn t L (x + 1) = 1 ∧ fgn t L (x + 2) = 1)
  · rw [if_pos q] at h; omega
  · rw [if_neg q] at h
    by_cases q2 : tn_v t L x < lo ∨ hi < tn_v t L x
    · rw [if_pos q2] at h; omega
    · rcases fgn_c t L x with ⟨a, b⟩ | ⟨a, b⟩
      · rcases fgn_c t L (x + 1) with ⟨c, d⟩ | ⟨c, d⟩
        · unfold tn_e; rw [if_pos c]; have := d.1; omega
        · unfold tn_e; rw [if_neg (by omega)]; have := b.1; omega
      · omega
theorem tn_f_lt (x lo hi : Nat) : tn_f t L x lo hi < 3 := by unfold tn_f; repeat (first | split | omega)
theorem x_letterAt (hL : L ≤ 90) {m : pw_Mem} {x : Nat} (T : TX t L m x) {i : Nat} (hi : i ≤ 1000) : fn_X4_letterAt (nI i) m = some (lI t L i, m) := by
  unfold fn_X4_letterAt lI
  rw [if_neg (nI_pos (by omega)), T.1]
  by_cases h : i < L
  · rw [if_neg (nI_ge (by omega) (by omega)), mm_ix (by omega) (by omega), T.2.1 i h, if_pos h]
  · rw [if_pos (nI_le (by omega) (by omega)), if_neg h]
theorem x_letterHere (hL : L ≤ 90) {m : pw_Mem} {x : Nat} (T : TX t L m x) (hx : x ≤ 1000) : fn_X4_letterHere m = some (lI t L x, m) := by
  unfold fn_X4_letterHere
  rw [T.2.2.1, x_letterAt hL T hx, mm_bi]
theorem x_isFigure (hL : L ≤ 90) (ht : ∀ i, i < L → t i < 256) {m : pw_Mem} {x : Nat} (T : TX t L m x) {i : Nat} (hi : i ≤ 1000) : fn_X4_isFigure (nI i) m = some (nI (fgn t L i), m) := by
  unfold fn_X4_isFigure
  rw [x_letterAt hL T hi, mm_bi]
  unfold lI fgn
  by_cases h : i < L
  · have := ht i h
    rw [if_pos h]
    by_cases q1 : t i < 48
    · rw [mm_l48, if_pos (nI_lt (by omega) (by omega)), if_neg (by omega)]; rfl
    · rw [mm_l48, if_neg (nI_nlt (by omega) (by omega))]
      by_cases q2 : 57 < t i
      · rw [mm_l57, if_pos (nI_lt (by omega) (by omega)), if_neg (by omega)]; rfl
      · rw [mm_l57, if_neg (nI_nlt (by omega) (by omega)), if_pos (by omega)]; rfl
  · rw [if_neg h, if_pos (by decide), if_neg (by omega)]; rfl
theorem x_sign_ok (hL : L ≤ 90) (ht : ∀ i, i < L → t i < 256) {m : pw_Mem} {x c : Nat} (T : TX t L m x) (hx : x ≤ L) (hc : c < 256) (q : x < L ∧ t x = c) : ∃ m1, fn_X4_takeSign (nI c) m = some (nI 1, m1) ∧ TX t L m1 (x + 1) ∧ ∀ k, k ≠ 2 → m1 k = m k := by
  refine ⟨pw_st m 2 2 (nI (x + 1)), ?_, ⟨?_, ?_, ms_eq _ _ _ _, ?_⟩, fun k hk => ms_row _ _ hk⟩
  · unfold fn_X4_takeSign
    rw [x_letterHere hL T (by omega), mm_bi, if_pos ((lI_eq ht hc).mpr q), T.2.2.1, mm_l1, mm_add, mm_bz1]
  · rw [ms_nj _ _ (by omega)]; exact T.1
  · intro i hi; rw [ms_row _ _ (by omega)]; exact T.2.1 i hi
  · rw [ms_nj _ _ (by omega)]; exact T.2.2.2
theorem x_sign_no (hL : L ≤ 90) (ht : ∀ i, i < L → t i < 256) {m : pw_Mem} {x c : Nat} (T : TX t L m x) (hx : x ≤ L) (hc : c < 256) (q : ¬ (x < L ∧ t x = c)) : ∃ m1, fn_X4_takeSign (nI c) m = some (nI 0, m1) ∧ m1 2 2 = nI x ∧ m1 2 3 = nI 1 ∧ ∀ k, k ≠ 2 → m1 k = m k := by
  refine ⟨pw_st m 2 3 (nI 1), ?_, ?_, ms_eq _ _ _ _, fun k hk => ms_row _ _ hk⟩
  · unfold fn_X4_takeSign
    rw [x_letterHere hL T (by omega), mm_bi, if_neg (fun z => q ((lI_eq ht hc).mp z))]; rfl
  · rw [ms_nj _ _ (by omega)]; exact T.2.2.1
theorem x_num (hL : L ≤ 90) (ht : ∀ i, i < L → t i < 256) {m : pw_Mem} {x lo hi : Nat} (T : TX t L m x) (hx : x ≤ L) (hlo : lo < 1000) (hhi : hi < 1000) : fn_X4_takeNumber (nI lo) (nI hi) m = if tn_f t L x lo hi = 0 then some (nI (tn_v t L x), pw_st m 2 2 (nI (tn_e t L x))) else some (nI lo, pw_st m 2 3 (nI (tn_f t L x lo hi))) := by
  have F0 := x_isFigure hL ht T (i := x) (by omega)
  have F1 := x_isFigure hL ht T (i := x + 1) (by omega)
  have F2 := x_isFigure hL ht T (i := x + 2) (by omega)
  have bl : ∀ (f : Nat), fn_bi (fn_X4_blame (nI f) m) (fun _ m39 => some (nI lo, m39)) = some (nI lo, pw_st m 2 3 (nI f)) := fun f => rfl
  unfold fn_X4_takeNumber
  rw [T.2.2.1, F0, mm_bi, mm_l1, mm_l2, mm_l48]
  unfold tn_f
  rcases fgn_c t L x with ⟨a0, b0⟩ | ⟨a0, b0⟩
  rotate_left
  · rw [a0, if_pos n00, if_pos (Or.inl rfl), if_neg (by omega)]
    exact bl 1
  rw [a0, if_neg n10, T.2.2.1, mm_add, F1, mm_bi, mm_j0]
  -- behind the looks ahead
  have tx := ht x b0.1
  have go : ¬ (fgn t L (x + 1) = 1 ∧ fgn t L (x + 2) = 1) → (fn_ix (m 2 2) 90 fun j53 => fn_bi (fn_X4_isFigure (m 2 2 + nI 1) m) fun r69 m69 => fn_jn2 (fun x94_0 x94_1 m94 => if x94_0 < nI lo then fn_bi (fn_X4_blame (nI 2) m94) fun _ m106 => some (nI lo, m106) else if x94_0 ≤ nI hi then some (x94_0, pw_st m94 2 2 x94_1) else fn_bi (fn_X4_blame (nI 2) m94) fun _ m106 => some (nI lo, m106)) fun k94 => if r69 = 0 then k94 (m 3 j53 - nI 48) (m 2 2 + nI 1) m69 else fn_ix (m 2 2 + nI 1) 90 fun j85 => k94 ((m 3 j53 - nI 48) * (10 : Int32) + m69 3 j85 - nI 48) (m 2 2 + nI 1 + nI 1) m69) = if tn_v t L x < lo ∨ hi < tn_v t L x then some (nI lo, pw_st m 2 3 (nI 2)) else some (nI (tn_v t L x), pw_st m 2 2 (nI (tn_e t L x))) := by
    intro nb
    have x90 : x < L := b0.1
    have b01 := b0.2.1
    have b02 := b0.2.2
    have fin : ∀ v e : Nat, v < 1000 → (if nI v < nI lo then fn_bi (fn_X4_blame (nI 2) m) (fun _ m106 => some (nI lo, m106)) else if nI v ≤ nI hi then some (nI v, pw_st m 2 2 (nI e)) else fn_bi (fn_X4_blame (nI 2) m) (fun _ m106 => some (nI lo, m106))) = if v < lo ∨ hi < v then some (nI lo, pw_st m 2 3 (nI 2)) else some (nI v, pw_st m 2 2 (nI e)) := by
      intro v e hv
      by_cases q1 : v < lo
      · rw [if_pos (nI_lt (by omega) (by omega)), if_pos (Or.inl q1)]; exact bl 2
      · rw [if_neg (nI_nlt (by omega) (by omega))]
        by_cases q2 : hi < v
        · rw [if_neg (nI_ge (by omega) (by omega)), if_pos (Or.inr q2)]; exact bl 2
        · rw [if_pos (nI_le (by omega) (by omega)), if_neg (by omega)]
    rw [T.2.2.1, mm_add, mm_ix (by omega) (by omega), F1, mm_bi, mm_j2, T.2.1 x b0.1, mm_sub b01]
    unfold tn_v tn_e
    rcases fgn_c t L (x + 1) with ⟨a1, b1⟩ | ⟨a1, b1⟩
    · have x91 : x + 1 < L := b1.1
      have t1 := ht (x + 1) x91
      have b11 := b1.2.1
      rw [a1, if_neg n10, if_pos rfl, mm_ix (by omega) (by omega), T.2.1 (x + 1) x91, mm_l10, mm_mul, mm_add, mm_sub (by omega), mm_add, if_pos rfl, show (t x - 48) * 10 + t (x + 1) - 48 = (t x - 48) * 10 + (t (x + 1) - 48) by omega]
      exact fin _ _ (by omega)
    · rw [a1, if_pos n00, if_neg (show ¬ (0 = 1) by omega), if_neg (show ¬ (0 = 1) by omega)]
      exact fin _ _ (by omega)
  have fi : ∀ (P : Prop) [Decidable P], (if (if P then 2 else 0) = 0 then some (nI (tn_v t L x), pw_st m 2 2 (nI (tn_e t L x))) else some (nI lo, pw_st m 2 3 (nI (if P then 2 else 0)))) = if P then some (nI lo, pw_st m 2 3 (nI 2)) else some (nI (tn_v t L x), pw_st m 2 2 (nI (tn_e t L x))) := by
    intro P hP
    by_cases h : P
    · rw [if_pos h, if_pos h, if_neg (by omega)]
    · rw [if_neg h, if_neg h, if_pos rfl]
  rcases fgn_c t L (x + 1) with ⟨a1, b1⟩ | ⟨a1, b1⟩
  · rw [a1, if_neg n10, T.2.2.1, mm_add, F2, mm_bi]
    rcases fgn_c t L (x + 2) with ⟨a2, b2⟩ | ⟨a2, b2⟩
    · rw [a2, if_neg n10, if_pos (Or.inr ⟨rfl, rfl⟩), if_neg (by omega)]
      exact bl 1
    · rw [a2, if_pos n00, if_neg (show ¬ (1 = 0 ∨ 1 = 1 ∧ 0 = 1) by omega), fi]
      have := go (by omega)
      exact this
  · rw [a1, if_pos n00, if_neg (show ¬ (1 = 0 ∨ 0 = 1 ∧ fgn t L (x + 2) = 1) by omega), fi]
    have := go (by omega)
    exact this
theorem x_num_ok (hL : L ≤ 90) (ht : ∀ i, i < L → t i < 256) {m : pw_Mem} {x lo hi : Nat} (T : TX t L m x) (hx : x ≤ L) (hlo : lo < 1000) (hhi : hi < 1000) (q : tn_f t L x lo hi = 0) : ∃ m1, fn_X4_takeNumber (nI lo) (nI hi) m = some (nI (tn_v t L x), m1) ∧ TX t L m1 (tn_e t L x) ∧ ∀ k, k ≠ 2 → m1 k = m k := by
  refine ⟨pw_st m 2 2 (nI (tn_e t L x)), by rw [x_num hL ht T hx hlo hhi, if_pos q], ⟨?_, ?_, ms_eq _ _ _ _, ?_⟩, fun k hk => ms_row _ _ hk⟩
  · rw [ms_nj _ _ (by omega)]; exact T.1
  · intro i hi; rw [ms_row _ _ (by omega)]; exact T.2.1 i hi
  · rw [ms_nj _ _ (by omega)]; exact T.2.2.2
theorem x_num_no (hL : L ≤ 90) (ht : ∀ i, i < L → t i < 256) {m : pw_Mem} {x lo hi : Nat} (T : TX t L m x) (hx : x ≤ L) (hlo : lo < 1000) (hhi : hi < 1000) (q : ¬ tn_f t L x lo hi = 0) : ∃ m1, fn_X4_takeNumber (nI lo) (nI hi) m = some (nI lo, m1) ∧ m1 2 2 = nI x ∧ m1 2 3 = nI (tn_f t L x lo hi) ∧ ∀ k, k ≠ 2 → m1 k = m k := by
  refine ⟨pw_st m 2 3 (nI (tn_f t L x lo hi)), by rw [x_num hL ht T hx hlo hhi, if_neg q], ?_, ms_eq _ _ _ _, fun k hk => ms_row _ _ hk⟩
  rw [ms_nj _ _ (by omega)]; exact T.2.2.1
/-! the reference's tape -/
theorem m_here (hL : L ≤ 90) {m : pw_Mem} {x : Nat} (T : TM t L m x) (hx : x ≤ 1000) : fn_X6_here m = some (lI t L x, m) := by
  unfold fn_X6_here lI
  rw [T.1, T.2.2]
  by_cases h : x < L
  · rw [if_neg (nI_ge (by omega) (by omega)), mm_ix (by omega) (by omega), T.2.1 x h, if_pos h]
  · rw [if_pos (nI_le (by omega) (by omega)), if_neg h]
theorem m_fails {m : pw_Mem} {f x : Nat} : ∃ m1, fn_X6_fails (nI f) (nI x) m = some (nI 0, m1) ∧ m1 54 4 = nI f ∧ m1 54 11 = nI x ∧ HM m m1 := ⟨_, rfl, by rw [ms_nj _ _ (by omega), ms_eq], ms_eq _ _ _ _, (HM_st m _ (by omega)).trans (HM_st _ _ (by omega))⟩
theorem m_sign_ok (hL : L ≤ 90) (ht : ∀ i, i < L → t i < 256) {m : pw_Mem} {x c : Nat} (T : TM t L m x) (hx : x ≤ L) (hc : c < 256) (q : x < L ∧ t x = c) : ∃ m1, fn_X6_takes (nI c) m = some (nI 1, m1) ∧ TM t L m1 (x + 1) ∧ m1 54 4 = m 54 4 ∧ HM m m1 := by
  have H := HM_st m (j := 10) (nI (x + 1)) (by omega)
  refine ⟨pw_st m 54 10 (nI (x + 1)), ?_, H.tm T (ms_eq _ _ _ _), ms_nj _ _ (by omega), H⟩
  unfold fn_X6_takes
  rw [m_here hL T (by omega), mm_bi, if_pos ((lI_eq ht hc).mpr q), T.2.2, mm_l1, mm_add, mm_bz1]
theorem m_sign_no (hL : L ≤ 90) (ht : ∀ i, i < L → t i < 256) {m : pw_Mem} {x c : Nat} (T : TM t L m x) (hx : x ≤ L) (hc : c < 256) (q : ¬ (x < L ∧ t x = c)) : ∃ m1, fn_X6_takes (nI c) m = some (nI 0, m1) ∧ m1 54 4 = nI 1 ∧ m1 54 11 = nI x ∧ HM m m1 := by
  obtain ⟨m1, a, b, c1, d⟩ := m_fails (m := m) (f := 1) (x := x)
  refine ⟨m1, ?_, b, c1, d⟩
  unfold fn_X6_takes
  rw [m_here hL T (by omega), mm_bi, if_neg (fun z => q ((lI_eq ht hc).mp z)), T.2.2, mm_l1, a, mm_bi, mm_bz0]
/-- the number that was read from x on, up to y -/
def nv (t : Nat → Nat) (x y : Nat) : Nat := if y ≤ x then 0 else if y = x + 1 then t x - 48 else (t x - 48) * 10 + (t (x + 1) - 48)
theorem m_num_l (hL : L ≤ 90) (ht : ∀ i, i < L → t i < 256) {x : Nat} (hx : x ≤ L) (w1 w2 : Int32) (k : pw_Mem → Option (Int32 × pw_Mem)) : ∀ (d n y : Nat) (m : pw_Mem), x ≤ y → y + d = L → d < n → TM t L m y → m 54 12 = nI (nv t x y) → (∀ i, x ≤ i → i < y → fg t L i) → ∃ z m', fl_X6_takesNumber_10 k w1 w2 (nI x) n m = k m' ∧ y ≤ z ∧ z ≤ L ∧ TM t L m' z ∧ m' 54 12 = nI (nv t x z) ∧ (∀ i, x ≤ i → i < z → fg t L i) ∧ ¬ fg t L z ∧ m' 54 4 = m 54 4 ∧ HM m m' := by
  intro d
  have inF : ∀ (y : Nat) (m : pw_Mem), fn_X6_in (lI t L y).toInt64 (48 : Int64) (57 : Int64) m = some (nI (fgn t L y), m) := by
    intro y m
    rw [show (48 : Int64) = (nI 48).toInt64 from rfl, show (57 : Int64) = (nI 57).toInt64 from rfl, m_in_nat _ (by omega) (by omega)]
    unfold bw lI fgn
    by_cases h : y < L
    · have := ht y h
      rw [if_pos h, nI_toInt (by omega)]
      by_cases q : 48 ≤ t y ∧ t y ≤ 57
      · rw [if_pos (by omega), if_pos ⟨h, q⟩]
      · rw [if_neg (by omega), if_neg (by omega)]
    · rw [if_neg h, if_neg (by decide), if_neg (by omega)]
  induction d with
  | zero =>
    intro n y m hy hd hn T hv hf
    obtain ⟨n, rfl⟩ : ∃ q, n = q + 1 := ⟨n - 1, by omega⟩
    have nf : ¬ fg t L y := fun z => by have := z.1; omega
    refine ⟨y, m, ?_, Nat.le_refl _, by omega, T, hv, hf, nf, rfl, HM.rfl' m⟩
    rw [fl_X6_takesNumber_10, m_here hL T (by omega), mm_bi, inF, mm_bi]
    rcases fgn_c t L y with ⟨a, b⟩ | ⟨a, b⟩
    · exact absurd b nf
    · rw [a, if_pos n00]
  | succ d ih =>
    intro n y m hy hd hn T hv hf
    obtain ⟨n, rfl⟩ : ∃ q, n = q + 1 := ⟨n - 1, by omega⟩
    rw [fl_X6_takesNumber_10, m_here hL T (by omega), mm_bi, inF, mm_bi]
    rcases fgn_c t L y with ⟨a, b⟩ | ⟨a, b⟩
    · rw [a, if_neg n10, mm_j1]
      have hf' : ∀ i, x ≤ i → i < y + 1 → fg t L i := fun i h1 h2 => by
        by_cases q : i = y
        · rw [q]; exact b
        · exact hf i h1 (by omega)
      have st : ∀ v : Nat, v = nv t x (y + 1) → ∃ z m', fl_X6_takesNumber_10 k w1 w2 (nI x) n (pw_st (pw_st m 54 12 (nI v)) 54 10 ((pw_st m 54 12 (nI v)) 54 10 + (1 : Int32))) = k m' ∧ y ≤ z ∧ z ≤ L ∧ TM t L m' z ∧ m' 54 12 = nI (nv t x z) ∧ (∀ i, x ≤ i → i < z → fg t L i) ∧ ¬ fg t L z ∧ m' 54 4 = m 54 4 ∧ HM m m' := by
        intro v hv2
        have H : HM m (pw_st (pw_st m 54 12 (nI v)) 54 10 (nI (y + 1))) := (HM_st m _ (by omega)).trans (HM_st _ _ (by omega))
        obtain ⟨z, m', c1, c2, c3, c4, c5, c6, c7, c8, c9⟩ := ih n (y + 1) (pw_st (pw_st m 54 12 (nI v)) 54 10 (nI (y + 1))) (by omega) (by omega) (by omega) (H.tm T (ms_eq _ _ _ _)) (by rw [ms_nj _ _ (by omega), ms_eq, hv2]) hf'
        refine ⟨z, m', ?_, by omega, c3, c4, c5, c6, c7, ?_, H.trans c9⟩
        · rw [ms_nj _ _ (by omega), T.2.2, mm_l1, mm_add]; exact c1
        · rw [c8, ms_nj _ _ (by omega), ms_nj _ _ (by omega)]
      rw [T.2.2, mm_sub hy]
      by_cases q : y - x < 2
      · rw [mm_l2, if_neg (nI_ge (by omega) (by omega)), m_here hL T (by omega), mm_bi, hv]
        have b1 := b.1
        have b2 := b.2.1
        have := ht y b1
        have e : (10 : Int32) * nI (nv t x y) + lI t L y - (48 : Int32) = nI (nv t x (y + 1)) := by
          unfold lI
          rw [if_pos b1, mm_l10, mm_mul, mm_add, mm_l48, mm_sub (by omega)]
          congr 1
          unfold nv
          by_cases q0 : y = x
          · subst q0; rw [if_pos (by omega), if_neg (by omega), if_pos rfl]; omega
          · have q1 : y = x + 1 := by omega
            subst q1
            have g0 := (hf x (by omega) (by omega)).2.1
            rw [if_neg (by omega), if_pos rfl, if_neg (by omega), if_neg (by omega)]; omega
        rw [e]
        exact st _ rfl
      · rw [mm_l2, if_pos (nI_le (by omega) (by omega)), hv]
        refine st _ ?_
        unfold nv
        rw [if_neg (by omega), if_neg (by omega), if_neg (by omega), if_neg (by omega)]
    · refine ⟨y, m, ?_, Nat.le_refl _, by omega, T, hv, hf, b, rfl, HM.rfl' m⟩
      rw [a, if_pos n00]
theorem tn_of {x z lo hi : Nat} (hx : x ≤ z) (hf : ∀ i, x ≤ i → i < z → fg t L i) (hz : ¬ fg t L z) : (tn_f t L x lo hi = if z - x < 1 ∨ 2 < z - x then 1 else if nv t x z < lo ∨ hi < nv t x z then 2 else 0) ∧ (1 ≤ z - x → z - x ≤ 2 → tn_v t L x = nv t x z ∧ tn_e t L x = z) := by
  have F1 : ∀ i, fg t L i → fgn t L i = 1 := fun i h => by
    rcases fgn_c t L i with ⟨a, b⟩ | ⟨a, b⟩
    · exact a
    · exact absurd h b
  have F0 : ∀ i, ¬ fg t L i → fgn t L i = 0 := fun i h => by
    rcases fgn_c t L i with ⟨a, b⟩ | ⟨a, b⟩
    · exact absurd b h
    · exact a
  unfold tn_f tn_v tn_e
  by_cases q0 : z = x
  · subst q0
    rw [F0 z hz, if_pos (Or.inl rfl), if_pos (by omega)]
    exact ⟨rfl, fun h => by omega⟩
  · have a0 := F1 x (hf x (by omega) (by omega))
    by_cases q1 : z = x + 1
    · subst q1
      rw [a0, F0 (x + 1) hz, if_neg (show ¬ (1 = 0 ∨ 0 = 1 ∧ fgn t L (x + 2) = 1) by omega), if_neg (show ¬ (0 = 1) by omega), if_neg (show ¬ (0 = 1) by omega), if_neg (show ¬ (x + 1 - x < 1 ∨ 2 < x + 1 - x) by omega)]
      have e : nv t x (x + 1) = t x - 48 := by unfold nv; rw [if_neg (by omega), if_pos rfl]
      rw [e]
      exact ⟨rfl, fun _ _ => ⟨rfl, rfl⟩⟩
    · have a1 := F1 (x + 1) (hf (x + 1) (by omega) (by omega))
      have e : nv t x z = (t x - 48) * 10 + (t (x + 1) - 48) := by unfold nv; rw [if_neg (by omega), if_neg (by omega)]
      rw [a0, a1, e]
      by_cases q2 : z = x + 2
      · subst q2
        rw [F0 (x + 2) hz, if_neg (show ¬ (1 = 0 ∨ 1 = 1 ∧ 0 = 1) by omega), if_pos rfl, if_pos rfl, if_neg (show ¬ (x + 2 - x < 1 ∨ 2 < x + 2 - x) by omega)]
        exact ⟨rfl, fun _ _ => ⟨rfl, rfl⟩⟩
      · have a2 := F1 (x + 2) (hf (x + 2) (by omega) (by omega))
        rw [a2, if_pos (Or.inr ⟨rfl, rfl⟩), if_pos (by omega)]
        exact ⟨rfl, fun _ h => by omega⟩
theorem hf_lt {t : Nat → Nat} {L i : Nat} (ht : ∀ i, i < L → t i < 256) (h : fg t L i) : t i < 256 := ht i h.1
theorem m_num (hL : L ≤ 90) (ht : ∀ i, i < L → t i < 256) {m : pw_Mem} {x lo hi : Nat} (T : TM t L m x) (hx : x ≤ L) (hlo : lo < 1000) (hhi : hi < 1000) : (tn_f t L x lo hi = 0 → ∃ m1, fn_X6_takesNumber (nI lo) (nI hi) m = some (nI 1, m1) ∧ TM t L m1 (tn_e t L x) ∧ m1 54 12 = nI (tn_v t L x) ∧ m1 54 4 = m 54 4 ∧ HM m m1) ∧ (¬ tn_f t L x lo hi = 0 → ∃ m1, fn_X6_takesNumber (nI lo) (nI hi) m = some (nI 0, m1) ∧ m1 54 4 = nI (tn_f t L x lo hi) ∧ m1 54 11 = nI x ∧ HM m m1) := by
  have H0 : HM m (pw_st m 54 12 (nI 0)) := HM_st m _ (by omega)
  obtain ⟨z, m', c1, c2, c3, c4, c5, c6, c7, c8, c9⟩ := m_num_l hL ht hx (nI lo) (nI hi) (fun m76 => fn_bi (fn_X6_in (((m76 54 10) - (nI x))).toInt64 (1 : Int64) (2 : Int64) m76) (fun r87 m87 => (if r87 ≠ 0 then fn_bi (fn_X6_in ((m87 54 12)).toInt64 (nI lo).toInt64 (nI hi).toInt64 m87) (fun r109 m109 => (if r109 ≠ 0 then fn_bz (1 : Int32) (some ((1 : Int32), m109)) else fn_bi (fn_X6_fails (2 : Int32) (nI x) m109) (fun r118 m118 => fn_bz r118 (some (r118, m118))))) else fn_bi (fn_X6_fails (1 : Int32) (nI x) m87) (fun r96 m96 => fn_bz r96 (some (r96, m96)))))) (L - x) 1000 x (pw_st m 54 12 (nI 0)) (Nat.le_refl _) (by omega) (by omega) (H0.tm T (by rw [ms_nj _ _ (by omega)]; exact T.2.2)) (by rw [ms_eq]; unfold nv; rw [if_pos (Nat.le_refl _)]) (fun i h1 h2 => by omega)
  have N := tn_of (lo := lo) (hi := hi) c2 c6 c7
  have Hm : HM m m' := H0.trans c9
  have e4 : m' 54 4 = m 54 4 := by rw [c8, ms_nj _ _ (by omega)]
  have hnv : z - x ≤ 2 → nv t x z < 20000 := fun _ => by
    unfold nv
    by_cases p0 : z ≤ x
    · rw [if_pos p0]; omega
    · have g0 := hf_lt ht (c6 x (by omega) (by omega))
      rw [if_neg p0]
      by_cases p1 : z = x + 1
      · rw [if_pos p1]; omega
      · have g1 := hf_lt ht (c6 (x + 1) (by omega) (by omega))
        rw [if_neg p1]; omega
  have key : fn_X6_takesNumber (nI lo) (nI hi) m = (fun m76 => fn_bi (fn_X6_in (((m76 54 10) - (nI x))).toInt64 (1 : Int64) (2 : Int64) m76) (fun r87 m87 => (if r87 ≠ 0 then fn_bi (fn_X6_in ((m87 54 12)).toInt64 (nI lo).toInt64 (nI hi).toInt64 m87) (fun r109 m109 => (if r109 ≠ 0 then fn_bz (1 : Int32) (some ((1 : Int32), m109)) else fn_bi (fn_X6_fails (2 : Int32) (nI x) m109) (fun r118 m118 => fn_bz r118 (some (r118, m118))))) else fn_bi (fn_X6_fails (1 : Int32) (nI x) m87) (fun r96 m96 => fn_bz r96 (some (r96, m96)))))) m' := by
    refine Eq.trans ?_ c1
    unfold fn_X6_takesNumber
    rw [T.2.2]
    rfl
  rw [key]
  dsimp only
  rw [c4.2.2, mm_sub c2, show (1 : Int64) = (nI 1).toInt64 from rfl, show (2 : Int64) = (nI 2).toInt64 from rfl, m_in_nat _ (by omega) (by omega), mm_bi, N.1]
  by_cases q : z - x < 1 ∨ 2 < z - x
  · rw [if_pos q, show bw (nI (z - x)) ((1 : Nat) : Int) ((2 : Nat) : Int) = 0 by unfold bw; rw [nI_toInt (by omega), if_neg (by omega)], if_neg (fun y => y n00)]
    refine ⟨fun y => by omega, fun _ => ?_⟩
    obtain ⟨m1, a, b, c, d⟩ := m_fails (m := m') (f := 1) (x := x)
    exact ⟨m1, by rw [mm_l1, a, mm_bi, mm_bz0], b, c, Hm.trans d⟩
  · have N2 := N.2 (by omega) (by omega)
    have hv := hnv (by omega)
    rw [if_neg q, show bw (nI (z - x)) ((1 : Nat) : Int) ((2 : Nat) : Int) = 1 by unfold bw; rw [nI_toInt (by omega), if_pos (by omega)], if_pos n10, c5, m_in_nat _ (by omega) (by omega), mm_bi]
    by_cases q2 : nv t x z < lo ∨ hi < nv t x z
    · rw [if_pos q2, show bw (nI (nv t x z)) lo hi = 0 by unfold bw; rw [nI_toInt (by omega), if_neg (by omega)], if_neg (fun y => y n00)]
      refine ⟨fun y => by omega, fun _ => ?_⟩
      obtain ⟨m1, a, b, c, d⟩ := m_fails (m := m') (f := 2) (x := x)
      exact ⟨m1, by rw [mm_l2, a, mm_bi, mm_bz0], b, c, Hm.trans d⟩
    · rw [if_neg q2, show bw (nI (nv t x z)) lo hi = 1 by unfold bw; rw [nI_toInt (by omega), if_pos (by omega)], if_pos n10, N2.1, N2.2]
      exact ⟨fun _ => ⟨m', rfl, c4, c5, e4, Hm⟩, fun y => absurd rfl y⟩
end TP
