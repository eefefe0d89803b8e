/-! ROAD: its pulpits -/
def kd (a : Int32) : Nat := if a = 98 then 1 else if a = 107 then 2 else if a = 121 then 3 else if a = 100 then 4 else if a = 101 then 5 else 0
theorem kd_le (a : Int32) : kd a ≤ 5 := by unfold kd; repeat (first | split | omega)
theorem x_kindHere {t : Nat → Nat} {L : Nat} (hL : L ≤ 90) {m : pw_Mem} {x : Nat} (T : TX t L m x) (hx : x ≤ 1000) : fn_X4_kindHere m = some (nI (kd (lI t L x)), m) := by
  unfold fn_X4_kindHere kd
  rw [x_letterHere hL T hx, mm_bi]
  generalize lI t L x = a
  by_cases h1 : a = 98
  · rw [if_pos h1, if_pos h1]; rfl
  rw [if_neg h1, if_neg h1]
  by_cases h2 : a = 100
  · rw [if_pos h2, if_neg (by rw [h2]; decide), if_neg (by rw [h2]; decide), if_pos h2]; rfl
  rw [if_neg h2]
  by_cases h3 : a = 101
  · rw [if_pos h3, if_neg (by rw [h3]; decide), if_neg (by rw [h3]; decide), if_neg h2, if_pos h3]; rfl
  rw [if_neg h3]
  by_cases h4 : a = 107
  · rw [if_pos h4, if_pos h4]; rfl
  rw [if_neg h4, if_neg h4]
  by_cases h5 : a = 121
  · rw [if_pos h5, if_pos h5]; rfl
  rw [if_neg h5, if_neg h5, if_neg h2, if_neg h3]; rfl
theorem m_kindOf (a : Int32) (m : pw_Mem) : fn_X6_kindOf a m = some (nI (kd a), m) := by
  unfold fn_X6_kindOf kd
  by_cases h1 : a = 98
  · rw [if_neg (fun z => z h1), if_pos h1]; rfl
  rw [if_pos h1, if_neg h1]
  by_cases h2 : a = 107
  · rw [if_neg (fun z => z h2), if_pos h2]; rfl
  rw [if_pos h2, if_neg h2]
  by_cases h3 : a = 121
  · rw [if_neg (fun z => z h3), if_pos h3]; rfl
  rw [if_pos h3, if_neg h3]
  by_cases h4 : a = 100
  · rw [if_neg (fun z => z h4), if_pos h4]; rfl
  rw [if_pos h4, if_neg h4]
  by_cases h5 : a = 101
  · rw [if_neg (fun z => z h5), if_pos h5]; rfl
  rw [if_pos h5, if_neg h5]; rfl
def r_np (σ : Rd) (p k a w : Nat) : Rd := upR (upR (upR (upR σ (13 + p) k) (19 + p) a) (24 + p) w) 1 (p + 1)
theorem r_np_o (σ : Rd) (p k a w : Nat) {j : Nat} (h1 : j ≠ 1) (h2 : j ≠ 13 + p) (h3 : j ≠ 19 + p) (h4 : j ≠ 24 + p) : r_np σ p k a w j = σ j := by
  unfold r_np; rw [upR_ne _ _ h1, upR_ne _ _ h4, upR_ne _ _ h3, upR_ne _ _ h2]
theorem r_np_1 (σ : Rd) (p k a w : Nat) : r_np σ p k a w 1 = p + 1 := upR_eq _ _ _
theorem r_np_k (σ : Rd) (p k a w : Nat) : r_np σ p k a w (13 + p) = k := by
  unfold r_np; rw [upR_ne _ _ (by omega), upR_ne _ _ (by omega), upR_ne _ _ (by omega), upR_eq]
theorem r_np_a (σ : Rd) (p k a w : Nat) : r_np σ p k a w (19 + p) = a := by
  unfold r_np; rw [upR_ne _ _ (by omega), upR_ne _ _ (by omega), upR_eq]
theorem r_np_w (σ : Rd) (p k a w : Nat) : r_np σ p k a w (24 + p) = w := by
  unfold r_np; rw [upR_ne _ _ (by omega), upR_eq]
theorem dk_pul {σ : Rd} (h : dk σ) {p k a w : Nat} (hp : p < 5) (e : σ 1 = p) (hk : 1 ≤ k ∧ k ≤ 5) (ha : a < σ 0) (hw : w < σ 2) : dk (r_np σ p k a w) := by
  obtain ⟨a0, a1, a2, a3, a4, a5, a6, a7⟩ := h
  have z : ∀ j, j ≠ 1 → j ≠ 13 + p → j ≠ 19 + p → j ≠ 24 + p → r_np σ p k a w j = σ j := fun j => r_np_o σ p k a w
  unfold dk
  rw [r_np_1, z 0 (by omega) (by omega) (by omega) (by omega), z 2 (by omega) (by omega) (by omega) (by omega), z 3 (by omega) (by omega) (by omega) (by omega), z 18 (by omega) (by omega) (by omega) (by omega)]
  refine ⟨a0, by omega, a2, a3, a4, fun i hi => by rw [z _ (by omega) (by omega) (by omega) (by omega)]; exact a5 i hi, fun i hi => by rw [z _ (by omega) (by omega) (by omega) (by omega)]; exact a6 i hi, fun q hq => ?_⟩
  by_cases c : q = p
  · subst c; rw [r_np_k, r_np_a, r_np_w]; exact ⟨hk, ha, hw⟩
  · rw [z _ (by omega) (by omega) (by omega) (by omega), z _ (by omega) (by omega) (by omega) (by omega), z _ (by omega) (by omega) (by omega) (by omega)]; exact a7 q (by omega)
section RO
variable {t : Nat → Nat} {L : Nat} {m0 n0 : pw_Mem}
theorem r_puls (hL : L ≤ 90) (ht : ∀ i, i < L → t i < 256) : ∀ (d p n nM : Nat) (mx mm : pw_Mem) (x : Nat) (σ : Rd), p + d = 5 → d < n → d + 1 < nM → σ 1 = p → 3 ≤ σ 0 → dk σ → x ≤ L → TX t L mx x → DX mx σ → TM t L mm x → rd_M mm 152 σ → GX m0 mx → GM n0 mm → mm 54 4 = n0 54 4 → RR t L m0 n0 (fun m => some (nI 1, m)) (fun _ σ => dk σ ∧ 3 ≤ σ 0) (fl_X4_readPulpits_2 (fun m76 => fn_jn0 (fun m106 => fn_bz (1 : Int32) (some ((1 : Int32), m106))) (fun k106 => (if (m76 2 2) = (m76 2 1) then k106 m76 else fn_bi (fn_X4_kindHere m76) (fun r89 m89 => fn_jn1 (fun x100_0 m100 => fn_bi (fn_X4_blame x100_0 m100) (fun r100 m100 => (if r100 = 0 then fn_bz (0 : Int32) (some ((0 : Int32), m100)) else k106 m100))) (fun k100 => (if r89 ≠ 0 then k100 (3 : Int32) m89 else k100 (1 : Int32) m89)))))) 11 n (nI p) mx) (fl_X6_takesAll_39 (fun m57 => fn_bz (0 : Int32) (some ((0 : Int32), m57))) nM mm) := by
  intro d
  induction d with
  | zero =>
    intro p n nM mx mm x σ hs hn hnM e1 e3 k hx T D T' R G G' E
    obtain ⟨n, rfl⟩ : ∃ q, n = q + 1 := ⟨n - 1, by omega⟩
    obtain ⟨nM, rfl⟩ : ∃ q, nM = q + 1 := ⟨nM - 1, by omega⟩
    have p5 : p = 5 := by omega
    subst p5
    have r1 : mm 55 153 = nI 5 := by have := R 1 (by omega); rw [e1] at this; exact this
    rw [fl_X4_readPulpits_2, fl_X6_takesAll_39, if_pos (show (5 : Int32) ≤ nI 5 by decide), mm_j0, T.1, T.2.2.1, T'.1, T'.2.2]
    by_cases q : x = L
    · subst q
      rw [if_pos rfl, if_pos (nI_le (by omega) (by omega))]
      exact RR.ok (S := fun m => some (nI 1, m)) G G' T T' D R E ⟨k, e3⟩
    · rw [if_neg (by rw [mm_eq (by omega) (by omega)]; exact q), if_neg (nI_ge (by omega) (by omega)), x_kindHere hL T (by omega), mm_bi, mm_j1]
      have kl := kd_le (lI t L x)
      have fin : ∀ f : Nat, f ≠ 0 → fn_X6_takesPulpit mm = fn_bi (fn_X6_fails (nI f) (nI x) mm) (fun r42 m42 => fn_bz r42 (some (r42, m42))) → RR t L m0 n0 (fun m => some (nI 1, m)) (fun _ σ => dk σ ∧ 3 ≤ σ 0) (fn_bi (fn_X4_blame (nI f) mx) (fun r100 m100 => (if r100 = 0 then fn_bz (0 : Int32) (some ((0 : Int32), m100)) else fn_bz (1 : Int32) (some ((1 : Int32), m100))))) (fn_bi (fn_X6_takesPulpit mm) (fun r51 m51 => (if r51 ≠ 0 then fl_X6_takesAll_39 (fun m57 => fn_bz (0 : Int32) (some ((0 : Int32), m57))) nM m51 else fn_bz (0 : Int32) (some ((0 : Int32), m51))))) := by
        intro f hf ts
        obtain ⟨n1, b1, b2, b3, b4⟩ := m_fails (m := mm) (f := f) (x := x)
        rw [ts, b1, mm_bi, mm_bz0, mm_bi, if_neg (fun z => z n00)]
        exact RR.no (m := pw_st mx 2 3 (nI f)) (n := n1) (f := f) (y := x) (G.st _ (by omega)) (G'.to b4) hf (by rw [ms_nj _ _ (by omega)]; exact T.2.2.1) (ms_eq _ _ _ _) b2 b3
      by_cases qk : kd (lI t L x) = 0
      · rw [qk, if_neg (fun z => z n00)]
        refine fin 1 (by omega) ?_
        unfold fn_X6_takesPulpit
        rw [mm_l153, mm_ix (by omega) (by omega), m_here hL T' (by omega), mm_bi, m_kindOf, mm_bi, qk, if_neg (fun z => z n00), T'.2.2]
        rfl
      · have qn : nI (kd (lI t L x)) ≠ 0 := nI_ne0 (by omega) (by omega)
        rw [if_pos qn]
        refine fin 3 (by omega) ?_
        unfold fn_X6_takesPulpit
        rw [mm_l153, mm_ix (by omega) (by omega), m_here hL T' (by omega), mm_bi, m_kindOf, mm_bi, if_pos qn, r1, if_neg (fun z => z rfl), T'.2.2]
        rfl
  | succ d ih =>
    intro p n nM mx mm x σ hs hn hnM e1 e3 k hx T D T' R G G' E
    obtain ⟨n, rfl⟩ : ∃ q, n = q + 1 := ⟨n - 1, by omega⟩
    obtain ⟨nM, rfl⟩ : ∃ q, nM = q + 1 := ⟨nM - 1, by omega⟩
    have k' := k
    obtain ⟨k0, k1, k2, k3, -⟩ := k
    have r1 : mm 55 153 = nI p := by have := R 1 (by omega); rw [e1] at this; exact this
    have r0 : mm 55 152 = nI (σ 0) := R 0 (by omega)
    have r2 : mm 55 154 = nI (σ 2) := R 2 (by omega)
    rw [fl_X4_readPulpits_2, fl_X6_takesAll_39, if_neg (show ¬ (5 : Int32) ≤ nI p by rw [mm_l5]; exact nI_ge (by omega) (by omega)), T.1, T.2.2.1, T'.1, T'.2.2]
    by_cases q : x = L
    · subst q
      rw [if_neg (fun z => z rfl), if_pos (nI_le (by omega) (by omega))]
      exact RR.ok (S := fun m => some (nI 1, m)) G G' T T' D R E ⟨k', e3⟩
    rw [if_pos (by rw [mm_ne (by omega) (by omega)]; exact q), if_neg (nI_ge (by omega) (by omega)), x_kindHere hL T (by omega), mm_bi]
    have kl := kd_le (lI t L x)
    unfold fn_X6_takesPulpit
    rw [mm_l153, mm_ix (by omega) (by omega), m_here hL T' (by omega), mm_bi, m_kindOf, mm_bi]
    by_cases qk : kd (lI t L x) = 0
    · obtain ⟨n1, b1, b2, b3, b4⟩ := m_fails (m := mm) (f := 1) (x := x)
      rw [qk, if_neg (fun z => z n00), if_neg (fun z => z n00), T'.2.2, show (1 : Int32) = nI 1 from rfl, b1, mm_bi, mm_bz0, mm_bi, if_neg (fun z => z n00)]
      exact RR.no (m := pw_st mx 2 3 (nI 1)) (n := n1) (f := 1) (y := x) (G.st _ (by omega)) (G'.to b4) (by omega) (by rw [ms_nj _ _ (by omega)]; exact T.2.2.1) (ms_eq _ _ _ _) b2 b3
    generalize kd (lI t L x) = K at kl qk ⊢
    have qn : nI K ≠ 0 := nI_ne0 (by omega) (by omega)
    have d4 : mx 11 4 = nI (σ 0) := D.2.2.2.2.1
    have d1 : mx 11 1 = nI (σ 2) := D.2.1
    unfold fn_X4_readPulpit
    rw [if_pos qn, if_pos qn, r1, if_pos (show nI p ≠ (5 : Int32) by rw [mm_l5, mm_ne (by omega) (by omega)]; omega), T.2.2.1, T'.2.2, show nI x + (1 : Int32) = nI (x + 1) from mm_add x 1, mm_l165, mm_add, mm_ix (by omega) (by omega), mm_l152, mm_ix (by omega) (by omega), ms_row _ _ (show 11 ≠ 2 by omega), d4]
    rw [show (pw_st (pw_st mm 54 10 (nI (x + 1))) 55 (165 + p) (nI K)) 55 152 = nI (σ 0) by rw [ms_nj _ _ (by omega), ms_row _ _ (by omega)]; exact r0, show nI (σ 0) - (1 : Int32) = nI (σ 0 - 1) from mm_sub (a := σ 0) (b := 1) (by omega), bi_as, bi_as]
    have RK : rd_M (pw_st (pw_st mm 54 10 (nI (x + 1))) 55 (165 + p) (nI K)) 152 (upR σ (13 + p) K) := by
      have := m_up (rd_M_same R (μ' := pw_st mm 54 10 (nI (x + 1))) (fun i _ => by rw [ms_row _ _ (by omega)])) (13 + p) K
      rw [show 152 + (13 + p) = 165 + p by omega] at this
      exact this
    refine st_num (lo := 0) hL ht (T.go (x + 1)) ((T'.go (x + 1)).st _) (by omega) (by omega) (by omega) (G.st _ (by omega)) ((G'.st54 _ (by omega)).st _ (by omega)) (by rw [ms_row _ _ (by omega), ms_nj _ _ (by omega)]; exact E) (fun m hm => ⟨pw_st m 15 p (nI 0), ?_, fun k _ hk => ms_row _ _ (by omega), ms_row _ _ (by omega)⟩) (fun m => rfl) (fun m2 n2 a e2 h2 w1 w2 A2 B2 v2 G2 G2' E2 a2 b2 => ?_)
    · rw [mm_ix (by omega) (by omega), show (pw_st m (11 + 4) p (nI 0)) 2 3 = m 2 3 by rw [ms_row _ _ (by omega)], if_pos hm]; rfl
    rw [mm_ix (by omega) (by omega), show (pw_st m2 (11 + 4) p (nI a)) 2 3 = nI 0 by rw [ms_row _ _ (by omega)]; exact A2.2.2.2, if_neg (fun z => z n00), if_pos n10, mm_l171, mm_add, mm_ix (by omega) (by omega), v2, bi_as, bi_as]
    have RA : rd_M (pw_st n2 55 (171 + p) (nI a)) 152 (upR (upR σ (13 + p) K) (19 + p) a) := by
      have := m_up (rd_M_same RK (μ' := n2) (fun i _ => by rw [b2 55 (by omega)])) (19 + p) a
      rw [show 152 + (19 + p) = 171 + p by omega] at this
      exact this
    refine st_sign (c := 44) hL ht (A2.st _ (by omega) (by omega)) (B2.st _) h2 (by omega) (G2.st _ (by omega)) (G2'.st _ (by omega)) (by rw [ms_row _ _ (by omega)]; exact E2) (fun m => rfl) (fun m => rfl) (fun m3 n3 h3 A3 B3 G3 G3' E3 a3 b3 => ?_)
    have x1 : m3 11 1 = nI (σ 2) := by rw [a3 11 (by omega), ms_row _ _ (by omega), a2 11 (by omega), ms_row _ _ (by omega)]; exact d1
    have y1 : n3 55 154 = nI (σ 2) := by rw [b3 55 (by omega)]; have := RA 2 (by omega); rw [upR_ne _ _ (by omega), upR_ne _ _ (by omega)] at this; exact this
    rw [if_pos n10, if_neg n10, mm_l154, mm_ix (by omega) (by omega), x1, y1, show nI (σ 2) - (1 : Int32) = nI (σ 2 - 1) from mm_sub (a := σ 2) (b := 1) (by omega), bi_as, bi_as]
    refine st_num (lo := 0) hL ht A3 B3 h3 (by omega) (by omega) G3 G3' E3 (fun m hm => ⟨pw_st m 16 p (nI 0), ?_, fun k _ hk => ms_row _ _ (by omega), ms_row _ _ (by omega)⟩) (fun m => rfl) (fun m4 n4 w e4 h4 u1 u2 A4 B4 v4 G4 G4' E4 a4 b4 => ?_)
    · rw [mm_ix (by omega) (by omega), show (pw_st m (11 + 5) p (nI 0)) 2 3 = m 2 3 by rw [ms_row _ _ (by omega)], if_pos hm]; rfl
    have RW : rd_M (pw_st n4 55 (176 + p) (nI w)) 152 (upR (upR (upR σ (13 + p) K) (19 + p) a) (24 + p) w) := by
      have := m_up (rd_M_same RA (μ' := n4) (fun i _ => by rw [b4 55 (by omega), b3 55 (by omega)])) (24 + p) w
      rw [show 152 + (24 + p) = 176 + p by omega] at this
      exact this
    have y4 : (pw_st n4 55 (176 + p) (nI w)) 55 153 = nI p := by
      have := RW 1 (by omega)
      rw [upR_ne _ _ (by omega), upR_ne _ _ (by omega), upR_ne _ _ (by omega), e1] at this
      exact this
    rw [mm_ix (by omega) (by omega), show (pw_st m4 (11 + 5) p (nI w)) 2 3 = nI 0 by rw [ms_row _ _ (by omega)]; exact A4.2.2.2, if_neg (fun z => z n00), if_pos n10, mm_l176, mm_add, mm_ix (by omega) (by omega), mm_ix (by omega) (by omega), mm_ix (by omega) (by omega), v4, y4, show nI p + (1 : Int32) = nI (p + 1) from mm_add p 1, bi_as, bi_as]
    have RP : rd_M (pw_st (pw_st n4 55 (176 + p) (nI w)) 55 153 (nI (p + 1))) 152 (r_np σ p K a w) := m_up RW 1 (p + 1)
    refine st_sign (c := 59) hL ht (A4.st _ (by omega) (by omega)) ((B4.st _).st _) h4 (by omega) (G4.st _ (by omega)) ((G4'.st _ (by omega)).st _ (by omega)) (by rw [ms_row _ _ (by omega), ms_row _ _ (by omega)]; exact E4) (fun m => rfl) (fun m => rfl) (fun m5 n5 h5 A5 B5 G5 G5' E5 a5 b5 => ?_)
    have go := ih (p + 1) n nM (pw_st (pw_st m5 14 p (nI K)) 11 5 (nI (p + 1))) n5 (e4 + 1) (r_np σ p K a w) (by omega) (by omega) (by omega) (r_np_1 _ _ _ _ _) (by rw [r_np_o _ _ _ _ _ (by omega) (by omega) (by omega) (by omega)]; exact e3) (dk_pul k' (by omega) e1 (by omega) (by omega) (by omega)) h5 ((A5.st _ (by omega) (by omega)).st _ (by omega) (by omega)) ?_ B5 (rd_M_same RP (fun i _ => by rw [b5 55 (by omega)])) ((G5.st _ (by omega)).st _ (by omega)) G5' E5
    · rw [if_neg n10]
      show RR t L m0 n0 _ _ (fn_ix (nI p) 5 (fun j62 => fl_X4_readPulpits_2 _ 11 n (nI (p + 1)) (pw_st (pw_st m5 (11 + 3) j62 (nI K)) 11 5 (nI (p + 1))))) (fl_X6_takesAll_39 _ nM n5)
      rw [mm_ix (by omega) (by omega)]
      exact go
    · obtain ⟨c0, c1, c2, c3, c4, c5, c6, c7, c8⟩ := D
      have z : ∀ j, j ≠ 1 → j ≠ 13 + p → j ≠ 19 + p → j ≠ 24 + p → r_np σ p K a w j = σ j := fun j => r_np_o σ p K a w
      have e11 : ∀ j, j ≠ 5 → (pw_st (pw_st m5 14 p (nI K)) 11 5 (nI (p + 1))) 11 j = mx 11 j := fun j hj => by simp (disch := omega) only [a5, a4, a3, a2, ms_row, ms_nj]
      have e1k : ∀ j, j = 12 ∨ j = 13 → (pw_st (pw_st m5 14 p (nI K)) 11 5 (nI (p + 1))) j = mx j := fun j hj => by simp (disch := omega) only [a5, a4, a3, a2, ms_row]
      unfold DX
      rw [e11 0 (by omega), e11 1 (by omega), e11 2 (by omega), e11 3 (by omega), e11 4 (by omega), e1k 12 (by omega), e1k 13 (by omega), ms_eq, r_np_1, z 0 (by omega) (by omega) (by omega) (by omega), z 2 (by omega) (by omega) (by omega) (by omega), z 3 (by omega) (by omega) (by omega) (by omega)]
      refine ⟨c0, c1, c2, c3, c4, rfl, fun i hi => by rw [z _ (by omega) (by omega) (by omega) (by omega)]; exact c6 i hi, c7, fun i hi => ?_⟩
      by_cases qi : i = p
      · subst qi
        rw [r_np_k, r_np_a, r_np_w]
        refine ⟨?_, ?_, ?_⟩
        · rw [ms_row _ _ (by omega), ms_eq]
        · simp (disch := omega) only [a5, a4, a3, ms_row, ms_eq]
        · simp (disch := omega) only [a5, ms_row, ms_eq]
      · rw [z _ (by omega) (by omega) (by omega) (by omega), z _ (by omega) (by omega) (by omega) (by omega), z _ (by omega) (by omega) (by omega) (by omega)]
        simp (disch := omega) only [a5, a4, a3, a2, ms_row, ms_nj]
        exact c8 i (by omega)
end RO
