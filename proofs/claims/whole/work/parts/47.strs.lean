/-! ROAD: its stretches -/
theorem bi_as {a : Option (Int32 × pw_Mem)} {f g : Int32 → pw_Mem → Option (Int32 × pw_Mem)} : fn_bi (fn_bi a f) g = fn_bi a (fun r m => fn_bi (f r m) g) := by
  rcases a with _ | ⟨r, m⟩ <;> rfl
theorem dk_str {σ : Rd} (h : dk σ) {s g : Nat} (hs : s < 9) (e : σ 0 = s) (e1 : σ 1 = 0) (hg : g ≤ 2) : dk (upR (upR σ (4 + s) g) 0 (s + 1)) := by
  obtain ⟨a0, a1, a2, a3, a4, a5, a6, a7⟩ := h
  have z : ∀ j, j ≠ 0 → j ≠ 4 + s → upR (upR σ (4 + s) g) 0 (s + 1) j = σ j := fun j h1 h2 => by rw [upR_ne _ _ h1, upR_ne _ _ h2]
  unfold dk
  rw [upR_eq, z 1 (by omega) (by omega), z 2 (by omega) (by omega), z 3 (by omega) (by omega), z 18 (by omega) (by omega)]
  refine ⟨by omega, a1, a2, a3, a4, fun i hi => by rw [z _ (by omega) (by omega)]; exact a5 i hi, fun i hi => ?_, fun p hp => by omega⟩
  by_cases q : i = s
  · subst q; rw [upR_ne _ _ (by omega), upR_eq]; exact hg
  · rw [z _ (by omega) (by omega)]; exact a6 i (by omega)
section RO
variable {t : Nat → Nat} {L : Nat} {m0 n0 : pw_Mem}
theorem r_strs (hL : L ≤ 90) (ht : ∀ i, i < L → t i < 256) : ∀ (d s n nM : Nat) (mx mm : pw_Mem) (x : Nat) (σ : Rd), s + d = 9 → d < n → d + 1 < nM → σ 0 = s → σ 1 = 0 → dk σ → x ≤ L → TX t L mx x → DX mx σ → TM t L mm x → rd_M mm 152 σ → GX m0 mx → GM n0 mm → mm 54 4 = n0 54 4 → RR t L m0 n0 (fun m => fl_X6_takesAll_39 (fun m57 => fn_bz (0 : Int32) (some ((0 : Int32), m57))) 1000 m) (fun x σ => dk σ ∧ x ≤ L ∧ 3 ≤ σ 0 ∧ σ 1 = 0) (fl_X4_readStretches_2 (fun m78 => fn_bi (fn_X4_letterHere m78) (fun r79 m79 => fn_jn0 (fun m95 => fn_bz (1 : Int32) (some ((1 : Int32), m95))) (fun k95 => (if r79 ≠ (114 : Int32) then k95 m79 else fn_bi (fn_X4_blame (3 : Int32) m79) (fun r89 m89 => (if r89 = 0 then fn_bz (0 : Int32) (some ((0 : Int32), m89)) else k95 m89)))))) 11 n (nI s) mx) (fl_X6_takesAll_9 (fun m57 => fn_bz (0 : Int32) (some ((0 : Int32), m57))) nM mm) := by
  intro d
  induction d with
  | zero =>
    intro s n nM mx mm x σ hs hn hnM e0 e1 k hx T D T' R G G' E
    obtain ⟨n, rfl⟩ : ∃ q, n = q + 1 := ⟨n - 1, by omega⟩
    obtain ⟨nM, rfl⟩ : ∃ q, nM = q + 1 := ⟨nM - 1, by omega⟩
    have s9 : s = 9 := by omega
    subst s9
    have r0 : mm 55 152 = nI 9 := by have := R 0 (by omega); rw [e0] at this; exact this
    rw [fl_X4_readStretches_2, fl_X6_takesAll_9, mm_l9, if_pos (nI_le (by omega) (by omega)), x_letterHere hL T (by omega), mm_bi, mm_l152, mm_ix (by omega) (by omega), r0, mm_j0, mm_j0, mm_l3, if_neg (nI_nlt (by omega) (by omega)), m_here hL T' (by omega), mm_bi, mm_l114]
    by_cases q : x < L ∧ t x = 114
    · have q' : lI t L x = nI 114 := (lI_eq ht (by omega)).mpr q
      rw [if_neg (fun z => z q'), if_neg (fun z => z q')]
      obtain ⟨n1, b1, b2, b3, b4⟩ := m_fails (m := mm) (f := 3) (x := x)
      have ts : fn_X6_takesStretch mm = some (nI 0, n1) := by
        unfold fn_X6_takesStretch
        rw [m_here hL T' (by omega), mm_bi, mm_l114, if_pos q', mm_l152, mm_ix (by omega) (by omega), r0, mm_l9, if_neg (fun z => z rfl), T'.2.2, mm_l3, b1, mm_bi, mm_bz0]
      dsimp only
      rw [ts, mm_bi, if_neg (fun z => z n00)]
      exact RR.no (m := pw_st mx 2 3 (nI 3)) (n := n1) (f := 3) (y := x) (G.st _ (by omega)) (G'.to b4) (by omega) (by rw [ms_nj _ _ (by omega)]; exact T.2.2.1) (ms_eq _ _ _ _) b2 b3
    · have q' : ¬ lI t L x = nI 114 := fun z => q ((lI_eq ht (by omega)).mp z)
      rw [if_pos q', if_pos q']
      exact RR.ok (S := fun m => fl_X6_takesAll_39 (fun m57 => fn_bz (0 : Int32) (some ((0 : Int32), m57))) 1000 m) G G' T T' D R E ⟨k, hx, by omega, e1⟩
  | succ d ih =>
    intro s n nM mx mm x σ hs hn hnM e0 e1 k hx T D T' R G G' E
    obtain ⟨n, rfl⟩ : ∃ q, n = q + 1 := ⟨n - 1, by omega⟩
    obtain ⟨nM, rfl⟩ : ∃ q, nM = q + 1 := ⟨nM - 1, by omega⟩
    have r0 : mm 55 152 = nI s := by have := R 0 (by omega); rw [e0] at this; exact this
    have d4 := D.2.2.2.2.1
    -- a stretch
    have body : RR t L m0 n0 (fun m => fl_X6_takesAll_39 (fun m57 => fn_bz (0 : Int32) (some ((0 : Int32), m57))) 1000 m) (fun x σ => dk σ ∧ x ≤ L ∧ 3 ≤ σ 0 ∧ σ 1 = 0) (fn_bi (fn_X4_takeSign (114 : Int32) mx) (fun r27 m27 => (if r27 ≠ 0 then fn_bi (fn_X4_takeNumber (0 : Int32) (2 : Int32) m27) (fun r43 m43 => fn_ix (nI s) 9 (fun j46 => (if ((pw_st m43 (11 + 1) j46 r43) 2 3) ≠ 0 then fn_bz (0 : Int32) (some ((0 : Int32), (pw_st m43 (11 + 1) j46 r43))) else fn_bi (fn_X4_takeSign (59 : Int32) (pw_st m43 (11 + 1) j46 r43)) (fun r57 m57 => (if r57 ≠ 0 then fl_X4_readStretches_2 (fun m78 => fn_bi (fn_X4_letterHere m78) (fun r79 m79 => fn_jn0 (fun m95 => fn_bz (1 : Int32) (some ((1 : Int32), m95))) (fun k95 => (if r79 ≠ (114 : Int32) then k95 m79 else fn_bi (fn_X4_blame (3 : Int32) m79) (fun r89 m89 => (if r89 = 0 then fn_bz (0 : Int32) (some ((0 : Int32), m89)) else k95 m89)))))) 11 n (nI s + 1) (pw_st m57 11 4 (nI s + (1 : Int32))) else fn_bz (0 : Int32) (some ((0 : Int32), m57))))))) else fn_bz (0 : Int32) (some ((0 : Int32), m27))))) (fn_bi (fn_X6_takesStretch mm) (fun r31 m31 => (if r31 ≠ 0 then fl_X6_takesAll_9 (fun m57 => fn_bz (0 : Int32) (some ((0 : Int32), m57))) nM m31 else fn_bz (0 : Int32) (some ((0 : Int32), m31))))) := by
      unfold fn_X6_takesStretch
      rw [m_here hL T' (by omega), mm_bi]
      by_cases q : x < L ∧ t x = 114
      · have q' : lI t L x = (114 : Int32) := (lI_eq ht (c := 114) (by omega)).mpr q
        obtain ⟨m1, a1, A1, a3⟩ := x_sign_ok hL ht T hx (by omega) q
        rw [if_pos q', mm_l152, mm_ix (by omega) (by omega), r0, if_pos (show nI s ≠ (9 : Int32) by rw [mm_l9, mm_ne (by omega) (by omega)]; omega), mm_l114, a1, mm_bi, if_pos n10, bi_as, T'.2.2, show nI x + (1 : Int32) = nI (x + 1) from mm_add x 1]
        have B1 := T'.go (x + 1)
        refine st_num (lo := 0) (hi := 2) hL ht A1 B1 (by omega) (by omega) (by omega) (G.to a3) (G'.st54 _ (by omega)) (by rw [ms_nj _ _ (by omega)]; exact E) (fun m hm => ⟨pw_st m 12 s (nI 0), ?_, fun k _ hk => ms_row _ _ (by omega), ms_row _ _ (by omega)⟩) (fun m => rfl) (fun m2 n2 g e2 h2 w1 w2 A2 B2 v2 G2 G2' E2 a2 b2 => ?_)
        · rw [mm_ix (by omega) (by omega), show (pw_st m (11 + 1) s (nI 0)) 2 3 = m 2 3 by rw [ms_row _ _ (by omega)], if_pos hm]; rfl
        have r2 : n2 55 152 = nI s := by rw [b2 55 (by omega), ms_row _ _ (by omega)]; exact r0
        rw [mm_ix (by omega) (by omega), show (pw_st m2 (11 + 1) s (nI g)) 2 3 = nI 0 by rw [ms_row _ _ (by omega)]; exact A2.2.2.2, if_neg (fun z => z n00), if_pos n10, mm_ix (by omega) (by omega), r2, mm_l156, mm_add, mm_ix (by omega) (by omega), mm_ix (by omega) (by omega), mm_ix (by omega) (by omega), v2, ms_nj _ _ (by omega), r2, bi_as]
        rw [show nI s + (1 : Int32) = nI (s + 1) from mm_add s 1]
        have R2 : rd_M (pw_st (pw_st n2 55 (156 + s) (nI g)) 55 152 (nI (s + 1))) 152 (upR (upR σ (4 + s) g) 0 (s + 1)) := by
          have := m_up (rd_M_same R (μ' := n2) (fun i _ => by rw [b2 55 (by omega), ms_row _ _ (by omega)])) (4 + s) g
          rw [show 152 + (4 + s) = 156 + s by omega] at this
          exact m_up this 0 (s + 1)
        refine st_sign (c := 59) hL ht (A2.st _ (by omega) (by omega)) ((B2.st _).st _) h2 (by omega) (G2.st _ (by omega)) ((G2'.st _ (by omega)).st _ (by omega)) (by rw [ms_row _ _ (by omega), ms_row _ _ (by omega)]; exact E2) (fun m => rfl) (fun m => rfl) (fun m3 n3 h3 A3 B3 G3 G3' E3 a4 b3 => ?_)
        rw [if_pos n10]
        have go := ih (s + 1) n nM (pw_st m3 11 4 (nI (s + 1))) n3 (e2 + 1) (upR (upR σ (4 + s) g) 0 (s + 1)) (by omega) (by omega) (by omega) (upR_eq _ _ _) (by rw [upR_ne _ _ (by omega), upR_ne _ _ (by omega)]; exact e1) (dk_str k (by omega) e0 e1 w2) h3 (A3.st _ (by omega) (by omega)) ?_ B3 (rd_M_same R2 (fun i _ => by rw [b3 55 (by omega)])) (G3.st _ (by omega)) G3' E3
        · exact go
        · obtain ⟨c0, c1, c2, c3, c4, c5, c6, c7, c8⟩ := D
          have z : ∀ j, j ≠ 0 → j ≠ 4 + s → upR (upR σ (4 + s) g) 0 (s + 1) j = σ j := fun j h1 h2 => by rw [upR_ne _ _ h1, upR_ne _ _ h2]
          have e11 : ∀ j, j ≠ 4 → (pw_st m3 11 4 (nI (s + 1))) 11 j = mx 11 j := fun j hj => by simp (disch := omega) only [a4, a2, a3, ms_row, ms_nj]
          have e1k : ∀ j, j ≠ 2 → j ≠ 11 → j ≠ 12 → (pw_st m3 11 4 (nI (s + 1))) j = mx j := fun j h1 h2 h3 => by simp (disch := omega) only [a4, a2, a3, ms_row]
          unfold DX
          rw [e11 0 (by omega), e11 1 (by omega), e11 2 (by omega), e11 3 (by omega), e11 5 (by omega), e1k 13 (by omega) (by omega) (by omega), ms_eq, upR_eq, z 1 (by omega) (by omega), z 2 (by omega) (by omega), z 3 (by omega) (by omega)]
          refine ⟨c0, c1, c2, c3, rfl, c5, fun i hi => ?_, c7, fun p hp => by omega⟩
          rw [ms_row _ _ (by omega), a4 12 (by omega)]
          by_cases qi : i = s
          · subst qi; rw [ms_eq, upR_ne _ _ (by omega), upR_eq]
          · rw [ms_nj _ _ (by omega), z _ (by omega) (by omega), a2 12 (by omega), a3 12 (by omega)]; exact c6 i (by omega)
      · have q' : ¬ lI t L x = (114 : Int32) := fun z => q ((lI_eq ht (c := 114) (by omega)).mp z)
        obtain ⟨m1, a1, a2, a3, a4⟩ := x_sign_no hL ht T hx (by omega) q
        obtain ⟨n1, b1, b2, b3, b4⟩ := m_fails (m := mm) (f := 1) (x := x)
        rw [if_neg q', T'.2.2, mm_l114, a1, mm_bi, if_neg (fun z => z n00), show (1 : Int32) = nI 1 from rfl, b1, mm_bi, mm_bz0, mm_bi, if_neg (fun z => z n00)]
        exact RR.no (G.to a4) (G'.to b4) (by omega) a2 a3 b2 b3
    rw [fl_X4_readStretches_2, fl_X6_takesAll_9, if_neg (show ¬ (9 : Int32) ≤ nI s by rw [mm_l9]; exact nI_ge (by omega) (by omega)), mm_l152, mm_ix (by omega) (by omega), r0, mm_j0, mm_j0]
    by_cases s3 : s < 3
    · rw [if_pos (show nI s < (3 : Int32) by rw [mm_l3]; exact nI_lt (by omega) (by omega)), if_pos (show nI s < (3 : Int32) by rw [mm_l3]; exact nI_lt (by omega) (by omega))]
      exact body
    · rw [if_neg (show ¬ nI s < (3 : Int32) by rw [mm_l3]; exact nI_nlt (by omega) (by omega)), if_neg (show ¬ nI s < (3 : Int32) by rw [mm_l3]; exact nI_nlt (by omega) (by omega)), x_letterHere hL T (by omega), mm_bi, m_here hL T' (by omega), mm_bi]
      by_cases q : lI t L x = (114 : Int32)
      · rw [if_pos q, if_neg (fun z => z q)]
        exact body
      · rw [if_neg q, if_pos q]
        exact RR.ok (S := fun m => fl_X6_takesAll_39 (fun m57 => fn_bz (0 : Int32) (some ((0 : Int32), m57))) 1000 m) G G' T T' D R E ⟨k, hx, by omega, e1⟩
end RO
