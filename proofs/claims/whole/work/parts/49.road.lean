/-! ROAD -/
theorem x_begin0_l {o : Nat} (k : pw_Mem → Option pw_Mem) : ∀ (d n i : Nat) (m : pw_Mem), i + d = 9 → d < n → ∃ m', fl_X2_begin_22 k o n (nI i) m = k m' ∧ (∀ j, j ≠ o + 2 → m' j = m j) ∧ (∀ s, s < i → m' (o + 2) s = m (o + 2) s) ∧ ∀ s, i ≤ s → s < 9 → m' (o + 2) s = nI 0 := by
  intro d
  induction d with
  | zero =>
    intro n i m hi hn
    obtain ⟨n, rfl⟩ : ∃ q, n = q + 1 := ⟨n - 1, by omega⟩
    refine ⟨m, ?_, fun _ _ => rfl, fun _ _ => rfl, fun s h1 h2 => by omega⟩
    rw [fl_X2_begin_22, mm_l9, if_pos (nI_le (by omega) (by omega))]
  | succ d ih =>
    intro n i m hi hn
    obtain ⟨n, rfl⟩ : ∃ q, n = q + 1 := ⟨n - 1, by omega⟩
    obtain ⟨m', a, b, c, e⟩ := ih n (i + 1) (pw_st m (o + 2) i (nI 0)) (by omega) (by omega)
    refine ⟨m', ?_, fun j h1 => by rw [b j h1, ms_row _ _ h1], fun s hs => by rw [c s (by omega), ms_nj _ _ (by omega)], fun s h1 h2 => ?_⟩
    · rw [fl_X2_begin_22, mm_l9, if_neg (nI_ge (by omega) (by omega)), mm_ix (by omega) (by omega), show nI i + 1 = nI (i + 1) from mm_add i 1]
      exact a
    · by_cases q : s = i
      · subst q; rw [c s (by omega), ms_eq]
      · exact e s (by omega) h2
theorem x_begin0 (μ : pw_Mem) : ∃ m1, fn_X2_begin 11 μ = some m1 ∧ m1 11 0 = nI 1 ∧ m1 11 3 = nI 0 ∧ m1 11 4 = nI 0 ∧ m1 11 5 = nI 0 ∧ (∀ s, s < 9 → m1 13 s = nI 0) ∧ ∀ k, k ≠ 11 → k ≠ 13 → m1 k = μ k := by
  obtain ⟨m', a, b, c, e⟩ := x_begin0_l (o := 11) (fun m41 => some m41) 9 1000 0 (pw_st (pw_st (pw_st (pw_st μ 11 0 (1 : Int32)) 11 3 (0 : Int32)) 11 4 (0 : Int32)) 11 5 (0 : Int32)) (by omega) (by omega)
  refine ⟨m', ?_, ?_, ?_, ?_, ?_, fun s hs => e s (by omega) hs, fun k h1 h2 => ?_⟩
  · unfold fn_X2_begin; rw [show ∀ k : Option pw_Mem, fn_bz (1 : Int32) k = k from fun k => mm_bz1]; exact a
  · rw [b 11 (by omega)]; simp (disch := omega) only [ms_nj, ms_eq]; rfl
  · rw [b 11 (by omega)]; simp (disch := omega) only [ms_nj, ms_eq]; rfl
  · rw [b 11 (by omega)]; simp (disch := omega) only [ms_nj, ms_eq]; rfl
  · rw [b 11 (by omega)]; simp (disch := omega) only [ms_nj, ms_eq]; rfl
  · rw [b k (by omega)]; simp (disch := omega) only [ms_row]
theorem m_road_l (k : pw_Mem → Option (Int32 × pw_Mem)) : ∀ (d n i : Nat) (m : pw_Mem), i + d = 38 → d < n → ∃ m', fl_X6_road_2 k n (nI i) m = k m' ∧ (∀ j, j ≠ 55 → m' j = m j) ∧ (∀ s, s < 152 + i ∨ 190 ≤ s → m' 55 s = m 55 s) ∧ ∀ s, i ≤ s → s < 38 → m' 55 (152 + s) = nI 0 := by
  intro d
  induction d with
  | zero =>
    intro n i m hi hn
    obtain ⟨n, rfl⟩ : ∃ q, n = q + 1 := ⟨n - 1, by omega⟩
    refine ⟨m, ?_, fun _ _ => rfl, fun _ _ => rfl, fun s h1 h2 => by omega⟩
    rw [fl_X6_road_2, mm_l38, if_pos (nI_le (by omega) (by omega))]
  | succ d ih =>
    intro n i m hi hn
    obtain ⟨n, rfl⟩ : ∃ q, n = q + 1 := ⟨n - 1, by omega⟩
    obtain ⟨m', a, b, c, e⟩ := ih n (i + 1) (pw_st m 55 (152 + i) (nI 0)) (by omega) (by omega)
    refine ⟨m', ?_, fun j h1 => by rw [b j h1, ms_row _ _ h1], fun s hs => by rw [c s (by omega), ms_nj _ _ (by omega)], fun s h1 h2 => ?_⟩
    · rw [fl_X6_road_2, mm_l38, if_neg (nI_ge (by omega) (by omega)), mm_l152, mm_add, mm_ix (by omega) (by omega), show nI i + 1 = nI (i + 1) from mm_add i 1]
      exact a
    · by_cases q : s = i
      · subst q; rw [c _ (by omega), ms_eq]
      · exact e s (by omega) h2
section RO
variable {t : Nat → Nat} {L : Nat} {m0 n0 : pw_Mem} {S S' : pw_Mem → Option (Int32 × pw_Mem)} {Q Q' : Nat → Rd → Prop} {rx rm : Option (Int32 × pw_Mem)} {KX KM : Int32 → pw_Mem → Option (Int32 × pw_Mem)}
theorem RR.bindX (h : RR t L m0 n0 S Q rx rm) (x0 : ∀ m, KX (nI 0) m = some (nI 0, m)) (go : ∀ m n x σ, Q x σ → GX m0 m → GM n0 n → TX t L m x → TM t L n x → DX m σ → rd_M n 152 σ → n 54 4 = n0 54 4 → RR t L m0 n0 S' Q' (KX (nI 1) m) (S n)) : RR t L m0 n0 S' Q' (fn_bi rx KX) rm := by
  obtain ⟨f, y, x, σ, ⟨m, G, hX⟩, ⟨n, G', hM⟩, q⟩ := h
  rcases hX with ⟨f0, rfl, T, D⟩ | ⟨f0, rfl, a, b⟩
  · rcases hM with ⟨_, rfl, T', R, E⟩ | ⟨g, _⟩
    · rw [mm_bi]; exact go m n x σ (q f0) G G' T T' D R E
    · exact absurd f0 g
  · rcases hM with ⟨g, _⟩ | ⟨_, rfl, c, d⟩
    · exact absurd g f0
    · rw [mm_bi, x0]; exact RR.no G G' f0 a b c d
theorem RR.bind (h : RR t L m0 n0 (fun m => some (nI 1, m)) Q rx rm) (x0 : ∀ m, KX (nI 0) m = some (nI 0, m)) (z0 : ∀ m, KM (nI 0) m = some (nI 0, m)) (go : ∀ m n x σ, Q x σ → GX m0 m → GM n0 n → TX t L m x → TM t L n x → DX m σ → rd_M n 152 σ → n 54 4 = n0 54 4 → RR t L m0 n0 S' Q' (KX (nI 1) m) (KM (nI 1) n)) : RR t L m0 n0 S' Q' (fn_bi rx KX) (fn_bi rm KM) := by
  obtain ⟨f, y, x, σ, ⟨m, G, hX⟩, ⟨n, G', hM⟩, q⟩ := h
  rcases hX with ⟨f0, rfl, T, D⟩ | ⟨f0, rfl, a, b⟩
  · rcases hM with ⟨_, rfl, T', R, E⟩ | ⟨g, _⟩
    · rw [mm_bi, mm_bi]; exact go m n x σ (q f0) G G' T T' D R E
    · exact absurd f0 g
  · rcases hM with ⟨g, _⟩ | ⟨_, rfl, c, d⟩
    · exact absurd g f0
    · rw [mm_bi, mm_bi, x0, z0]; exact RR.no G G' f0 a b c d
theorem r_all (hL : L ≤ 90) (ht : ∀ i, i < L → t i < 256) {μ mm : pw_Mem} (h1 : μ 2 1 = nI L) (h3 : ∀ i, i < L → μ 3 i = nI (t i)) (T' : TM t L mm 0) (Z : rd_M mm 152 (fun _ => 0)) (G' : GM n0 mm) (E : mm 54 4 = n0 54 4) : RR t L μ n0 (fun m => some (nI 1, m)) (fun _ σ => dk σ ∧ 3 ≤ σ 0) (fn_X4_readInto 11 μ) (fn_X6_takesAll mm) := by
  obtain ⟨m1, a1, a2, a3, a4, a5, a6, a7⟩ := x_begin0 μ
  unfold fn_X4_readInto fn_X6_takesAll
  rw [a1, mm_bv]
  have T : TX t L (pw_st (pw_st m1 2 2 (0 : Int32)) 2 3 (0 : Int32)) 0 := ⟨by rw [ms_nj _ _ (by omega), ms_nj _ _ (by omega), a7 2 (by omega) (by omega)]; exact h1, fun i hi => by rw [ms_row _ _ (by omega), ms_row _ _ (by omega), a7 3 (by omega) (by omega)]; exact h3 i hi, by rw [ms_nj _ _ (by omega), ms_eq]; rfl, by rw [ms_eq]; rfl⟩
  have G : GX μ (pw_st (pw_st m1 2 2 (0 : Int32)) 2 3 (0 : Int32)) := fun k q1 q2 => by rw [ms_row _ _ q1, ms_row _ _ q1, a7 k (by omega) (by omega)]
  have e : ∀ j, j ≠ 2 → (pw_st (pw_st m1 2 2 (0 : Int32)) 2 3 (0 : Int32)) j = m1 j := fun j hj => by rw [ms_row _ _ hj, ms_row _ _ hj]
  refine RR.bind (r_law hL ht T T' G G' E (by rw [e 11 (by omega)]; exact a2) (by rw [e 11 (by omega)]; exact a3) (by rw [e 11 (by omega)]; exact a4) (by rw [e 11 (by omega)]; exact a5) (by rw [e 13 (by omega)]; exact a6) Z) (fun m => rfl) (fun m => rfl) (fun m n x σ q G1 G1' T1 T1' D1 R1 E1 => ?_)
  rw [if_neg n10, if_pos n10]
  refine RR.bindX (r_strs hL ht 9 0 1000 1000 m n x σ (by omega) (by omega) (by omega) q.2.2.1 q.2.2.2 q.1 q.2.1 T1 D1 T1' R1 G1 G1' E1) (fun m => rfl) (fun m2 n2 x2 σ2 q2 G2 G2' T2 T2' D2 R2 E2 => ?_)
  rw [if_neg n10]
  have fin := r_puls hL ht 5 0 1000 1000 m2 n2 x2 σ2 (by omega) (by omega) (by omega) q2.2.2.2 q2.2.2.1 q2.1 q2.2.1 T2 D2 T2' R2 G2 G2' E2
  obtain ⟨f, y, x', σ', ⟨m', g, hX⟩, hM, hq⟩ := fin
  refine ⟨f, y, x', σ', ⟨m', g, ?_⟩, hM, hq⟩
  rcases hX with ⟨b1, b2, b3⟩ | ⟨b1, b2, b3⟩
  · refine Or.inl ⟨b1, ?_, b3⟩
    show fn_bi (fn_X4_readPulpits 11 m2) _ = _
    rw [show fn_X4_readPulpits 11 m2 = some (nI 1, m') from b2, mm_bi, if_neg n10]; rfl
  · refine Or.inr ⟨b1, ?_, b3⟩
    show fn_bi (fn_X4_readPulpits 11 m2) _ = _
    rw [show fn_X4_readPulpits 11 m2 = some (nI 0, m') from b2, mm_bi, if_pos n00]; rfl
end RO
theorem q_road {μ : pw_Mem} (I : Iv μ) : Ok2 fn_X5_road fn_X6_road μ := by
  have I' := I
  obtain ⟨ρ, N, A, G, W, ⟨L, t1, t2, t3, t4⟩, U, V⟩ := I
  unfold Ok2
  obtain ⟨t, ht0⟩ : ∃ t : Nat → Nat, ∀ i, i < L → t i < 256 ∧ μ 3 i = nI (t i) ∧ μ 56 i = nI (t i) := by
    refine ⟨fun i => (μ 3 i).toNatClampNeg, fun i hi => ?_⟩
    obtain ⟨c, c1, c2, c3⟩ := t4 i hi
    have : (μ 3 i).toNatClampNeg = c := by rw [c2, mm_clamp (by omega)]
    dsimp only
    rw [this]
    exact ⟨c1, c2, c3⟩
  have ht : ∀ i, i < L → t i < 256 := fun i hi => (ht0 i hi).1
  have zl : ∀ ν : pw_Mem, ν 54 = μ 54 → ν 55 = μ 55 → ν 56 = μ 56 → ∃ mm, fn_X6_road ν = fn_bi (fn_X6_takesAll mm) (fun r31 m31 => (if r31 ≠ 0 then fn_bv (fn_X6_copyOf (152 : Int32) (0 : Int32) (38 : Int32) (pw_st m31 54 3 (0 : Int32))) (fun m59 => fn_ix (1 : Int32) 670 (fun j72 => some (((pw_st m59 54 1 (0 : Int32)) 55 j72), (pw_st m59 54 1 (0 : Int32))))) else some (((-1000100 : Int32) - ((pw_st m31 54 3 (0 : Int32)) 54 11)), (pw_st m31 54 3 (0 : Int32))))) ∧ TM t L mm 0 ∧ rd_M mm 152 (fun _ => 0) ∧ GM ν mm ∧ mm 54 4 = ν 54 4 := by
    intro ν v54 v55 v56
    obtain ⟨m', a, b, c, e⟩ := m_road_l (fun m25 => fn_bi (fn_X6_takesAll (pw_st m25 54 10 (0 : Int32))) (fun r31 m31 => (if r31 ≠ 0 then fn_bv (fn_X6_copyOf (152 : Int32) (0 : Int32) (38 : Int32) (pw_st m31 54 3 (0 : Int32))) (fun m59 => fn_ix (1 : Int32) 670 (fun j72 => some (((pw_st m59 54 1 (0 : Int32)) 55 j72), (pw_st m59 54 1 (0 : Int32))))) else some (((-1000100 : Int32) - ((pw_st m31 54 3 (0 : Int32)) 54 11)), (pw_st m31 54 3 (0 : Int32)))))) 38 1000 0 ν (by omega) (by omega)
    refine ⟨pw_st m' 54 10 (0 : Int32), a, ⟨?_, fun i hi => ?_, by rw [ms_eq]; rfl⟩, fun i hi => ?_, ⟨fun k h1 h2 => by rw [ms_row _ _ h1, b k h2], fun j h1 h2 h3 h4 => by rw [ms_nj _ _ h2, b 54 (by omega)], fun i hi => by rw [ms_row _ _ (by omega), c i (by omega)]⟩, by rw [ms_nj _ _ (by omega), b 54 (by omega)]⟩
    · rw [ms_nj _ _ (by omega), b 54 (by omega), v54]; exact t3
    · rw [ms_row _ _ (by omega), b 56 (by omega), v56]; exact (ht0 i hi).2.2
    · rw [ms_row _ _ (by omega)]; exact e i (by omega) hi
  have hr : ∀ ν mm, TM t L mm 0 → rd_M mm 152 (fun _ => 0) → GM ν mm → mm 54 4 = ν 54 4 → RR t L μ ν (fun m => some (nI 1, m)) (fun _ σ => dk σ ∧ 3 ≤ σ 0) (fn_X4_readInto 11 μ) (fn_X6_takesAll mm) := fun ν mm h1 h2 h3 h4 => r_all t1 ht t2 (fun i hi => (ht0 i hi).2.1) h1 h2 h3 h4
  obtain ⟨mm0, -, z1, z2, z3, z4⟩ := zl μ rfl rfl rfl
  obtain ⟨f, y, x, σ, ⟨m8, g8, hX⟩, -, hq⟩ := hr μ mm0 z1 z2 z3 z4
  rcases hX with ⟨f0, e8, T8, D8⟩ | ⟨f0, e8, y8, f8⟩
  · -- a road
    have kq := hq f0
    have o8 : ∀ j, j ≠ 2 → (pw_st m8 2 1 (0 : Int32)) j = m8 j := fun j hj => ms_row _ _ hj
    have tk : ∀ τ : Rd, DX m8 τ → dk τ → ∃ μ', fn_X2_take 4 11 (pw_st m8 2 1 (0 : Int32)) = some μ' ∧ rd_X μ' 4 τ ∧ μ' 4 0 = (pw_st m8 2 1 (0 : Int32)) 11 0 ∧ ∀ k, k < 4 ∨ 4 + 5 < k → μ' k = (pw_st m8 2 1 (0 : Int32)) k := fun τ D k => x_take (o := 4) (o1 := 11) (x_other (D.rd k) (fun j hj => o8 _ (by omega))) k.1 k.2.1 (by omega) (Or.inr (by rw [o8 11 (by omega)]; exact D.1))
    obtain ⟨m54, s1, -, s3, s4⟩ := tk σ D8 kq.1
    obtain ⟨μ1, hμ1⟩ : ∃ μ1, μ1 = pw_st m54 20 1 (0 : Int32) := ⟨_, rfl⟩
    have u1 : ∀ k, k ≠ 2 → (k < 4 ∨ 9 < k) → (k < 11 ∨ 16 < k) → k ≠ 20 → μ1 k = μ k := fun k h1 h2 h3 h4 => by rw [hμ1, ms_row _ _ h4, s4 k (by omega), o8 k h1, g8 k h1 h3]
    obtain ⟨mm1, w0, w1, w2, w3, w4⟩ := zl μ1 (u1 54 (by omega) (by omega) (by omega) (by omega)) (u1 55 (by omega) (by omega) (by omega) (by omega)) (u1 56 (by omega) (by omega) (by omega) (by omega))
    obtain ⟨f', y', x', τ, ⟨m8', g8', hX'⟩, ⟨n', gn, hM'⟩, hq'⟩ := hr μ1 mm1 w1 w2 w3 w4
    rcases hX' with ⟨f0', e8', T8', D8'⟩ | ⟨_, e8', _, _⟩
    rotate_left
    · exact absurd (congrArg Prod.fst (Option.some.inj (e8.symm.trans e8'))) n10
    have em : m8 = m8' := congrArg Prod.snd (Option.some.inj (e8.symm.trans e8'))
    subst em
    have kt := hq' f0'
    rcases hM' with ⟨_, en, Tn, Rn, En⟩ | ⟨gg, _⟩
    rotate_left
    · exact absurd f0' gg
    obtain ⟨m54', s1', s2', -, -⟩ := tk τ D8' kt.1
    have em : m54 = m54' := Option.some.inj (s1.symm.trans s1')
    subst em
    obtain ⟨n2, c1, c2, c3, c4⟩ := m_copyOf (a := 152) (b := 0) (N := 38) (by omega) (by omega) (by omega) (pw_st n' 54 3 (0 : Int32))
    have F1 : ∀ k, k ≠ 54 → k ≠ 55 → (pw_st n2 54 1 (0 : Int32)) k = μ1 k := fun k h1 h2 => by rw [ms_row _ _ h1, c2 k h2, ms_row _ _ h1, gn.1 k h1 h2]
    have F : ∀ k, k ≠ 2 → (k < 4 ∨ 9 < k) → (k < 11 ∨ 16 < k) → k ≠ 20 → k ≠ 54 → k ≠ 55 → (pw_st n2 54 1 (0 : Int32)) k = μ k := fun k h1 h2 h3 h4 h5 h6 => by rw [F1 k h5 h6, u1 k h1 h2 h3 h4]
    have F54 : ∀ j, j ≠ 1 → j ≠ 3 → j ≠ 4 → j ≠ 10 → j ≠ 11 → j ≠ 12 → (pw_st n2 54 1 (0 : Int32)) 54 j = μ 54 j := fun j h1 h2 h3 h4 h5 h6 => by rw [ms_nj _ _ h1, c2 54 (by omega), ms_nj _ _ h2, gn.2.1 j h3 h4 h5 h6, u1 54 (by omega) (by omega) (by omega) (by omega)]
    have F55 : ∀ i, (38 ≤ i ∧ i < 152) ∨ 190 ≤ i → (pw_st n2 54 1 (0 : Int32)) 55 i = μ 55 i := fun i hi => by rw [ms_row _ _ (by omega), c3 i (by omega), ms_row _ _ (by omega), gn.2.2 i (by omega), u1 55 (by omega) (by omega) (by omega) (by omega)]
    have R0 : rd_M (pw_st n2 54 1 (0 : Int32)) 0 τ := fun i hi => by rw [ms_row _ _ (by omega), c4 i hi, ms_row _ _ (by omega)]; exact Rn i hi
    have X4 : rd_X (pw_st n2 54 1 (0 : Int32)) 4 τ := x_other s2' (fun j hj => by rw [F1 _ (by omega) (by omega), hμ1, ms_row _ _ (by omega)])
    refine ⟨nI (τ 1), μ1, pw_st n2 54 1 (0 : Int32), ?_, ?_, ?_⟩
    · unfold fn_X5_road
      rw [e8, mm_bi, if_pos n10, s1, mm_bv, hμ1, ms_row _ _ (by omega), s2'.2.2.2.2.1]
    · have c1' : fn_X6_copyOf (152 : Int32) (0 : Int32) (38 : Int32) (pw_st n' 54 3 (0 : Int32)) = some n2 := by rw [mm_l152, mm_l38, show (0 : Int32) = nI 0 from rfl]; exact c1
      have i1 : ∀ k : Nat → Option (Int32 × pw_Mem), fn_ix (1 : Int32) 670 k = k 1 := fun k => by rw [mm_l1, mm_ix (by omega) (by omega)]
      have en' : fn_X6_takesAll mm1 = some (nI 1, n') := en
      rw [w0, en', mm_bi, if_pos n10, c1', mm_bv, i1, show (pw_st n2 54 1 (0 : Int32)) 55 1 = nI (τ 1) from R0 1 (by omega)]
    · obtain ⟨kept, h, -, -, ⟨e, he, -, h2, -⟩, -, -⟩ := A
      refine ⟨τ, ⟨X4, R0, Or.inl ⟨?_, kt.1.rk' kt.2⟩⟩, ⟨0, fun _ => τ, by omega, fun z => by omega, ⟨e, he, ?_, ?_, fun k hk => by omega⟩, ⟨?_, fun k hk => by omega⟩, fun k hk => by omega⟩, fun k hk => (G k hk).same (fun j hj => F _ (by omega) (by omega) (by omega) (by omega) (by omega) (by omega)) (fun i hi => F55 _ (by omega)), fun r hr => (W r hr).same (F _ (by omega) (by omega) (by omega) (by omega) (by omega) (by omega)) (F _ (by omega) (by omega) (by omega) (by omega) (by omega) (by omega)) (F _ (by omega) (by omega) (by omega) (by omega) (by omega) (by omega)) (F _ (by omega) (by omega) (by omega) (by omega) (by omega) (by omega)) (F _ (by omega) (by omega) (by omega) (by omega) (by omega) (by omega)), ⟨0, by omega, ?_, ?_, fun i hi => by omega⟩, U.same (F _ (by omega) (by omega) (by omega) (by omega) (by omega) (by omega)) ?_ (F54 5 (by omega) (by omega) (by omega) (by omega) (by omega) (by omega)), V.same (F _ (by omega) (by omega) (by omega) (by omega) (by omega) (by omega)) (F54 15 (by omega) (by omega) (by omega) (by omega) (by omega) (by omega)) (F _ (by omega) (by omega) (by omega) (by omega) (by omega) (by omega)) (F _ (by omega) (by omega) (by omega) (by omega) (by omega) (by omega))⟩
      · rw [F1 4 (by omega) (by omega), hμ1, ms_row _ _ (by omega), s3, o8 11 (by omega)]; exact D8.1
      · rw [F1 20 (by omega) (by omega), hμ1, ms_eq]; rfl
      · rw [F1 20 (by omega) (by omega), hμ1, ms_nj _ _ (by omega), s4 20 (by omega), o8 20 (by omega), g8 20 (by omega) (by omega)]; exact h2
      · rw [ms_eq]; rfl
      · rw [F1 2 (by omega) (by omega), hμ1, ms_row _ _ (by omega), s4 2 (by omega), ms_eq]; rfl
      · rw [ms_nj _ _ (by omega), c2 54 (by omega), ms_eq]; rfl
      · rw [ms_nj _ _ (by omega), c2 54 (by omega), ms_nj _ _ (by omega), En, u1 54 (by omega) (by omega) (by omega) (by omega)]
  · -- a fault
    obtain ⟨μ1, hμ1⟩ : ∃ μ1, μ1 = pw_st (pw_st m8 2 1 (0 : Int32)) 0 8 ((pw_st m8 2 1 (0 : Int32)) 2 3) := ⟨_, rfl⟩
    have u1 : ∀ k, k ≠ 2 → k ≠ 0 → (k < 11 ∨ 16 < k) → μ1 k = μ k := fun k h1 h2 h3 => by rw [hμ1, ms_row _ _ h2, ms_row _ _ h1, g8 k h1 h3]
    obtain ⟨mm1, w0, w1, w2, w3, w4⟩ := zl μ1 (u1 54 (by omega) (by omega) (by omega)) (u1 55 (by omega) (by omega) (by omega)) (u1 56 (by omega) (by omega) (by omega))
    obtain ⟨f', y', x', τ, ⟨m8', g8', hX'⟩, ⟨n', gn, hM'⟩, hq'⟩ := hr μ1 mm1 w1 w2 w3 w4
    rcases hX' with ⟨f0', e8', T8', D8'⟩ | ⟨f0', e8', y8', f8'⟩
    · exact absurd (congrArg Prod.fst (Option.some.inj (e8'.symm.trans e8))) n10
    have em : m8 = m8' := congrArg Prod.snd (Option.some.inj (e8.symm.trans e8'))
    subst em
    rcases hM' with ⟨gg, _⟩ | ⟨_, en, q4, q11⟩
    · exact absurd gg f0'
    have F1 : ∀ k, k ≠ 54 → k ≠ 55 → (pw_st n' 54 3 (0 : Int32)) k = μ1 k := fun k h1 h2 => by rw [ms_row _ _ h1, gn.1 k h1 h2]
    have F : ∀ k, k ≠ 0 → k ≠ 2 → (k < 11 ∨ 16 < k) → k ≠ 54 → k ≠ 55 → (pw_st n' 54 3 (0 : Int32)) k = μ k := fun k h0 h1 h2 h5 h6 => by rw [F1 k h5 h6, u1 k h1 h0 h2]
    have F54 : ∀ j, j ≠ 3 → j ≠ 4 → j ≠ 10 → j ≠ 11 → j ≠ 12 → (pw_st n' 54 3 (0 : Int32)) 54 j = μ 54 j := fun j h2 h3 h4 h5 h6 => by rw [ms_nj _ _ h2, gn.2.1 j h3 h4 h5 h6, u1 54 (by omega) (by omega) (by omega)]
    have F55 : ∀ i, i < 152 ∨ 190 ≤ i → (pw_st n' 54 3 (0 : Int32)) 55 i = μ 55 i := fun i hi => by rw [ms_row _ _ (by omega), gn.2.2 i (by omega), u1 55 (by omega) (by omega) (by omega)]
    refine ⟨(-1000100 : Int32) - nI y', μ1, pw_st n' 54 3 (0 : Int32), ?_, ?_, ?_⟩
    · unfold fn_X5_road
      rw [e8, mm_bi, if_neg (fun z => z n00), hμ1]
      rw [show (pw_st (pw_st m8 2 1 (0 : Int32)) 0 8 ((pw_st m8 2 1 (0 : Int32)) 2 3)) 2 2 = nI y' by rw [ms_row _ _ (by omega), ms_nj _ _ (by omega)]; exact y8']
    · rw [w0, en, mm_bi, if_neg (fun z => z n00), show (pw_st n' 54 3 (0 : Int32)) 54 11 = nI y' by rw [ms_nj _ _ (by omega)]; exact q11]
    · refine ⟨ρ, N.same (fun j hj => F _ (by omega) (by omega) (by omega) (by omega) (by omega)) (fun i hi => F55 _ (by omega)), A.same (F _ (by omega) (by omega) (by omega) (by omega) (by omega)) (F _ (by omega) (by omega) (by omega) (by omega) (by omega)) (F54 1 (by omega) (by omega) (by omega) (by omega) (by omega)) (fun i hi => F55 _ (by omega)), fun k hk => (G k hk).same (fun j hj => F _ (by omega) (by omega) (by omega) (by omega) (by omega)) (fun i hi => F55 _ (by omega)), fun r hr => (W r hr).same (F _ (by omega) (by omega) (by omega) (by omega) (by omega)) (F _ (by omega) (by omega) (by omega) (by omega) (by omega)) (F _ (by omega) (by omega) (by omega) (by omega) (by omega)) (F _ (by omega) (by omega) (by omega) (by omega) (by omega)) (F _ (by omega) (by omega) (by omega) (by omega) (by omega)), ⟨0, by omega, ?_, ?_, fun i hi => by omega⟩, ⟨?_, ?_⟩, V.same (F _ (by omega) (by omega) (by omega) (by omega) (by omega)) (F54 15 (by omega) (by omega) (by omega) (by omega) (by omega)) (F _ (by omega) (by omega) (by omega) (by omega) (by omega)) (F _ (by omega) (by omega) (by omega) (by omega) (by omega))⟩
      · rw [F1 2 (by omega) (by omega), hμ1, ms_row _ _ (by omega), ms_eq]; rfl
      · rw [ms_eq]; rfl
      · rw [F1 0 (by omega) (by omega), hμ1, ms_eq, ms_nj _ _ (by omega), f8', ms_nj _ _ (by omega), q4]
      · rw [F1 0 (by omega) (by omega), hμ1, ms_nj _ _ (by omega), ms_row _ _ (by omega), g8 0 (by omega) (by omega), F54 5 (by omega) (by omega) (by omega) (by omega) (by omega)]; exact U.2
