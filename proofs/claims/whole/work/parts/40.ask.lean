/-! ASK -/
def tx (μ : pw_Mem) (ls : List Nat) : pw_Mem := fun k j => if k = 22 ∧ j = 1 then nI ls.length else if k = 23 ∧ j < ls.length then nI (ls.getD j 0) else μ k j
def tm (μ : pw_Mem) (ls : List Nat) : pw_Mem := fun k j => if k = 54 ∧ j = 15 then nI ls.length else if k = 62 ∧ j < ls.length then nI (ls.getD j 0) else μ k j
theorem ap_len (ls : List Nat) (v : Nat) : (ls ++ [v]).length = ls.length + 1 := by simp
theorem ap_get (ls : List Nat) (v j : Nat) : (ls ++ [v]).getD j 0 = if j < ls.length then ls.getD j 0 else if j = ls.length then v else 0 := by
  simp only [List.getD_eq_getElem?_getD]
  by_cases h : j < ls.length
  · rw [if_pos h, List.getElem?_append_left h]
  · rw [if_neg h, List.getElem?_append_right (by omega)]
    by_cases q : j = ls.length
    · rw [if_pos q, q, Nat.sub_self]; rfl
    · rw [if_neg q]
      obtain ⟨d, hd⟩ : ∃ d, j - ls.length = d + 1 := ⟨j - ls.length - 1, by omega⟩
      rw [hd]; rfl
theorem tx_0 (μ : pw_Mem) : pw_st μ 22 1 0 = tx μ [] := by
  funext k j
  rw [ms_at]; unfold tx
  by_cases q : k = 22 ∧ j = 1
  · rw [if_pos q, if_pos q]; rfl
  · rw [if_neg q, if_neg q, if_neg (by simp)]
theorem tm_0 (μ : pw_Mem) : pw_st μ 54 15 0 = tm μ [] := by
  funext k j
  rw [ms_at]; unfold tm
  by_cases q : k = 54 ∧ j = 15
  · rw [if_pos q, if_pos q]; rfl
  · rw [if_neg q, if_neg q, if_neg (by simp)]
theorem tx_r (μ : pw_Mem) (ls : List Nat) {k : Nat} (h1 : k ≠ 22) (h2 : k ≠ 23) : tx μ ls k = μ k := by
  funext j; unfold tx; rw [if_neg (by omega), if_neg (by omega)]
theorem tm_r (μ : pw_Mem) (ls : List Nat) {k : Nat} (h1 : k ≠ 54) (h2 : k ≠ 62) : tm μ ls k = μ k := by
  funext j; unfold tm; rw [if_neg (by omega), if_neg (by omega)]
theorem tm_54 (μ : pw_Mem) (ls : List Nat) {j : Nat} (h1 : j ≠ 15) : tm μ ls 54 j = μ 54 j := by
  unfold tm; rw [if_neg (by omega), if_neg (by omega)]
theorem x_leave {μ : pw_Mem} {ls : List Nat} (h : ls.length < 16) (v : Nat) : fn_X1_leave (nI v) (tx μ ls) = some (tx μ (ls ++ [v])) := by
  have e : tx μ ls 22 1 = nI ls.length := if_pos ⟨rfl, rfl⟩
  unfold fn_X1_leave
  rw [e, mm_l16, if_neg (nI_ge (by omega) (by omega)), mm_ix (by omega) (by omega), ms_row _ _ (by omega), e, mm_l1, mm_add]
  congr 1
  funext k j
  rw [ms_at, ms_at]
  unfold tx
  rw [ap_len, ap_get]
  by_cases q : k = 22 ∧ j = 1
  · rw [if_pos q, if_pos q]
  · rw [if_neg q, if_neg q, if_neg q]
    by_cases r : k = 23
    · subst r
      by_cases s : j = ls.length
      · rw [if_pos ⟨rfl, s⟩, if_pos ⟨rfl, by omega⟩, if_neg (by omega), if_pos s]
      · rw [if_neg (by omega)]
        by_cases t : j < ls.length
        · rw [if_pos ⟨rfl, t⟩, if_pos ⟨rfl, by omega⟩, if_pos t]
        · rw [if_neg (by omega), if_neg (by omega)]
    · rw [if_neg (by omega), if_neg (by omega), if_neg (by omega)]
theorem m_traces {μ : pw_Mem} {ls : List Nat} (h : ls.length < 16) (v : Nat) : fn_X6_traces (nI v) (tm μ ls) = some (tm μ (ls ++ [v])) := by
  have e : tm μ ls 54 15 = nI ls.length := if_pos ⟨rfl, rfl⟩
  unfold fn_X6_traces
  rw [e, mm_l16, if_neg (nI_ge (by omega) (by omega)), mm_ix (by omega) (by omega), ms_row _ _ (by omega), e, mm_l1, mm_add]
  congr 1
  funext k j
  rw [ms_at, ms_at]
  unfold tm
  rw [ap_len, ap_get]
  by_cases q : k = 54 ∧ j = 15
  · rw [if_pos q, if_pos q]
  · rw [if_neg q, if_neg q, if_neg q]
    by_cases r : k = 62
    · subst r
      by_cases s : j = ls.length
      · rw [if_pos ⟨rfl, s⟩, if_pos ⟨rfl, by omega⟩, if_neg (by omega), if_pos s]
      · rw [if_neg (by omega)]
        by_cases t : j < ls.length
        · rw [if_pos ⟨rfl, t⟩, if_pos ⟨rfl, by omega⟩, if_pos t]
        · rw [if_neg (by omega), if_neg (by omega)]
    · rw [if_neg (by omega), if_neg (by omega), if_neg (by omega)]
theorem Iv.traced {μ : pw_Mem} (I : Iv μ) {ls : List Nat} (h : ls.length ≤ 16) : Iv (tm (tx μ ls) ls) := by
  obtain ⟨ρ, N, A, G, W, T, U, V⟩ := I
  have r : ∀ k, k ≠ 22 ∧ k ≠ 23 ∧ k ≠ 54 ∧ k ≠ 62 → tm (tx μ ls) ls k = μ k := fun k hk => by rw [tm_r _ _ hk.2.2.1 hk.2.2.2, tx_r _ _ hk.1 hk.2.1]
  have f : ∀ j, j ≠ 15 → tm (tx μ ls) ls 54 j = μ 54 j := fun j hj => by rw [tm_54 _ _ hj, tx_r _ _ (by omega) (by omega)]
  refine ⟨ρ, N.same (fun j hj => r _ (by omega)) (fun i _ => by rw [r 55 (by omega)]), A.same (r 20 (by omega)) (r 21 (by omega)) (f 1 (by omega)) (fun i _ => by rw [r 55 (by omega)]), fun k hk => (G k hk).same (fun j hj => r _ (by omega)) (fun i _ => by rw [r 55 (by omega)]), fun q hq => (W q hq).same (r _ (by omega)) (r _ (by omega)) (r 57 (by omega)) (r 58 (by omega)) (r 59 (by omega)), T.same (by rw [r 2 (by omega)]) (f 3 (by omega)) (r 3 (by omega)) (r 56 (by omega)), U.same (r 0 (by omega)) (f 4 (by omega)) (f 5 (by omega)), ⟨ls.length, h, ?_, if_pos ⟨rfl, rfl⟩, fun i hi => ?_⟩⟩
  · rw [tm_r _ _ (by omega) (by omega)]; exact if_pos ⟨rfl, rfl⟩
  · rw [tm_r _ _ (by omega) (by omega)]
    unfold tm
    rw [if_neg (by omega), if_pos ⟨rfl, hi⟩]
    unfold tx
    rw [if_neg (by omega), if_pos ⟨rfl, hi⟩]
theorem fn_bi_id (x : Option (Int32 × pw_Mem)) : fn_bi x (fun r m => some (r, m)) = x := by
  rcases x with _ | ⟨r, m⟩ <;> rfl
def bs (K : Nat) : Nat := if K = 2 then 12 else if K = 4 then 13 else if K = 5 then 14 else 11
def bm (K : Nat) : Nat := if K = 1 then 21 else if K = 2 then 24 else if K = 3 then 22 else 23
theorem x_bodyOf {K : Nat} (h1 : 1 ≤ K) (hK : K ≤ 5) (μ : pw_Mem) : fn_X1_bodyOf (nI K) (nI 0) μ = some (nI (bs K), μ) ∧ fn_X1_bodyOf (nI K) (nI 1) μ = some (nI (bm K), μ) := by
  have a : K = 1 ∨ K = 2 ∨ K = 3 ∨ K = 4 ∨ K = 5 := by omega
  rcases a with rfl | rfl | rfl | rfl | rfl <;> exact ⟨rfl, rfl⟩
theorem dp_le {dep : Nat} (h : dep ≤ 16) : nI dep ≤ (16 : Int32) := by rw [mm_l16]; exact nI_le (by omega) (by omega)
theorem dp_s (dep : Nat) : nI dep + (1 : Int32) = nI (dep + 1) := mm_add dep 1
theorem x_bgw {μ : pw_Mem} {p K : Nat} (hp : p < 5) (hk : μ 7 p = nI K) (h1 : 1 ≤ K) (h5 : K ≤ 5) (n : Nat) (W : Nat) (hW : W ≤ 1) (dep : Nat) (ls : List Nat) : fn_X1_begin_w (fn_X1_give n) 4 (nI p) (nI W) (nI dep) (tx μ ls) = fn_X1_give n (nI (if W = 0 then bs K else bm K)) 4 (nI p) (nI dep) (tx μ ls) := by
  unfold fn_X1_begin_w
  rw [mm_ix (by omega) (by omega), tx_r _ _ (by omega) (by omega), show μ (4 + 3) p = nI K from hk]
  have : W = 0 ∨ W = 1 := by omega
  rcases this with rfl | rfl
  · rw [(x_bodyOf h1 h5 _).1, mm_bi, fn_bi_id, if_pos rfl]
  · rw [(x_bodyOf h1 h5 _).2, mm_bi, fn_bi_id, if_neg (by omega)]

theorem g10 {μ : pw_Mem} {p w : Nat} (hp : p < 5) (hw : μ 9 p = nI w) (n dep : Nat) (ls : List Nat) (hd : dep ≤ 16) (hl : ls.length < 16) : fn_X1_give (n + 1) 10 4 (nI p) (nI dep) (tx μ ls) = some (nI w, tx μ (ls ++ [10])) := by
  rw [fn_X1_give, if_pos (dp_le hd), (show fn_X1_leave (10 : Int32) (tx μ ls) = some (tx μ (ls ++ [10])) from x_leave (by omega) 10), mm_bv, if_pos rfl, mm_ix (by omega) (by omega), tx_r _ _ (by omega) (by omega), show μ (4 + 5) p = nI w from hw]
theorem g20 {μ : pw_Mem} {p : Nat} (hp : p < 5) (n dep : Nat) (ls : List Nat) (hd : dep ≤ 16) (hl : ls.length < 16) : fn_X1_give (n + 1) 20 4 (nI p) (nI dep) (tx μ ls) = some (nI p, tx μ (ls ++ [20])) := by
  rw [fn_X1_give, if_pos (dp_le hd), (show fn_X1_leave (20 : Int32) (tx μ ls) = some (tx μ (ls ++ [20])) from x_leave (by omega) 20), mm_bv, if_neg (by decide), if_neg (by decide), if_neg (by decide), if_neg (by decide), if_neg (by decide), if_pos rfl]
theorem g21 {μ : pw_Mem} {p a : Nat} (hp : p < 5) (ha : μ 8 p = nI a) (n dep : Nat) (ls : List Nat) (hd : dep + 1 ≤ 16) (hl : ls.length + 1 < 16) : fn_X1_give (n + 2) 21 4 (nI p) (nI dep) (tx μ ls) = some (nI p + nI a, tx μ (ls ++ [21] ++ [20])) := by
  have hd' := hd
  replace hd : dep ≤ 16 := by omega
  rw [fn_X1_give, if_pos (dp_le hd), (show fn_X1_leave (21 : Int32) (tx μ ls) = some (tx μ (ls ++ [21])) from x_leave (by omega) 21), mm_bv, if_neg (by decide), if_neg (by decide), if_neg (by decide), if_neg (by decide), if_neg (by decide), if_neg (by decide), if_pos rfl, dp_s, g20 hp n _ _ hd' (by simp only [ap_len]; omega), mm_bi, mm_ix (by omega) (by omega), tx_r _ _ (by omega) (by omega), show μ (4 + 4) p = nI a from ha]
theorem g22 {μ : pw_Mem} {p a : Nat} (hp : p < 5) (ha : μ 8 p = nI a) (n dep : Nat) (ls : List Nat) (hd : dep + 2 ≤ 16) (hl : ls.length + 2 < 16) : fn_X1_give (n + 3) 22 4 (nI p) (nI dep) (tx μ ls) = some (nI p + nI a - (1000 : Int32), tx μ (ls ++ [22] ++ [21] ++ [20])) := by
  have hd' := hd
  replace hd : dep ≤ 16 := by omega
  rw [fn_X1_give, if_pos (dp_le hd), (show fn_X1_leave (22 : Int32) (tx μ ls) = some (tx μ (ls ++ [22])) from x_leave (by omega) 22), mm_bv, if_neg (by decide), if_neg (by decide), if_neg (by decide), if_neg (by decide), if_neg (by decide), if_neg (by decide), if_neg (by decide), if_pos rfl, dp_s, g21 hp ha n _ _ hd' (by simp only [ap_len]; omega), mm_bi]
theorem g24 {μ : pw_Mem} {p a : Nat} (hp : p < 5) (ha : μ 8 p = nI a) (n dep : Nat) (ls : List Nat) (hd : dep + 2 ≤ 16) (hl : ls.length + 2 < 16) : fn_X1_give (n + 3) 24 4 (nI p) (nI dep) (tx μ ls) = some ((2 : Int32) * (nI p + nI a), tx μ (ls ++ [24] ++ [21] ++ [20])) := by
  have hd' := hd
  replace hd : dep ≤ 16 := by omega
  rw [fn_X1_give, if_pos (dp_le hd), (show fn_X1_leave (24 : Int32) (tx μ ls) = some (tx μ (ls ++ [24])) from x_leave (by omega) 24), mm_bv, if_neg (by decide), if_neg (by decide), if_neg (by decide), if_neg (by decide), if_neg (by decide), if_neg (by decide), if_neg (by decide), if_neg (by decide), if_neg (by decide), if_pos rfl, dp_s, g21 hp ha n _ _ hd' (by simp only [ap_len]; omega), mm_bi]
theorem g13 {μ : pw_Mem} {p w : Nat} (hp : p < 5) (hw : μ 9 p = nI w) (n dep : Nat) (ls : List Nat) (hd : dep + 1 ≤ 16) (hl : ls.length + 1 < 16) : fn_X1_give (n + 2) 13 4 (nI p) (nI dep) (tx μ ls) = some (nI w - (100 : Int32), tx μ (ls ++ [13] ++ [10])) := by
  have hd' := hd
  replace hd : dep ≤ 16 := by omega
  rw [fn_X1_give, if_pos (dp_le hd), (show fn_X1_leave (13 : Int32) (tx μ ls) = some (tx μ (ls ++ [13])) from x_leave (by omega) 13), mm_bv, if_neg (by decide), if_neg (by decide), if_neg (by decide), if_pos rfl, dp_s, g10 hp hw n _ _ hd' (by simp only [ap_len]; omega), mm_bi]
theorem g14 {μ : pw_Mem} {p w : Nat} (hp : p < 5) (hw : μ 9 p = nI w) (n dep : Nat) (ls : List Nat) (hd : dep + 2 ≤ 16) (hl : ls.length + 2 < 16) : fn_X1_give (n + 3) 14 4 (nI p) (nI dep) (tx μ ls) = some ((2 : Int32) * (nI w - (100 : Int32)), tx μ (ls ++ [14] ++ [13] ++ [10])) := by
  have hd' := hd
  replace hd : dep ≤ 16 := by omega
  rw [fn_X1_give, if_pos (dp_le hd), (show fn_X1_leave (14 : Int32) (tx μ ls) = some (tx μ (ls ++ [14])) from x_leave (by omega) 14), mm_bv, if_neg (by decide), if_neg (by decide), if_neg (by decide), if_neg (by decide), if_pos rfl, dp_s, g13 hp hw n _ _ hd' (by simp only [ap_len]; omega), mm_bi]
theorem g11 {μ : pw_Mem} {p K w : Nat} (hp : p < 5) (hk : μ 7 p = nI K) (h1 : 1 ≤ K) (h5 : K ≤ 5) (hw : μ 9 p = nI w) (n dep : Nat) (ls ls' : List Nat) (v : Int32) (hd : dep + 1 ≤ 16) (hl : ls.length + 1 < 16) (H : fn_X1_give (n + 1) (nI (bm K)) 4 (nI p) (nI (dep + 1)) (tx μ (ls ++ [11] ++ [10])) = some (v, tx μ ls')) : fn_X1_give (n + 2) 11 4 (nI p) (nI dep) (tx μ ls) = some (nI w + v, tx μ ls') := by
  have hd' := hd
  replace hd : dep ≤ 16 := by omega
  have B := x_bgw hp hk h1 h5 (n + 1) 1 (by omega) (dep + 1) (ls ++ [11] ++ [10])
  rw [if_neg (by omega), H] at B
  rw [fn_X1_give, if_pos (dp_le hd), (show fn_X1_leave (11 : Int32) (tx μ ls) = some (tx μ (ls ++ [11])) from x_leave (by omega) 11), mm_bv, if_neg (by decide), if_pos rfl, dp_s, g10 hp hw n _ _ hd' (by simp only [ap_len]; omega), mm_bi, show fn_X1_begin_w (fn_X1_give (n + 1)) 4 (nI p) (1 : Int32) (nI (dep + 1)) (tx μ (ls ++ [11] ++ [10])) = some (v, tx μ ls') from B, mm_bi]
theorem g12 {μ : pw_Mem} {p : Nat} (hp : p < 5) (n dep : Nat) (ls ls' : List Nat) (v : Int32) (hd : dep ≤ 16) (hl : ls.length < 16) (H : fn_X1_give n 11 4 (nI p) (nI (dep + 1)) (tx μ (ls ++ [12])) = some (v, tx μ ls')) : fn_X1_give (n + 1) 12 4 (nI p) (nI dep) (tx μ ls) = some (-v, tx μ ls') := by
  rw [fn_X1_give, if_pos (dp_le hd), (show fn_X1_leave (12 : Int32) (tx μ ls) = some (tx μ (ls ++ [12])) from x_leave (by omega) 12), mm_bv, if_neg (by decide), if_neg (by decide), if_pos rfl, dp_s, H, mm_bi]
theorem g23 {μ : pw_Mem} {p K : Nat} (hp : p < 5) (hk : μ 7 p = nI K) (h1 : 1 ≤ K) (h5 : K ≤ 5) (n dep : Nat) (ls ls' : List Nat) (v : Int32) (hd : dep + 1 ≤ 16) (hl : ls.length + 1 < 16) (H : fn_X1_give (n + 1) (nI (bs K)) 4 (nI p) (nI (dep + 1)) (tx μ (ls ++ [23] ++ [20])) = some (v, tx μ ls')) : fn_X1_give (n + 2) 23 4 (nI p) (nI dep) (tx μ ls) = some (nI p - v, tx μ ls') := by
  have hd' := hd
  replace hd : dep ≤ 16 := by omega
  have B := x_bgw hp hk h1 h5 (n + 1) 0 (by omega) (dep + 1) (ls ++ [23] ++ [20])
  rw [if_pos rfl, H] at B
  rw [fn_X1_give, if_pos (dp_le hd), (show fn_X1_leave (23 : Int32) (tx μ ls) = some (tx μ (ls ++ [23])) from x_leave (by omega) 23), mm_bv, if_neg (by decide), if_neg (by decide), if_neg (by decide), if_neg (by decide), if_neg (by decide), if_neg (by decide), if_neg (by decide), if_neg (by decide), if_pos rfl, dp_s, g20 hp n _ _ hd' (by simp only [ap_len]; omega), mm_bi, show fn_X1_begin_w (fn_X1_give (n + 1)) 4 (nI p) (0 : Int32) (nI (dep + 1)) (tx μ (ls ++ [23] ++ [20])) = some (v, tx μ ls') from B, mm_bi]
def ak (W K : Nat) : List Nat := if W = 0 then (if K = 1 then ([] ++ [11] ++ [10] ++ [21] ++ [20]) else if K = 2 then ([] ++ [12] ++ [11] ++ [10] ++ [24] ++ [21] ++ [20]) else if K = 3 then ([] ++ [11] ++ [10] ++ [22] ++ [21] ++ [20]) else if K = 4 then ([] ++ [13] ++ [10]) else ([] ++ [14] ++ [13] ++ [10])) else (if K = 1 then ([] ++ [21] ++ [20]) else if K = 2 then ([] ++ [24] ++ [21] ++ [20]) else if K = 3 then ([] ++ [22] ++ [21] ++ [20]) else if K = 4 then ([] ++ [23] ++ [20] ++ [13] ++ [10]) else ([] ++ [23] ++ [20] ++ [14] ++ [13] ++ [10]))
def av (W K p a w : Nat) : Int32 := if W = 0 then (if K = 1 then nI w + (nI p + nI a) else if K = 2 then -(nI w + (2 : Int32) * (nI p + nI a)) else if K = 3 then nI w + (nI p + nI a - (1000 : Int32)) else if K = 4 then nI w - (100 : Int32) else (2 : Int32) * (nI w - (100 : Int32))) else (if K = 1 then nI p + nI a else if K = 2 then (2 : Int32) * (nI p + nI a) else if K = 3 then nI p + nI a - (1000 : Int32) else if K = 4 then nI p - (nI w - (100 : Int32)) else nI p - (2 : Int32) * (nI w - (100 : Int32)))
theorem ak_len {W K : Nat} (hW : W ≤ 1) (h1 : 1 ≤ K) (h5 : K ≤ 5) : (ak W K).length ≤ 16 := by
  have a : K = 1 ∨ K = 2 ∨ K = 3 ∨ K = 4 ∨ K = 5 := by omega
  have b : W = 0 ∨ W = 1 := by omega
  rcases b with rfl | rfl <;> rcases a with rfl | rfl | rfl | rfl | rfl <;> decide
theorem xs_1 {μ : pw_Mem} {p w a : Nat} (hp : p < 5) (hk : μ 7 p = nI 1) (ha : μ 8 p = nI a) (hw : μ 9 p = nI w) : fn_X1_give 8 (11 : Int32) 4 (nI p) (nI 0) (tx μ []) = some (nI w + (nI p + nI a), tx μ ([] ++ [11] ++ [10] ++ [21] ++ [20])) := g11 hp hk (by omega) (by omega) hw 6 0 [] _ _ (by omega) (by decide) (g21 hp ha 5 _ _ (by omega) (by decide))
theorem xm_1 {μ : pw_Mem} {p w a : Nat} (hp : p < 5) (hk : μ 7 p = nI 1) (ha : μ 8 p = nI a) (hw : μ 9 p = nI w) : fn_X1_give 8 (21 : Int32) 4 (nI p) (nI 0) (tx μ []) = some (nI p + nI a, tx μ ([] ++ [21] ++ [20])) := g21 hp ha 6 0 [] (by omega) (by decide)
theorem xs_2 {μ : pw_Mem} {p w a : Nat} (hp : p < 5) (hk : μ 7 p = nI 2) (ha : μ 8 p = nI a) (hw : μ 9 p = nI w) : fn_X1_give 8 (12 : Int32) 4 (nI p) (nI 0) (tx μ []) = some (-(nI w + (2 : Int32) * (nI p + nI a)), tx μ ([] ++ [12] ++ [11] ++ [10] ++ [24] ++ [21] ++ [20])) := g12 hp 7 0 [] _ _ (by omega) (by decide) (g11 hp hk (by omega) (by omega) hw 5 1 _ _ _ (by omega) (by decide) (g24 hp ha 3 _ _ (by omega) (by decide)))
theorem xm_2 {μ : pw_Mem} {p w a : Nat} (hp : p < 5) (hk : μ 7 p = nI 2) (ha : μ 8 p = nI a) (hw : μ 9 p = nI w) : fn_X1_give 8 (24 : Int32) 4 (nI p) (nI 0) (tx μ []) = some ((2 : Int32) * (nI p + nI a), tx μ ([] ++ [24] ++ [21] ++ [20])) := g24 hp ha 5 0 [] (by omega) (by decide)
theorem xs_3 {μ : pw_Mem} {p w a : Nat} (hp : p < 5) (hk : μ 7 p = nI 3) (ha : μ 8 p = nI a) (hw : μ 9 p = nI w) : fn_X1_give 8 (11 : Int32) 4 (nI p) (nI 0) (tx μ []) = some (nI w + (nI p + nI a - (1000 : Int32)), tx μ ([] ++ [11] ++ [10] ++ [22] ++ [21] ++ [20])) := g11 hp hk (by omega) (by omega) hw 6 0 [] _ _ (by omega) (by decide) (g22 hp ha 4 _ _ (by omega) (by decide))
theorem xm_3 {μ : pw_Mem} {p w a : Nat} (hp : p < 5) (hk : μ 7 p = nI 3) (ha : μ 8 p = nI a) (hw : μ 9 p = nI w) : fn_X1_give 8 (22 : Int32) 4 (nI p) (nI 0) (tx μ []) = some (nI p + nI a - (1000 : Int32), tx μ ([] ++ [22] ++ [21] ++ [20])) := g22 hp ha 5 0 [] (by omega) (by decide)
theorem xs_4 {μ : pw_Mem} {p w a : Nat} (hp : p < 5) (hk : μ 7 p = nI 4) (ha : μ 8 p = nI a) (hw : μ 9 p = nI w) : fn_X1_give 8 (13 : Int32) 4 (nI p) (nI 0) (tx μ []) = some (nI w - (100 : Int32), tx μ ([] ++ [13] ++ [10])) := g13 hp hw 6 0 [] (by omega) (by decide)
theorem xm_4 {μ : pw_Mem} {p w a : Nat} (hp : p < 5) (hk : μ 7 p = nI 4) (ha : μ 8 p = nI a) (hw : μ 9 p = nI w) : fn_X1_give 8 (23 : Int32) 4 (nI p) (nI 0) (tx μ []) = some (nI p - (nI w - (100 : Int32)), tx μ ([] ++ [23] ++ [20] ++ [13] ++ [10])) := g23 hp hk (by omega) (by omega) 6 0 [] _ _ (by omega) (by decide) (g13 hp hw 5 _ _ (by omega) (by decide))
theorem xs_5 {μ : pw_Mem} {p w a : Nat} (hp : p < 5) (hk : μ 7 p = nI 5) (ha : μ 8 p = nI a) (hw : μ 9 p = nI w) : fn_X1_give 8 (14 : Int32) 4 (nI p) (nI 0) (tx μ []) = some ((2 : Int32) * (nI w - (100 : Int32)), tx μ ([] ++ [14] ++ [13] ++ [10])) := g14 hp hw 5 0 [] (by omega) (by decide)
theorem xm_5 {μ : pw_Mem} {p w a : Nat} (hp : p < 5) (hk : μ 7 p = nI 5) (ha : μ 8 p = nI a) (hw : μ 9 p = nI w) : fn_X1_give 8 (23 : Int32) 4 (nI p) (nI 0) (tx μ []) = some (nI p - (2 : Int32) * (nI w - (100 : Int32)), tx μ ([] ++ [23] ++ [20] ++ [14] ++ [13] ++ [10])) := g23 hp hk (by omega) (by omega) 6 0 [] _ _ (by omega) (by decide) (g14 hp hw 4 _ _ (by omega) (by decide))
theorem x_ask {μ : pw_Mem} {p K w a W : Nat} (hp : p < 5) (hW : W ≤ 1) (hk : μ 7 p = nI K) (ha : μ 8 p = nI a) (hw : μ 9 p = nI w) (h1 : 1 ≤ K) (h5 : K ≤ 5) : fn_X1_begin 4 (nI p) (nI W) (nI 0) (tx μ []) = some (av W K p a w, tx μ (ak W K)) := by
  unfold fn_X1_begin
  rw [x_bgw hp hk h1 h5 8 W hW]
  have a : K = 1 ∨ K = 2 ∨ K = 3 ∨ K = 4 ∨ K = 5 := by omega
  have b : W = 0 ∨ W = 1 := by omega
  rcases b with rfl | rfl <;> rcases a with rfl | rfl | rfl | rfl | rfl
  · exact xs_1 hp hk ha hw
  · exact xs_2 hp hk ha hw
  · exact xs_3 hp hk ha hw
  · exact xs_4 hp hk ha hw
  · exact xs_5 hp hk ha hw
  · exact xm_1 hp hk ha hw
  · exact xm_2 hp hk ha hw
  · exact xm_3 hp hk ha hw
  · exact xm_4 hp hk ha hw
  · exact xm_5 hp hk ha hw
theorem s10 {μ : pw_Mem} {p w : Nat} (hp : p < 5) (hw : μ 55 (24 + p) = nI w) (ls : List Nat) (hl : ls.length < 16) : fn_X6_size10 (nI p) (tm μ ls) = some (nI w, tm μ (ls ++ [10])) := by
  rw [fn_X6_size10, (show fn_X6_traces (10 : Int32) (tm μ ls) = some (tm μ (ls ++ [10])) from m_traces hl 10), mm_bv, mm_l24, mm_add, mm_ix (by omega) (by omega), tm_r _ _ (by omega) (by omega), hw]
theorem s20 {μ : pw_Mem} {p : Nat} (hp : p < 5) (ls : List Nat) (hl : ls.length < 16) : fn_X6_mark20 (nI p) (tm μ ls) = some (nI p, tm μ (ls ++ [20])) := by
  rw [fn_X6_mark20, (show fn_X6_traces (20 : Int32) (tm μ ls) = some (tm μ (ls ++ [20])) from m_traces hl 20), mm_bv]
theorem s21 {μ : pw_Mem} {p a : Nat} (hp : p < 5) (ha : μ 55 (19 + p) = nI a) (ls : List Nat) (hl : ls.length + 1 < 16) : fn_X6_mark21 (nI p) (tm μ ls) = some (nI p + nI a, tm μ (ls ++ [21] ++ [20])) := by
  rw [fn_X6_mark21, (show fn_X6_traces (21 : Int32) (tm μ ls) = some (tm μ (ls ++ [21])) from m_traces (by omega) 21), mm_bv, s20 hp _ (by simp only [ap_len]; omega), mm_bi, mm_l19, mm_add, mm_ix (by omega) (by omega), tm_r _ _ (by omega) (by omega), ha]
theorem s13 {μ : pw_Mem} {p w : Nat} (hp : p < 5) (hw : μ 55 (24 + p) = nI w) (ls : List Nat) (hl : ls.length + 1 < 16) : fn_X6_size13 (nI p) (tm μ ls) = some (nI w - (100 : Int32), tm μ (ls ++ [13] ++ [10])) := by
  rw [fn_X6_size13, (show fn_X6_traces (13 : Int32) (tm μ ls) = some (tm μ (ls ++ [13])) from m_traces (by omega) 13), mm_bv, s10 hp hw _ (by simp only [ap_len]; omega), mm_bi]
theorem s11 {μ : pw_Mem} {p w : Nat} (hp : p < 5) (hw : μ 55 (24 + p) = nI w) (ls ls' : List Nat) (v : Int32) (hl : ls.length + 1 < 16) (H : fn_X6_markOf (nI p) (tm μ (ls ++ [11] ++ [10])) = some (v, tm μ ls')) : fn_X6_size11 (nI p) (tm μ ls) = some (nI w + v, tm μ ls') := by
  rw [fn_X6_size11, (show fn_X6_traces (11 : Int32) (tm μ ls) = some (tm μ (ls ++ [11])) from m_traces (by omega) 11), mm_bv, s10 hp hw _ (by simp only [ap_len]; omega), mm_bi, H, mm_bi]
theorem mk_1 {μ : pw_Mem} {p w a : Nat} (hp : p < 5) (hk : μ 55 (13 + p) = nI 1) (ha : μ 55 (19 + p) = nI a) (hw : μ 55 (24 + p) = nI w) (ls : List Nat) (hl : ls.length + 2 < 16) : fn_X6_markOf (nI p) (tm μ ls) = some (nI p + nI a, tm μ (ls ++ [21] ++ [20])) := by
  rw [fn_X6_markOf, mm_l13, mm_add, mm_ix (by omega) (by omega), tm_r _ _ (by omega) (by omega), hk, if_neg (by decide), if_neg (by decide), s21 hp ha _ (by omega), mm_bi]
theorem sz_1 {μ : pw_Mem} {p w a : Nat} (hp : p < 5) (hk : μ 55 (13 + p) = nI 1) (ha : μ 55 (19 + p) = nI a) (hw : μ 55 (24 + p) = nI w) (ls : List Nat) (hl : ls.length + 6 < 16) : fn_X6_sizeOf (nI p) (tm μ ls) = some (nI w + (nI p + nI a), tm μ (ls ++ [11] ++ [10] ++ [21] ++ [20])) := by
  rw [fn_X6_sizeOf, mm_l13, mm_add, mm_ix (by omega) (by omega), tm_r _ _ (by omega) (by omega), hk, if_neg (by decide), if_neg (by decide), if_neg (by decide), s11 hp hw ls _ _ (by omega) (mk_1 hp hk ha hw _ (by simp only [ap_len]; omega)), mm_bi]
theorem mk_2 {μ : pw_Mem} {p w a : Nat} (hp : p < 5) (hk : μ 55 (13 + p) = nI 2) (ha : μ 55 (19 + p) = nI a) (hw : μ 55 (24 + p) = nI w) (ls : List Nat) (hl : ls.length + 2 < 16) : fn_X6_markOf (nI p) (tm μ ls) = some ((2 : Int32) * (nI p + nI a), tm μ (ls ++ [24] ++ [21] ++ [20])) := by
  rw [fn_X6_markOf, mm_l13, mm_add, mm_ix (by omega) (by omega), tm_r _ _ (by omega) (by omega), hk, if_pos (by decide), (show fn_X6_traces (24 : Int32) (tm μ ls) = some (tm μ (ls ++ [24])) from m_traces (by omega) 24), mm_bv, s21 hp ha _ (by simp only [ap_len]; omega), mm_bi]
theorem sz_2 {μ : pw_Mem} {p w a : Nat} (hp : p < 5) (hk : μ 55 (13 + p) = nI 2) (ha : μ 55 (19 + p) = nI a) (hw : μ 55 (24 + p) = nI w) (ls : List Nat) (hl : ls.length + 6 < 16) : fn_X6_sizeOf (nI p) (tm μ ls) = some (-(nI w + (2 : Int32) * (nI p + nI a)), tm μ (ls ++ [12] ++ [11] ++ [10] ++ [24] ++ [21] ++ [20])) := by
  rw [fn_X6_sizeOf, mm_l13, mm_add, mm_ix (by omega) (by omega), tm_r _ _ (by omega) (by omega), hk, if_pos (by decide), (show fn_X6_traces (12 : Int32) (tm μ ls) = some (tm μ (ls ++ [12])) from m_traces (by omega) 12), mm_bv, s11 hp hw _ _ _ (by simp only [ap_len]; omega) (mk_2 hp hk ha hw _ (by simp only [ap_len]; omega)), mm_bi]
theorem mk_3 {μ : pw_Mem} {p w a : Nat} (hp : p < 5) (hk : μ 55 (13 + p) = nI 3) (ha : μ 55 (19 + p) = nI a) (hw : μ 55 (24 + p) = nI w) (ls : List Nat) (hl : ls.length + 2 < 16) : fn_X6_markOf (nI p) (tm μ ls) = some (nI p + nI a - (1000 : Int32), tm μ (ls ++ [22] ++ [21] ++ [20])) := by
  rw [fn_X6_markOf, mm_l13, mm_add, mm_ix (by omega) (by omega), tm_r _ _ (by omega) (by omega), hk, if_neg (by decide), if_pos (by decide), (show fn_X6_traces (22 : Int32) (tm μ ls) = some (tm μ (ls ++ [22])) from m_traces (by omega) 22), mm_bv, s21 hp ha _ (by simp only [ap_len]; omega), mm_bi]
theorem sz_3 {μ : pw_Mem} {p w a : Nat} (hp : p < 5) (hk : μ 55 (13 + p) = nI 3) (ha : μ 55 (19 + p) = nI a) (hw : μ 55 (24 + p) = nI w) (ls : List Nat) (hl : ls.length + 6 < 16) : fn_X6_sizeOf (nI p) (tm μ ls) = some (nI w + (nI p + nI a - (1000 : Int32)), tm μ (ls ++ [11] ++ [10] ++ [22] ++ [21] ++ [20])) := by
  rw [fn_X6_sizeOf, mm_l13, mm_add, mm_ix (by omega) (by omega), tm_r _ _ (by omega) (by omega), hk, if_neg (by decide), if_neg (by decide), if_neg (by decide), s11 hp hw ls _ _ (by omega) (mk_3 hp hk ha hw _ (by simp only [ap_len]; omega)), mm_bi]
theorem sz_4 {μ : pw_Mem} {p w a : Nat} (hp : p < 5) (hk : μ 55 (13 + p) = nI 4) (ha : μ 55 (19 + p) = nI a) (hw : μ 55 (24 + p) = nI w) (ls : List Nat) (hl : ls.length + 6 < 16) : fn_X6_sizeOf (nI p) (tm μ ls) = some (nI w - (100 : Int32), tm μ (ls ++ [13] ++ [10])) := by
  rw [fn_X6_sizeOf, mm_l13, mm_add, mm_ix (by omega) (by omega), tm_r _ _ (by omega) (by omega), hk, if_neg (by decide), if_pos (by decide), s13 hp hw _ (by omega), mm_bi]
theorem mk_4 {μ : pw_Mem} {p w a : Nat} (hp : p < 5) (hk : μ 55 (13 + p) = nI 4) (ha : μ 55 (19 + p) = nI a) (hw : μ 55 (24 + p) = nI w) (ls : List Nat) (hl : ls.length + 8 < 16) : fn_X6_mark23 (nI p) (tm μ ls) = some (nI p - (nI w - (100 : Int32)), tm μ (ls ++ [23] ++ [20] ++ [13] ++ [10])) := by
  rw [fn_X6_mark23, (show fn_X6_traces (23 : Int32) (tm μ ls) = some (tm μ (ls ++ [23])) from m_traces (by omega) 23), mm_bv, s20 hp _ (by simp only [ap_len]; omega), mm_bi, sz_4 hp hk ha hw _ (by simp only [ap_len]; omega), mm_bi]
theorem sz_5 {μ : pw_Mem} {p w a : Nat} (hp : p < 5) (hk : μ 55 (13 + p) = nI 5) (ha : μ 55 (19 + p) = nI a) (hw : μ 55 (24 + p) = nI w) (ls : List Nat) (hl : ls.length + 6 < 16) : fn_X6_sizeOf (nI p) (tm μ ls) = some ((2 : Int32) * (nI w - (100 : Int32)), tm μ (ls ++ [14] ++ [13] ++ [10])) := by
  rw [fn_X6_sizeOf, mm_l13, mm_add, mm_ix (by omega) (by omega), tm_r _ _ (by omega) (by omega), hk, if_neg (by decide), if_neg (by decide), if_pos (by decide), (show fn_X6_traces (14 : Int32) (tm μ ls) = some (tm μ (ls ++ [14])) from m_traces (by omega) 14), mm_bv, s13 hp hw _ (by simp only [ap_len]; omega), mm_bi]
theorem mk_5 {μ : pw_Mem} {p w a : Nat} (hp : p < 5) (hk : μ 55 (13 + p) = nI 5) (ha : μ 55 (19 + p) = nI a) (hw : μ 55 (24 + p) = nI w) (ls : List Nat) (hl : ls.length + 8 < 16) : fn_X6_mark23 (nI p) (tm μ ls) = some (nI p - (2 : Int32) * (nI w - (100 : Int32)), tm μ (ls ++ [23] ++ [20] ++ [14] ++ [13] ++ [10])) := by
  rw [fn_X6_mark23, (show fn_X6_traces (23 : Int32) (tm μ ls) = some (tm μ (ls ++ [23])) from m_traces (by omega) 23), mm_bv, s20 hp _ (by simp only [ap_len]; omega), mm_bi, sz_5 hp hk ha hw _ (by simp only [ap_len]; omega), mm_bi]
theorem q_ask {μ : pw_Mem} (I : Iv μ) (a1 a2 : Int32) : Ok2 (fn_X5_ask a1 a2) (fn_X6_ask a1 a2) μ := by
  have I' := I
  obtain ⟨ρ, N, A, G, W, T, U, V⟩ := I
  obtain ⟨B0, B1, B2⟩ := N.b0
  unfold Ok2
  have Y1 := x_isPulpit N.1 B1 a1
  have Z1 := m_isPulpit N.2.1 B1 a1
  rcases bw_c a1 0 ((ρ 1 : Int) - 1) with b1 | ⟨b1, c1, e1⟩
  · exact ⟨(-1000001 : Int32), μ, μ, by simp only [fn_X5_ask, Y1, b1, mm_bi, mm_n00, mm_n10, if_true, if_false, ne_eq, not_true_eq_false, not_false_eq_true], by simp only [fn_X6_ask, Z1, b1, mm_bi, mm_n00, mm_n10, if_true, if_false, ne_eq, not_true_eq_false, not_false_eq_true], I'⟩
  clear Y1 Z1
  obtain ⟨j1, rfl, l1, u1, t1⟩ := bw_n c1 e1 (by omega)
  clear c1 e1
  have X1 : fn_X5_isPulpit (nI j1) μ = some (nI 1, μ) := by rw [x_isPulpit N.1 B1, b1]
  have M1 : ∀ m, rd_M m 0 ρ → fn_X6_isPulpit (nI j1) m = some (nI 1, m) := fun m h => by rw [m_isPulpit h B1, b1]
  clear b1
  have Y2 := (show fn_X5_isWithin a2 (0 : Int32) (1 : Int32) μ = some (nI (bw a2 0 1), μ) from x_isWithin a2 _ _ μ)
  have Z2 := (show fn_X6_in a2.toInt64 (0 : Int64) (1 : Int64) μ = some (nI (bw a2 0 1), μ) from m_in_nat a2 (lo := 0) (hi := 1) (by omega) (by omega) μ)
  rcases bw_c a2 0 1 with b2 | ⟨b2, c2, e2⟩
  · exact ⟨(-1000001 : Int32), μ, μ, by simp only [fn_X5_ask, X1, Y2, b2, mm_bi, mm_n00, mm_n10, if_true, if_false, ne_eq, not_true_eq_false, not_false_eq_true], by simp only [fn_X6_ask, M1 μ N.2.1, Z2, b2, mm_bi, mm_n00, mm_n10, if_true, if_false, ne_eq, not_true_eq_false, not_false_eq_true], I'⟩
  clear Y2 Z2
  obtain ⟨j2, rfl, l2, u2, t2⟩ := bw_n c2 e2 (by omega)
  clear c2 e2
  have X2 : ∀ m, fn_X5_isWithin (nI j2) (0 : Int32) (1 : Int32) m = some (nI 1, m) := fun m => by rw [(show fn_X5_isWithin _ (0 : Int32) (1 : Int32) m = some (nI (bw _ 0 1), m) from x_isWithin _ _ _ m), b2]
  have M2 : ∀ m, fn_X6_in ((nI j2)).toInt64 (0 : Int64) (1 : Int64) m = some (nI 1, m) := fun m => by rw [(show fn_X6_in _ (0 : Int64) (1 : Int64) m = some (nI (bw _ 0 1), m) from m_in_nat _ (lo := 0) (hi := 1) (by omega) (by omega) m), b2]
  clear b2
  obtain ⟨hs, ok⟩ := N.rk_of (by omega)
  have h1 := ok.2.1
  have hlt : j1 < ρ 1 := by omega
  have hk := (ok.2.2.2.2.2 j1 hlt).1
  have E := N.1.2.2.2.2.2.2 j1 hlt
  have F : ∀ i, i < 38 → μ 55 i = nI (ρ i) := fun i hi => by have := N.2.1 i hi; rwa [Nat.zero_add] at this
  have F1 := F (13 + j1) (by omega)
  have F2 := F (19 + j1) (by omega)
  have F3 := F (24 + j1) (by omega)
  have hp : j1 < 5 := by omega
  have R : ∀ ls, rd_M (tx μ ls) 0 ρ := fun ls => rd_M_same N.2.1 (fun i _ => by rw [tx_r _ _ (by omega) (by omega)])
  have XA := x_ask (W := j2) hp (by omega) E.1 E.2.1 E.2.2 hk.1 hk.2
  refine ⟨av j2 (ρ (13 + j1)) j1 (ρ (19 + j1)) (ρ (24 + j1)), tx μ (ak j2 (ρ (13 + j1))), tm (tx μ (ak j2 (ρ (13 + j1)))) (ak j2 (ρ (13 + j1))), ?_, ?_, I'.traced (ak_len (by omega) hk.1 hk.2)⟩
  · simp only [fn_X5_ask, X1, X2, mm_bi, mm_n00, mm_n10, if_true, if_false, ne_eq, not_true_eq_false, not_false_eq_true]
    rw [tx_0, show fn_X1_begin 4 (nI j1) (nI j2) (0 : Int32) (tx μ []) = some (av j2 (ρ (13 + j1)) j1 (ρ (19 + j1)) (ρ (24 + j1)), tx μ (ak j2 (ρ (13 + j1)))) from XA, mm_bi]
  · simp only [fn_X6_ask, M1 _ (R _), M2, mm_bi, mm_n00, mm_n10, if_true, if_false, ne_eq, not_true_eq_false, not_false_eq_true]
    obtain ⟨ν, hν⟩ : ∃ ν, ν = tx μ (ak j2 (ρ (13 + j1))) := ⟨_, rfl⟩
    rw [← hν, tm_0]
    have F4 : ν 55 = μ 55 := by rw [hν, tx_r _ _ (by omega) (by omega)]
    rw [← F4] at F1 F2 F3
    have F5 : (tm ν []) 55 (13 + j1) = nI (ρ (13 + j1)) := by rw [tm_r _ _ (by omega) (by omega)]; exact F1
    clear hν XA R E F F4 ok N I' A G W T U V X1 M1 X2 M2 hs
    generalize ρ (13 + j1) = K at *
    generalize ρ (19 + j1) = a at *
    generalize ρ (24 + j1) = w at *
    have c : K = 1 ∨ K = 2 ∨ K = 3 ∨ K = 4 ∨ K = 5 := by omega
    have b : j2 = 0 ∨ j2 = 1 := by omega
    rcases b with rfl | rfl
    · rw [if_neg (fun z => z n00)]
      rcases c with rfl | rfl | rfl | rfl | rfl
      · rw [sz_1 hp F1 F2 F3 [] (by decide), mm_bi]; rfl
      · rw [sz_2 hp F1 F2 F3 [] (by decide), mm_bi]; rfl
      · rw [sz_3 hp F1 F2 F3 [] (by decide), mm_bi]; rfl
      · rw [sz_4 hp F1 F2 F3 [] (by decide), mm_bi]; rfl
      · rw [sz_5 hp F1 F2 F3 [] (by decide), mm_bi]; rfl
    · rw [if_pos n10, mm_l13, mm_add, mm_ix (by omega) (by omega), F5]
      rcases c with rfl | rfl | rfl | rfl | rfl
      · rw [if_pos (by decide), mk_1 hp F1 F2 F3 [] (by decide), mm_bi]; rfl
      · rw [if_pos (by decide), mk_2 hp F1 F2 F3 [] (by decide), mm_bi]; rfl
      · rw [if_pos (by decide), mk_3 hp F1 F2 F3 [] (by decide), mm_bi]; rfl
      · rw [if_neg (by decide), mk_4 hp F1 F2 F3 [] (by decide), mm_bi]; rfl
      · rw [if_neg (by decide), mk_5 hp F1 F2 F3 [] (by decide), mm_bi]; rfl
