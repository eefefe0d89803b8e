/-! ROAD: a road read off the tape, on both sides at once -/
def DX (m : pw_Mem) (σ : Rd) : Prop := m 11 0 = nI 1 ∧ m 11 1 = nI (σ 2) ∧ m 11 2 = nI (σ 3) ∧ m 11 3 = nI 0 ∧ m 11 4 = nI (σ 0) ∧ m 11 5 = nI (σ 1) ∧ (∀ s, s < σ 0 → m 12 s = nI (σ (4 + s))) ∧ (∀ s, s < 9 → m 13 s = nI 0) ∧ ∀ p, p < σ 1 → m 14 p = nI (σ (13 + p)) ∧ m 15 p = nI (σ (19 + p)) ∧ m 16 p = nI (σ (24 + p))
def dk (σ : Rd) : Prop := σ 0 ≤ 9 ∧ σ 1 ≤ 5 ∧ (4 ≤ σ 2 ∧ σ 2 ≤ 16) ∧ σ 3 < σ 2 ∧ σ 18 = 0 ∧ (∀ s, s < 9 → σ (29 + s) = 0) ∧ (∀ s, s < σ 0 → σ (4 + s) ≤ 2) ∧ ∀ p, p < σ 1 → (1 ≤ σ (13 + p) ∧ σ (13 + p) ≤ 5) ∧ σ (19 + p) < σ 0 ∧ σ (24 + p) < σ 2
theorem dk.rk' {σ : Rd} (h : dk σ) (h3 : 3 ≤ σ 0) : rk σ := by
  obtain ⟨a0, a1, a2, a3, a4, a5, a6, a7⟩ := h
  exact ⟨⟨h3, a0⟩, a1, a2, a3, fun s hs => ⟨a6 s hs, by rw [a5 s (by omega)]; exact Nat.two_pow_pos _⟩, a7⟩
theorem DX.rd {m : pw_Mem} {σ : Rd} (h : DX m σ) (k : dk σ) : rd_X m 11 σ := by
  obtain ⟨b0, b1, b2, b3, b4, b5, b6, b7, b8⟩ := h
  obtain ⟨a0, a1, a2, a3, a4, a5, a6, a7⟩ := k
  exact ⟨b1, b2, by rw [a4]; exact b3, b4, b5, fun s hs => ⟨b6 s hs, by rw [a5 s (by omega)]; exact b7 s (by omega)⟩, b8⟩
def GX (m m' : pw_Mem) : Prop := ∀ k, k ≠ 2 → (k < 11 ∨ 16 < k) → m' k = m k
def GM (m m' : pw_Mem) : Prop := (∀ k, k ≠ 54 → k ≠ 55 → m' k = m k) ∧ (∀ j, j ≠ 4 → j ≠ 10 → j ≠ 11 → j ≠ 12 → m' 54 j = m 54 j) ∧ ∀ i, i < 152 ∨ 190 ≤ i → m' 55 i = m 55 i
theorem GX.to {a b c : pw_Mem} (h : GX a b) (g : ∀ k, k ≠ 2 → c k = b k) : GX a c := fun k h1 h2 => by rw [g k h1, h k h1 h2]
theorem GX.to2 {a b c : pw_Mem} (h : GX a b) (g : ∀ k, k ≠ 2 → (k < 11 ∨ 16 < k) → c k = b k) : GX a c := fun k h1 h2 => by rw [g k h1 h2, h k h1 h2]
theorem GX.st {a b : pw_Mem} (h : GX a b) {k j : Nat} (v : Int32) (hk : k = 2 ∨ (11 ≤ k ∧ k ≤ 16)) : GX a (pw_st b k j v) := fun i h1 h2 => by rw [ms_row _ _ (by omega), h i h1 h2]
theorem GM.to {a b c : pw_Mem} (h : GM a b) (g : HM b c) : GM a c := ⟨fun k h1 h2 => by rw [g.1 k h1, h.1 k h1 h2], fun j h1 h2 h3 h4 => by rw [g.2 j h1 h2 h3 h4, h.2.1 j h1 h2 h3 h4], fun i hi => by rw [g.1 55 (by omega), h.2.2 i hi]⟩
theorem GM.st {a b : pw_Mem} (h : GM a b) {j : Nat} (v : Int32) (hj : 152 ≤ j ∧ j < 190) : GM a (pw_st b 55 j v) := ⟨fun k h1 h2 => by rw [ms_row _ _ h2, h.1 k h1 h2], fun i h1 h2 h3 h4 => by rw [ms_row _ _ (by omega), h.2.1 i h1 h2 h3 h4], fun i hi => by rw [ms_nj _ _ (by omega), h.2.2 i hi]⟩
theorem GM.st54 {a b : pw_Mem} (h : GM a b) {j : Nat} (v : Int32) (hj : j = 4 ∨ j = 10 ∨ j = 11 ∨ j = 12) : GM a (pw_st b 54 j v) := h.to (HM_st b v hj)
theorem TX.st {t : Nat → Nat} {L x : Nat} {m : pw_Mem} (T : TX t L m x) {k j : Nat} (v : Int32) (h : k ≠ 2) (h3 : k ≠ 3) : TX t L (pw_st m k j v) x := ⟨by rw [ms_row _ _ (by omega)]; exact T.1, fun i hi => by rw [ms_row _ _ (by omega)]; exact T.2.1 i hi, by rw [ms_row _ _ (by omega)]; exact T.2.2.1, by rw [ms_row _ _ (by omega)]; exact T.2.2.2⟩
theorem TX.go {t : Nat → Nat} {L x : Nat} {m : pw_Mem} (T : TX t L m x) (y : Nat) : TX t L (pw_st m 2 2 (nI y)) y := ⟨by rw [ms_nj _ _ (by omega)]; exact T.1, fun i hi => by rw [ms_row _ _ (by omega)]; exact T.2.1 i hi, ms_eq _ _ _ _, by rw [ms_nj _ _ (by omega)]; exact T.2.2.2⟩
theorem TM.st {t : Nat → Nat} {L x : Nat} {m : pw_Mem} (T : TM t L m x) {j : Nat} (v : Int32) : TM t L (pw_st m 55 j v) x := ⟨by rw [ms_row _ _ (by omega)]; exact T.1, fun i hi => by rw [ms_row _ _ (by omega)]; exact T.2.1 i hi, by rw [ms_row _ _ (by omega)]; exact T.2.2⟩
theorem TM.go {t : Nat → Nat} {L x : Nat} {m : pw_Mem} (T : TM t L m x) (y : Nat) : TM t L (pw_st m 54 10 (nI y)) y := (HM_st m _ (by omega)).tm T (ms_eq _ _ _ _)
def OX (t : Nat → Nat) (L : Nat) (m : pw_Mem) (res : Option (Int32 × pw_Mem)) (f y x : Nat) (σ : Rd) : Prop := ∃ m', GX m m' ∧ ((f = 0 ∧ res = some (nI 1, m') ∧ TX t L m' x ∧ DX m' σ) ∨ (f ≠ 0 ∧ res = some (nI 0, m') ∧ m' 2 2 = nI y ∧ m' 2 3 = nI f))
def OM (t : Nat → Nat) (L : Nat) (m : pw_Mem) (S : pw_Mem → Option (Int32 × pw_Mem)) (res : Option (Int32 × pw_Mem)) (f y x : Nat) (σ : Rd) : Prop := ∃ m', GM m m' ∧ ((f = 0 ∧ res = S m' ∧ TM t L m' x ∧ rd_M m' 152 σ ∧ m' 54 4 = m 54 4) ∨ (f ≠ 0 ∧ res = some (nI 0, m') ∧ m' 54 4 = nI f ∧ m' 54 11 = nI y))
/-- both sides come to the same -/
def RR (t : Nat → Nat) (L : Nat) (m n : pw_Mem) (S : pw_Mem → Option (Int32 × pw_Mem)) (Q : Nat → Rd → Prop) (rx rm : Option (Int32 × pw_Mem)) : Prop := ∃ f y x σ, OX t L m rx f y x σ ∧ OM t L n S rm f y x σ ∧ (f = 0 → Q x σ)
section RO
variable {t : Nat → Nat} {L : Nat} {m0 n0 : pw_Mem} {S : pw_Mem → Option (Int32 × pw_Mem)} {Q : Nat → Rd → Prop}
theorem RR.ok {m n : pw_Mem} {x : Nat} {σ : Rd} (G : GX m0 m) (G' : GM n0 n) (T : TX t L m x) (T' : TM t L n x) (D : DX m σ) (R : rd_M n 152 σ) (E : n 54 4 = n0 54 4) (q : Q x σ) : RR t L m0 n0 S Q (some (nI 1, m)) (S n) := ⟨0, 0, x, σ, ⟨m, G, Or.inl ⟨rfl, rfl, T, D⟩⟩, ⟨n, G', Or.inl ⟨rfl, rfl, T', R, E⟩⟩, fun _ => q⟩
theorem RR.no {m n : pw_Mem} {f y : Nat} (G : GX m0 m) (G' : GM n0 n) (hf : f ≠ 0) (h2 : m 2 2 = nI y) (h3 : m 2 3 = nI f) (h4 : n 54 4 = nI f) (h5 : n 54 11 = nI y) : RR t L m0 n0 S Q (some (nI 0, m)) (some (nI 0, n)) := ⟨f, y, 0, fun _ => 0, ⟨m, G, Or.inr ⟨hf, rfl, h2, h3⟩⟩, ⟨n, G', Or.inr ⟨hf, rfl, h4, h5⟩⟩, fun z => absurd z hf⟩
theorem st_sign (hL : L ≤ 90) (ht : ∀ i, i < L → t i < 256) {mx mm : pw_Mem} {x c : Nat} (T : TX t L mx x) (T' : TM t L mm x) (hx : x ≤ L) (hc : c < 256) (G : GX m0 mx) (G' : GM n0 mm) (E : mm 54 4 = n0 54 4) {KX KM : Int32 → pw_Mem → Option (Int32 × pw_Mem)} (x0 : ∀ m, KX (nI 0) m = some (nI 0, m)) (z0 : ∀ m, KM (nI 0) m = some (nI 0, m)) (go : ∀ m1 n1, x + 1 ≤ L → TX t L m1 (x + 1) → TM t L n1 (x + 1) → GX m0 m1 → GM n0 n1 → n1 54 4 = n0 54 4 → (∀ k, k ≠ 2 → m1 k = mx k) → (∀ k, k ≠ 54 → n1 k = mm k) → RR t L m0 n0 S Q (KX (nI 1) m1) (KM (nI 1) n1)) : RR t L m0 n0 S Q (fn_bi (fn_X4_takeSign (nI c) mx) KX) (fn_bi (fn_X6_takes (nI c) mm) KM) := by
  by_cases q : x < L ∧ t x = c
  · obtain ⟨m1, a1, a2, a3⟩ := x_sign_ok hL ht T hx hc q
    obtain ⟨n1, b1, b2, b3, b4⟩ := m_sign_ok hL ht T' hx hc q
    rw [a1, b1, mm_bi, mm_bi]
    exact go m1 n1 (by omega) a2 b2 (G.to a3) (G'.to b4) (b3.trans E) a3 b4.1
  · obtain ⟨m1, a1, a2, a3, a4⟩ := x_sign_no hL ht T hx hc q
    obtain ⟨n1, b1, b2, b3, b4⟩ := m_sign_no hL ht T' hx hc q
    rw [a1, b1, mm_bi, mm_bi, x0, z0]
    exact RR.no (G.to a4) (G'.to b4) (by omega) a2 a3 b2 b3
theorem st_num (hL : L ≤ 90) (ht : ∀ i, i < L → t i < 256) {mx mm : pw_Mem} {x lo hi : Nat} (T : TX t L mx x) (T' : TM t L mm x) (hx : x ≤ L) (hlo : lo < 1000) (hhi : hi < 1000) (G : GX m0 mx) (G' : GM n0 mm) (E : mm 54 4 = n0 54 4) {KX KM : Int32 → pw_Mem → Option (Int32 × pw_Mem)} (x0 : ∀ m, m 2 3 ≠ 0 → ∃ m', KX (nI lo) m = some (nI 0, m') ∧ (∀ k, k ≠ 2 → (k < 11 ∨ 16 < k) → m' k = m k) ∧ m' 2 = m 2) (z0 : ∀ m, KM (nI 0) m = some (nI 0, m)) (go : ∀ m1 n1 v e, e ≤ L → lo ≤ v → v ≤ hi → TX t L m1 e → TM t L n1 e → n1 54 12 = nI v → GX m0 m1 → GM n0 n1 → n1 54 4 = n0 54 4 → (∀ k, k ≠ 2 → m1 k = mx k) → (∀ k, k ≠ 54 → n1 k = mm k) → RR t L m0 n0 S Q (KX (nI v) m1) (KM (nI 1) n1)) : RR t L m0 n0 S Q (fn_bi (fn_X4_takeNumber (nI lo) (nI hi) mx) KX) (fn_bi (fn_X6_takesNumber (nI lo) (nI hi) mm) KM) := by
  by_cases q : tn_f t L x lo hi = 0
  · obtain ⟨m1, a1, a2, a3⟩ := x_num_ok hL ht T hx hlo hhi q
    obtain ⟨n1, b1, b2, b5, b3, b4⟩ := (m_num hL ht T' hx hlo hhi).1 q
    have k := tn_ok q
    rw [a1, b1, mm_bi, mm_bi]
    exact go m1 n1 _ _ k.1 k.2.2.1 k.2.2.2 a2 b2 b5 (G.to a3) (G'.to b4) (b3.trans E) a3 b4.1
  · obtain ⟨m1, a1, a2, a3, a4⟩ := x_num_no hL ht T hx hlo hhi q
    obtain ⟨n1, b1, b2, b3, b4⟩ := (m_num hL ht T' hx hlo hhi).2 q
    have hf := tn_f_lt (t := t) (L := L) x lo hi
    obtain ⟨m', c1, c2, c3⟩ := x0 m1 (by rw [a3]; exact nI_ne0 (by omega) (by omega))
    rw [a1, b1, mm_bi, mm_bi, c1, z0]
    exact RR.no ((G.to a4).to2 c2) (G'.to b4) q (by rw [c3]; exact a2) (by rw [c3]; exact a3) b2 b3
theorem dk_law {W H : Nat} (h1 : 4 ≤ W) (h2 : W ≤ 16) (h3 : H ≤ W - 1) : dk (upR (upR (fun _ => 0) 2 W) 3 H) := by
  refine ⟨Nat.zero_le _, Nat.zero_le _, ⟨h1, h2⟩, ?_, rfl, fun s hs => ?_, fun s hs => ?_, fun p hp => ?_⟩
  · show H < W; omega
  · rw [upR_ne _ _ (by omega), upR_ne _ _ (by omega)]
  · exact absurd hs (by show ¬ s < 0; omega)
  · exact absurd hp (by show ¬ p < 0; omega)
theorem r_law (hL : L ≤ 90) (ht : ∀ i, i < L → t i < 256) {mx mm : pw_Mem} (T : TX t L mx 0) (T' : TM t L mm 0) (G : GX m0 mx) (G' : GM n0 mm) (E : mm 54 4 = n0 54 4) (d0 : mx 11 0 = nI 1) (d3 : mx 11 3 = nI 0) (d4 : mx 11 4 = nI 0) (d5 : mx 11 5 = nI 0) (dh : ∀ s, s < 9 → mx 13 s = nI 0) (Z : rd_M mm 152 (fun _ => 0)) : RR t L m0 n0 (fun m => some (nI 1, m)) (fun x σ => dk σ ∧ x ≤ L ∧ σ 0 = 0 ∧ σ 1 = 0) (fn_X4_readLaw 11 mx) (fn_X6_takesLaw mm) := by
  unfold fn_X4_readLaw fn_X6_takesLaw
  simp only [mm_l112, mm_l4, mm_l16, mm_l44, mm_l59, mm_l154, mm_l155]
  refine st_sign hL ht T T' (by omega) (by omega) G G' E (fun m => rfl) (fun m => rfl) (fun m1 n1 h1 A1 B1 G1 G1' E1 a1 b1 => ?_)
  rw [if_pos n10, if_neg n10]
  refine st_num hL ht A1 B1 h1 (by omega) (by omega) G1 G1' E1 (fun m hm => ⟨pw_st m 11 1 (nI 4), ?_, fun k _ hk => ms_row _ _ (by omega), ms_row _ _ (by omega)⟩) (fun m => rfl) (fun m2 n2 W e2 h2 w1 w2 A2 B2 v2 G2 G2' E2 a2 b2 => ?_)
  · rw [show (pw_st m 11 1 (nI 4)) 2 3 = m 2 3 by rw [ms_row _ _ (by omega)], if_pos hm]; rfl
  rw [show (pw_st m2 11 1 (nI W)) 2 3 = nI 0 by rw [ms_row _ _ (by omega)]; exact A2.2.2.2, if_neg (fun z => z n00), if_pos n10, mm_ix (by omega) (by omega), v2]
  refine st_sign hL ht (A2.st _ (by omega) (by omega)) (B2.st _) h2 (by omega) (G2.st _ (by omega)) (G2'.st _ (by omega)) (by rw [ms_row _ _ (by omega)]; exact E2) (fun m => rfl) (fun m => rfl) (fun m3 n3 h3 A3 B3 G3 G3' E3 a3 b3 => ?_)
  have x1 : m3 11 1 = nI W := by rw [a3 11 (by omega), ms_eq]
  have y1 : n3 55 154 = nI W := by rw [b3 55 (by omega), ms_eq]
  rw [if_pos n10, if_neg n10, mm_ix (by omega) (by omega), x1, y1, show nI W - (1 : Int32) = nI (W - 1) from mm_sub (a := W) (b := 1) (by omega)]
  refine st_num (lo := 0) hL ht A3 B3 h3 (by omega) (by omega) G3 G3' E3 (fun m hm => ⟨pw_st m 11 2 (nI 0), ?_, fun k _ hk => ms_row _ _ (by omega), ms_row _ _ (by omega)⟩) (fun m => rfl) (fun m4 n4 H e4 h4 u1 u2 A4 B4 v4 G4 G4' E4 a4 b4 => ?_)
  · rw [show (pw_st m 11 2 (nI 0)) 2 3 = m 2 3 by rw [ms_row _ _ (by omega)], if_pos hm]; rfl
  rw [show (pw_st m4 11 2 (nI H)) 2 3 = nI 0 by rw [ms_row _ _ (by omega)]; exact A4.2.2.2, if_neg (fun z => z n00), if_pos n10, mm_ix (by omega) (by omega), v4]
  refine st_sign hL ht (A4.st _ (by omega) (by omega)) (B4.st _) h4 (by omega) (G4.st _ (by omega)) (G4'.st _ (by omega)) (by rw [ms_row _ _ (by omega)]; exact E4) (fun m => rfl) (fun m => rfl) (fun m5 n5 h5 A5 B5 G5 G5' E5 a5 b5 => ?_)
  have R : rd_M n5 152 (upR (upR (fun _ => 0) 2 W) 3 H) := by
    have r2 : rd_M (pw_st n2 55 154 (nI W)) 152 (upR (fun _ => 0) 2 W) := m_up (rd_M_same Z (fun i _ => by rw [b2 55 (by omega), b1 55 (by omega)])) 2 W
    have r4 : rd_M (pw_st n4 55 155 (nI H)) 152 (upR (upR (fun _ => 0) 2 W) 3 H) := m_up (rd_M_same r2 (fun i _ => by rw [b4 55 (by omega), b3 55 (by omega)])) 3 H
    exact rd_M_same r4 (fun i _ => by rw [b5 55 (by omega)])
  refine RR.ok (σ := upR (upR (fun _ => 0) 2 W) 3 H) (S := fun m => some (nI 1, m)) G5 G5' A5 B5 ⟨?_, ?_, ?_, ?_, ?_, ?_, fun s hs => ?_, fun s hs => ?_, fun p hp => ?_⟩ R E5 ⟨dk_law w1 w2 u2, h5, rfl, rfl⟩
  · simp (disch := omega) only [a5, a4, a3, a2, a1, ms_row, ms_nj, ms_eq]; exact d0
  · simp (disch := omega) only [a5, a4, a3, a2, a1, ms_row, ms_nj, ms_eq]; rfl
  · simp (disch := omega) only [a5, a4, a3, a2, a1, ms_row, ms_nj, ms_eq]; rfl
  · simp (disch := omega) only [a5, a4, a3, a2, a1, ms_row, ms_nj, ms_eq]; exact d3
  · simp (disch := omega) only [a5, a4, a3, a2, a1, ms_row, ms_nj, ms_eq]; exact d4
  · simp (disch := omega) only [a5, a4, a3, a2, a1, ms_row, ms_nj, ms_eq]; exact d5
  · exact absurd hs (by show ¬ s < 0; omega)
  · simp (disch := omega) only [a5, a4, a3, a2, a1, ms_row, ms_nj, ms_eq]; exact dh s hs
  · exact absurd hp (by show ¬ p < 0; omega)
end RO
